theorem dX0_init_0 : decode cX0_init 0 = .ok (.aload_n 0, 1) := by decide +kernel
theorem dX0_init_1 : decode cX0_init 1 = .ok (.invokespecial 3, 3) := by decide +kernel
theorem dX0_init_4 : decode cX0_init 4 = .ok (.aload_n 0, 1) := by decide +kernel
theorem dX0_init_5 : decode cX0_init 5 = .ok (.bipush 7, 2) := by decide +kernel
theorem dX0_init_7 : decode cX0_init 7 = .ok (.newarray .int, 2) := by decide +kernel
theorem dX0_init_9 : decode cX0_init 9 = .ok (.putfield 9, 3) := by decide +kernel
theorem dX0_init_12 : decode cX0_init 12 = .ok (.aload_n 0, 1) := by decide +kernel
theorem dX0_init_13 : decode cX0_init 13 = .ok (.bipush 7, 2) := by decide +kernel
theorem dX0_init_15 : decode cX0_init 15 = .ok (.newarray .int, 2) := by decide +kernel
theorem dX0_init_17 : decode cX0_init 17 = .ok (.putfield 15, 3) := by decide +kernel
theorem dX0_init_20 : decode cX0_init 20 = .ok (.aload_n 0, 1) := by decide +kernel
theorem dX0_init_21 : decode cX0_init 21 = .ok (.bipush 7, 2) := by decide +kernel
theorem dX0_init_23 : decode cX0_init 23 = .ok (.newarray .int, 2) := by decide +kernel
theorem dX0_init_25 : decode cX0_init 25 = .ok (.putfield 18, 3) := by decide +kernel
theorem dX0_init_28 : decode cX0_init 28 = .ok (.aload_n 0, 1) := by decide +kernel
theorem dX0_init_29 : decode cX0_init 29 = .ok (.bipush 7, 2) := by decide +kernel
theorem dX0_init_31 : decode cX0_init 31 = .ok (.newarray .int, 2) := by decide +kernel
theorem dX0_init_33 : decode cX0_init 33 = .ok (.putfield 21, 3) := by decide +kernel
theorem dX0_init_36 : decode cX0_init 36 = .ok (.aload_n 0, 1) := by decide +kernel
theorem dX0_init_37 : decode cX0_init 37 = .ok (.bipush 7, 2) := by decide +kernel
theorem dX0_init_39 : decode cX0_init 39 = .ok (.newarray .int, 2) := by decide +kernel
theorem dX0_init_41 : decode cX0_init 41 = .ok (.putfield 24, 3) := by decide +kernel
theorem dX0_init_44 : decode cX0_init 44 = .ok (.aload_n 0, 1) := by decide +kernel
theorem dX0_init_45 : decode cX0_init 45 = .ok (.bipush 7, 2) := by decide +kernel
theorem dX0_init_47 : decode cX0_init 47 = .ok (.newarray .int, 2) := by decide +kernel
theorem dX0_init_49 : decode cX0_init 49 = .ok (.putfield 27, 3) := by decide +kernel
theorem dX0_init_52 : decode cX0_init 52 = .ok (.return_, 1) := by decide +kernel
theorem dX0_copyFrom_0 : decode cX0_copyFrom 0 = .ok (.aload_n 0, 1) := by decide +kernel
theorem dX0_copyFrom_1 : decode cX0_copyFrom 1 = .ok (.aload_n 1, 1) := by decide +kernel
theorem dX0_copyFrom_2 : decode cX0_copyFrom 2 = .ok (.getfield 30, 3) := by decide +kernel
theorem dX0_copyFrom_5 : decode cX0_copyFrom 5 = .ok (.putfield 30, 3) := by decide +kernel
theorem dX0_copyFrom_8 : decode cX0_copyFrom 8 = .ok (.aload_n 1, 1) := by decide +kernel
theorem dX0_copyFrom_9 : decode cX0_copyFrom 9 = .ok (.getfield 9, 3) := by decide +kernel
theorem dX0_copyFrom_12 : decode cX0_copyFrom 12 = .ok (.aload_n 0, 1) := by decide +kernel
theorem dX0_copyFrom_13 : decode cX0_copyFrom 13 = .ok (.getfield 9, 3) := by decide +kernel
theorem dX0_copyFrom_16 : decode cX0_copyFrom 16 = .ok (.invokestatic 34, 3) := by decide +kernel
theorem dX0_copyFrom_19 : decode cX0_copyFrom 19 = .ok (.aload_n 1, 1) := by decide +kernel
theorem dX0_copyFrom_20 : decode cX0_copyFrom 20 = .ok (.getfield 15, 3) := by decide +kernel
theorem dX0_copyFrom_23 : decode cX0_copyFrom 23 = .ok (.aload_n 0, 1) := by decide +kernel
theorem dX0_copyFrom_24 : decode cX0_copyFrom 24 = .ok (.getfield 15, 3) := by decide +kernel
theorem dX0_copyFrom_27 : decode cX0_copyFrom 27 = .ok (.invokestatic 34, 3) := by decide +kernel
theorem dX0_copyFrom_30 : decode cX0_copyFrom 30 = .ok (.aload_n 1, 1) := by decide +kernel
theorem dX0_copyFrom_31 : decode cX0_copyFrom 31 = .ok (.getfield 18, 3) := by decide +kernel
theorem dX0_copyFrom_34 : decode cX0_copyFrom 34 = .ok (.aload_n 0, 1) := by decide +kernel
theorem dX0_copyFrom_35 : decode cX0_copyFrom 35 = .ok (.getfield 18, 3) := by decide +kernel
theorem dX0_copyFrom_38 : decode cX0_copyFrom 38 = .ok (.invokestatic 34, 3) := by decide +kernel
theorem dX0_copyFrom_41 : decode cX0_copyFrom 41 = .ok (.aload_n 1, 1) := by decide +kernel
theorem dX0_copyFrom_42 : decode cX0_copyFrom 42 = .ok (.getfield 21, 3) := by decide +kernel
theorem dX0_copyFrom_45 : decode cX0_copyFrom 45 = .ok (.aload_n 0, 1) := by decide +kernel
theorem dX0_copyFrom_46 : decode cX0_copyFrom 46 = .ok (.getfield 21, 3) := by decide +kernel
theorem dX0_copyFrom_49 : decode cX0_copyFrom 49 = .ok (.invokestatic 34, 3) := by decide +kernel
theorem dX0_copyFrom_52 : decode cX0_copyFrom 52 = .ok (.aload_n 1, 1) := by decide +kernel
theorem dX0_copyFrom_53 : decode cX0_copyFrom 53 = .ok (.getfield 24, 3) := by decide +kernel
theorem dX0_copyFrom_56 : decode cX0_copyFrom 56 = .ok (.aload_n 0, 1) := by decide +kernel
theorem dX0_copyFrom_57 : decode cX0_copyFrom 57 = .ok (.getfield 24, 3) := by decide +kernel
theorem dX0_copyFrom_60 : decode cX0_copyFrom 60 = .ok (.invokestatic 34, 3) := by decide +kernel
theorem dX0_copyFrom_63 : decode cX0_copyFrom 63 = .ok (.aload_n 1, 1) := by decide +kernel
theorem dX0_copyFrom_64 : decode cX0_copyFrom 64 = .ok (.getfield 27, 3) := by decide +kernel
theorem dX0_copyFrom_67 : decode cX0_copyFrom 67 = .ok (.aload_n 0, 1) := by decide +kernel
theorem dX0_copyFrom_68 : decode cX0_copyFrom 68 = .ok (.getfield 27, 3) := by decide +kernel
theorem dX0_copyFrom_71 : decode cX0_copyFrom 71 = .ok (.invokestatic 34, 3) := by decide +kernel
theorem dX0_copyFrom_74 : decode cX0_copyFrom 74 = .ok (.return_, 1) := by decide +kernel
theorem dX0_passTicks_0 : decode cX0_passTicks 0 = .ok (.iconst 0, 1) := by decide +kernel
theorem dX0_passTicks_1 : decode cX0_passTicks 1 = .ok (.istore_n 2, 1) := by decide +kernel
theorem dX0_passTicks_2 : decode cX0_passTicks 2 = .ok (.iconst 0, 1) := by decide +kernel
theorem dX0_passTicks_3 : decode cX0_passTicks 3 = .ok (.istore_n 3, 1) := by decide +kernel
theorem dX0_passTicks_4 : decode cX0_passTicks 4 = .ok (.iload_n 3, 1) := by decide +kernel
theorem dX0_passTicks_5 : decode cX0_passTicks 5 = .ok (.iload_n 1, 1) := by decide +kernel
theorem dX0_passTicks_6 : decode cX0_passTicks 6 = .ok (.if_icmp .ge 45, 3) := by decide +kernel
theorem dX0_passTicks_9 : decode cX0_passTicks 9 = .ok (.aload_n 0, 1) := by decide +kernel
theorem dX0_passTicks_10 : decode cX0_passTicks 10 = .ok (.dup, 1) := by decide +kernel
theorem dX0_passTicks_11 : decode cX0_passTicks 11 = .ok (.getfield 30, 3) := by decide +kernel
theorem dX0_passTicks_14 : decode cX0_passTicks 14 = .ok (.bipush 10, 2) := by decide +kernel
theorem dX0_passTicks_16 : decode cX0_passTicks 16 = .ok (.iadd, 1) := by decide +kernel
theorem dX0_passTicks_17 : decode cX0_passTicks 17 = .ok (.putfield 30, 3) := by decide +kernel
theorem dX0_passTicks_20 : decode cX0_passTicks 20 = .ok (.iconst 0, 1) := by decide +kernel
theorem dX0_passTicks_21 : decode cX0_passTicks 21 = .ok (.istore 4, 2) := by decide +kernel
theorem dX0_passTicks_23 : decode cX0_passTicks 23 = .ok (.iload 4, 2) := by decide +kernel
theorem dX0_passTicks_25 : decode cX0_passTicks 25 = .ok (.bipush 7, 2) := by decide +kernel
theorem dX0_passTicks_27 : decode cX0_passTicks 27 = .ok (.if_icmp .ge 18, 3) := by decide +kernel
theorem dX0_passTicks_30 : decode cX0_passTicks 30 = .ok (.iload_n 2, 1) := by decide +kernel
theorem dX0_passTicks_31 : decode cX0_passTicks 31 = .ok (.aload_n 0, 1) := by decide +kernel
theorem dX0_passTicks_32 : decode cX0_passTicks 32 = .ok (.iload 4, 2) := by decide +kernel
theorem dX0_passTicks_34 : decode cX0_passTicks 34 = .ok (.invokevirtual 38, 3) := by decide +kernel
theorem dX0_passTicks_37 : decode cX0_passTicks 37 = .ok (.iadd, 1) := by decide +kernel
theorem dX0_passTicks_38 : decode cX0_passTicks 38 = .ok (.istore_n 2, 1) := by decide +kernel
theorem dX0_passTicks_39 : decode cX0_passTicks 39 = .ok (.iinc 4 1, 3) := by decide +kernel
theorem dX0_passTicks_42 : decode cX0_passTicks 42 = .ok (.goto (-19), 3) := by decide +kernel
theorem dX0_passTicks_45 : decode cX0_passTicks 45 = .ok (.iinc 3 1, 3) := by decide +kernel
theorem dX0_passTicks_48 : decode cX0_passTicks 48 = .ok (.goto (-44), 3) := by decide +kernel
theorem dX0_passTicks_51 : decode cX0_passTicks 51 = .ok (.iload_n 2, 1) := by decide +kernel
theorem dX0_passTicks_52 : decode cX0_passTicks 52 = .ok (.ireturn, 1) := by decide +kernel
theorem dX0_passTick_0 : decode cX0_passTick 0 = .ok (.aload_n 0, 1) := by decide +kernel
theorem dX0_passTick_1 : decode cX0_passTick 1 = .ok (.getfield 9, 3) := by decide +kernel
theorem dX0_passTick_4 : decode cX0_passTick 4 = .ok (.iload_n 1, 1) := by decide +kernel
theorem dX0_passTick_5 : decode cX0_passTick 5 = .ok (.iaload, 1) := by decide +kernel
theorem dX0_passTick_6 : decode cX0_passTick 6 = .ok (.istore_n 2, 1) := by decide +kernel
theorem dX0_passTick_7 : decode cX0_passTick 7 = .ok (.aload_n 0, 1) := by decide +kernel
theorem dX0_passTick_8 : decode cX0_passTick 8 = .ok (.iload_n 1, 1) := by decide +kernel
theorem dX0_passTick_9 : decode cX0_passTick 9 = .ok (.iload_n 2, 1) := by decide +kernel
theorem dX0_passTick_10 : decode cX0_passTick 10 = .ok (.invokevirtual 42, 3) := by decide +kernel
theorem dX0_passTick_13 : decode cX0_passTick 13 = .ok (.istore_n 3, 1) := by decide +kernel
theorem dX0_passTick_14 : decode cX0_passTick 14 = .ok (.aload_n 0, 1) := by decide +kernel
theorem dX0_passTick_15 : decode cX0_passTick 15 = .ok (.getfield 9, 3) := by decide +kernel
theorem dX0_passTick_18 : decode cX0_passTick 18 = .ok (.iload_n 1, 1) := by decide +kernel
theorem dX0_passTick_19 : decode cX0_passTick 19 = .ok (.iload_n 3, 1) := by decide +kernel
theorem dX0_passTick_20 : decode cX0_passTick 20 = .ok (.iastore, 1) := by decide +kernel
theorem dX0_passTick_21 : decode cX0_passTick 21 = .ok (.aload_n 0, 1) := by decide +kernel
theorem dX0_passTick_22 : decode cX0_passTick 22 = .ok (.getfield 18, 3) := by decide +kernel
theorem dX0_passTick_25 : decode cX0_passTick 25 = .ok (.iload_n 1, 1) := by decide +kernel
theorem dX0_passTick_26 : decode cX0_passTick 26 = .ok (.dup2, 1) := by decide +kernel
theorem dX0_passTick_27 : decode cX0_passTick 27 = .ok (.iaload, 1) := by decide +kernel
theorem dX0_passTick_28 : decode cX0_passTick 28 = .ok (.iload_n 3, 1) := by decide +kernel
theorem dX0_passTick_29 : decode cX0_passTick 29 = .ok (.iload_n 2, 1) := by decide +kernel
theorem dX0_passTick_30 : decode cX0_passTick 30 = .ok (.isub, 1) := by decide +kernel
theorem dX0_passTick_31 : decode cX0_passTick 31 = .ok (.iadd, 1) := by decide +kernel
theorem dX0_passTick_32 : decode cX0_passTick 32 = .ok (.iastore, 1) := by decide +kernel
theorem dX0_passTick_33 : decode cX0_passTick 33 = .ok (.aload_n 0, 1) := by decide +kernel
theorem dX0_passTick_34 : decode cX0_passTick 34 = .ok (.iload_n 1, 1) := by decide +kernel
theorem dX0_passTick_35 : decode cX0_passTick 35 = .ok (.iload_n 2, 1) := by decide +kernel
theorem dX0_passTick_36 : decode cX0_passTick 36 = .ok (.iload_n 3, 1) := by decide +kernel
theorem dX0_passTick_37 : decode cX0_passTick 37 = .ok (.invokevirtual 46, 3) := by decide +kernel
theorem dX0_passTick_40 : decode cX0_passTick 40 = .ok (.ireturn, 1) := by decide +kernel
theorem dX0_afterTick_0 : decode cX0_afterTick 0 = .ok (.iload_n 2, 1) := by decide +kernel
theorem dX0_afterTick_1 : decode cX0_afterTick 1 = .ok (.bipush 10, 2) := by decide +kernel
theorem dX0_afterTick_3 : decode cX0_afterTick 3 = .ok (.iadd, 1) := by decide +kernel
theorem dX0_afterTick_4 : decode cX0_afterTick 4 = .ok (.aload_n 0, 1) := by decide +kernel
theorem dX0_afterTick_5 : decode cX0_afterTick 5 = .ok (.getfield 15, 3) := by decide +kernel
theorem dX0_afterTick_8 : decode cX0_afterTick 8 = .ok (.iload_n 1, 1) := by decide +kernel
theorem dX0_afterTick_9 : decode cX0_afterTick 9 = .ok (.iaload, 1) := by decide +kernel
theorem dX0_afterTick_10 : decode cX0_afterTick 10 = .ok (.iadd, 1) := by decide +kernel
theorem dX0_afterTick_11 : decode cX0_afterTick 11 = .ok (.istore_n 3, 1) := by decide +kernel
theorem dX0_afterTick_12 : decode cX0_afterTick 12 = .ok (.iload_n 3, 1) := by decide +kernel
theorem dX0_afterTick_13 : decode cX0_afterTick 13 = .ok (.ldc 50, 2) := by decide +kernel
theorem dX0_afterTick_15 : decode cX0_afterTick 15 = .ok (.if_icmp .le 8, 3) := by decide +kernel
theorem dX0_afterTick_18 : decode cX0_afterTick 18 = .ok (.ldc 50, 2) := by decide +kernel
theorem dX0_afterTick_20 : decode cX0_afterTick 20 = .ok (.goto 4, 3) := by decide +kernel
theorem dX0_afterTick_23 : decode cX0_afterTick 23 = .ok (.iload_n 3, 1) := by decide +kernel
theorem dX0_afterTick_24 : decode cX0_afterTick 24 = .ok (.ireturn, 1) := by decide +kernel
theorem dX0_ring_0 : decode cX0_ring 0 = .ok (.iload_n 3, 1) := by decide +kernel
theorem dX0_ring_1 : decode cX0_ring 1 = .ok (.bipush 60, 2) := by decide +kernel
theorem dX0_ring_3 : decode cX0_ring 3 = .ok (.idiv, 1) := by decide +kernel
theorem dX0_ring_4 : decode cX0_ring 4 = .ok (.iload_n 2, 1) := by decide +kernel
theorem dX0_ring_5 : decode cX0_ring 5 = .ok (.bipush 60, 2) := by decide +kernel
theorem dX0_ring_7 : decode cX0_ring 7 = .ok (.idiv, 1) := by decide +kernel
theorem dX0_ring_8 : decode cX0_ring 8 = .ok (.isub, 1) := by decide +kernel
theorem dX0_ring_9 : decode cX0_ring 9 = .ok (.istore 4, 2) := by decide +kernel
theorem dX0_ring_11 : decode cX0_ring 11 = .ok (.aload_n 0, 1) := by decide +kernel
theorem dX0_ring_12 : decode cX0_ring 12 = .ok (.getfield 27, 3) := by decide +kernel
theorem dX0_ring_15 : decode cX0_ring 15 = .ok (.iload_n 1, 1) := by decide +kernel
theorem dX0_ring_16 : decode cX0_ring 16 = .ok (.dup2, 1) := by decide +kernel
theorem dX0_ring_17 : decode cX0_ring 17 = .ok (.iaload, 1) := by decide +kernel
theorem dX0_ring_18 : decode cX0_ring 18 = .ok (.iload 4, 2) := by decide +kernel
theorem dX0_ring_20 : decode cX0_ring 20 = .ok (.iadd, 1) := by decide +kernel
theorem dX0_ring_21 : decode cX0_ring 21 = .ok (.iastore, 1) := by decide +kernel
theorem dX0_ring_22 : decode cX0_ring 22 = .ok (.iload 4, 2) := by decide +kernel
theorem dX0_ring_24 : decode cX0_ring 24 = .ok (.ireturn, 1) := by decide +kernel
theorem dX0_moveTo_0 : decode cX0_moveTo 0 = .ok (.aload_n 0, 1) := by decide +kernel
theorem dX0_moveTo_1 : decode cX0_moveTo 1 = .ok (.getfield 9, 3) := by decide +kernel
theorem dX0_moveTo_4 : decode cX0_moveTo 4 = .ok (.iload_n 1, 1) := by decide +kernel
theorem dX0_moveTo_5 : decode cX0_moveTo 5 = .ok (.iaload, 1) := by decide +kernel
theorem dX0_moveTo_6 : decode cX0_moveTo 6 = .ok (.istore_n 3, 1) := by decide +kernel
theorem dX0_moveTo_7 : decode cX0_moveTo 7 = .ok (.aload_n 0, 1) := by decide +kernel
theorem dX0_moveTo_8 : decode cX0_moveTo 8 = .ok (.getfield 9, 3) := by decide +kernel
theorem dX0_moveTo_11 : decode cX0_moveTo 11 = .ok (.iload_n 1, 1) := by decide +kernel
theorem dX0_moveTo_12 : decode cX0_moveTo 12 = .ok (.iload_n 2, 1) := by decide +kernel
theorem dX0_moveTo_13 : decode cX0_moveTo 13 = .ok (.iastore, 1) := by decide +kernel
theorem dX0_moveTo_14 : decode cX0_moveTo 14 = .ok (.iload_n 2, 1) := by decide +kernel
theorem dX0_moveTo_15 : decode cX0_moveTo 15 = .ok (.iload_n 3, 1) := by decide +kernel
theorem dX0_moveTo_16 : decode cX0_moveTo 16 = .ok (.if_icmp .ge 19, 3) := by decide +kernel
theorem dX0_moveTo_19 : decode cX0_moveTo 19 = .ok (.aload_n 0, 1) := by decide +kernel
theorem dX0_moveTo_20 : decode cX0_moveTo 20 = .ok (.getfield 24, 3) := by decide +kernel
theorem dX0_moveTo_23 : decode cX0_moveTo 23 = .ok (.iload_n 1, 1) := by decide +kernel
theorem dX0_moveTo_24 : decode cX0_moveTo 24 = .ok (.dup2, 1) := by decide +kernel
theorem dX0_moveTo_25 : decode cX0_moveTo 25 = .ok (.iaload, 1) := by decide +kernel
theorem dX0_moveTo_26 : decode cX0_moveTo 26 = .ok (.iload_n 3, 1) := by decide +kernel
theorem dX0_moveTo_27 : decode cX0_moveTo 27 = .ok (.iload_n 2, 1) := by decide +kernel
theorem dX0_moveTo_28 : decode cX0_moveTo 28 = .ok (.isub, 1) := by decide +kernel
theorem dX0_moveTo_29 : decode cX0_moveTo 29 = .ok (.iadd, 1) := by decide +kernel
theorem dX0_moveTo_30 : decode cX0_moveTo 30 = .ok (.iastore, 1) := by decide +kernel
theorem dX0_moveTo_31 : decode cX0_moveTo 31 = .ok (.iload_n 3, 1) := by decide +kernel
theorem dX0_moveTo_32 : decode cX0_moveTo 32 = .ok (.iload_n 2, 1) := by decide +kernel
theorem dX0_moveTo_33 : decode cX0_moveTo 33 = .ok (.isub, 1) := by decide +kernel
theorem dX0_moveTo_34 : decode cX0_moveTo 34 = .ok (.ireturn, 1) := by decide +kernel
theorem dX0_moveTo_35 : decode cX0_moveTo 35 = .ok (.aload_n 0, 1) := by decide +kernel
theorem dX0_moveTo_36 : decode cX0_moveTo 36 = .ok (.getfield 21, 3) := by decide +kernel
theorem dX0_moveTo_39 : decode cX0_moveTo 39 = .ok (.iload_n 1, 1) := by decide +kernel
theorem dX0_moveTo_40 : decode cX0_moveTo 40 = .ok (.dup2, 1) := by decide +kernel
theorem dX0_moveTo_41 : decode cX0_moveTo 41 = .ok (.iaload, 1) := by decide +kernel
theorem dX0_moveTo_42 : decode cX0_moveTo 42 = .ok (.iload_n 2, 1) := by decide +kernel
theorem dX0_moveTo_43 : decode cX0_moveTo 43 = .ok (.iload_n 3, 1) := by decide +kernel
theorem dX0_moveTo_44 : decode cX0_moveTo 44 = .ok (.isub, 1) := by decide +kernel
theorem dX0_moveTo_45 : decode cX0_moveTo 45 = .ok (.iadd, 1) := by decide +kernel
theorem dX0_moveTo_46 : decode cX0_moveTo 46 = .ok (.iastore, 1) := by decide +kernel
theorem dX0_moveTo_47 : decode cX0_moveTo 47 = .ok (.aload_n 0, 1) := by decide +kernel
theorem dX0_moveTo_48 : decode cX0_moveTo 48 = .ok (.iload_n 1, 1) := by decide +kernel
theorem dX0_moveTo_49 : decode cX0_moveTo 49 = .ok (.iload_n 3, 1) := by decide +kernel
theorem dX0_moveTo_50 : decode cX0_moveTo 50 = .ok (.iload_n 2, 1) := by decide +kernel
theorem dX0_moveTo_51 : decode cX0_moveTo 51 = .ok (.invokevirtual 46, 3) := by decide +kernel
theorem dX0_moveTo_54 : decode cX0_moveTo 54 = .ok (.pop, 1) := by decide +kernel
theorem dX0_moveTo_55 : decode cX0_moveTo 55 = .ok (.iload_n 2, 1) := by decide +kernel
theorem dX0_moveTo_56 : decode cX0_moveTo 56 = .ok (.iload_n 3, 1) := by decide +kernel
theorem dX0_moveTo_57 : decode cX0_moveTo 57 = .ok (.isub, 1) := by decide +kernel
theorem dX0_moveTo_58 : decode cX0_moveTo 58 = .ok (.ireturn, 1) := by decide +kernel
theorem dX0_changeDrift_0 : decode cX0_changeDrift 0 = .ok (.iload_n 1, 1) := by decide +kernel
theorem dX0_changeDrift_1 : decode cX0_changeDrift 1 = .ok (.ifCond .lt 16, 3) := by decide +kernel
theorem dX0_changeDrift_4 : decode cX0_changeDrift 4 = .ok (.iload_n 1, 1) := by decide +kernel
theorem dX0_changeDrift_5 : decode cX0_changeDrift 5 = .ok (.bipush 7, 2) := by decide +kernel
theorem dX0_changeDrift_7 : decode cX0_changeDrift 7 = .ok (.if_icmp .ge 10, 3) := by decide +kernel
theorem dX0_changeDrift_10 : decode cX0_changeDrift 10 = .ok (.aload_n 0, 1) := by decide +kernel
theorem dX0_changeDrift_11 : decode cX0_changeDrift 11 = .ok (.getfield 15, 3) := by decide +kernel
theorem dX0_changeDrift_14 : decode cX0_changeDrift 14 = .ok (.iload_n 1, 1) := by decide +kernel
theorem dX0_changeDrift_15 : decode cX0_changeDrift 15 = .ok (.iload_n 2, 1) := by decide +kernel
theorem dX0_changeDrift_16 : decode cX0_changeDrift 16 = .ok (.iastore, 1) := by decide +kernel
theorem dX0_changeDrift_17 : decode cX0_changeDrift 17 = .ok (.return_, 1) := by decide +kernel
theorem dX0_accountOf_0 : decode cX0_accountOf 0 = .ok (.aload_n 0, 1) := by decide +kernel
theorem dX0_accountOf_1 : decode cX0_accountOf 1 = .ok (.getfield 18, 3) := by decide +kernel
theorem dX0_accountOf_4 : decode cX0_accountOf 4 = .ok (.iload_n 1, 1) := by decide +kernel
theorem dX0_accountOf_5 : decode cX0_accountOf 5 = .ok (.iaload, 1) := by decide +kernel
theorem dX0_accountOf_6 : decode cX0_accountOf 6 = .ok (.aload_n 0, 1) := by decide +kernel
theorem dX0_accountOf_7 : decode cX0_accountOf 7 = .ok (.getfield 21, 3) := by decide +kernel
theorem dX0_accountOf_10 : decode cX0_accountOf 10 = .ok (.iload_n 1, 1) := by decide +kernel
theorem dX0_accountOf_11 : decode cX0_accountOf 11 = .ok (.iaload, 1) := by decide +kernel
theorem dX0_accountOf_12 : decode cX0_accountOf 12 = .ok (.iadd, 1) := by decide +kernel
theorem dX0_accountOf_13 : decode cX0_accountOf 13 = .ok (.aload_n 0, 1) := by decide +kernel
theorem dX0_accountOf_14 : decode cX0_accountOf 14 = .ok (.getfield 24, 3) := by decide +kernel
theorem dX0_accountOf_17 : decode cX0_accountOf 17 = .ok (.iload_n 1, 1) := by decide +kernel
theorem dX0_accountOf_18 : decode cX0_accountOf 18 = .ok (.iaload, 1) := by decide +kernel
theorem dX0_accountOf_19 : decode cX0_accountOf 19 = .ok (.isub, 1) := by decide +kernel
theorem dX0_accountOf_20 : decode cX0_accountOf 20 = .ok (.ireturn, 1) := by decide +kernel
theorem dX0_errorOf_0 : decode cX0_errorOf 0 = .ok (.aload_n 0, 1) := by decide +kernel
theorem dX0_errorOf_1 : decode cX0_errorOf 1 = .ok (.getfield 9, 3) := by decide +kernel
theorem dX0_errorOf_4 : decode cX0_errorOf 4 = .ok (.iload_n 1, 1) := by decide +kernel
theorem dX0_errorOf_5 : decode cX0_errorOf 5 = .ok (.iaload, 1) := by decide +kernel
theorem dX0_errorOf_6 : decode cX0_errorOf 6 = .ok (.aload_n 0, 1) := by decide +kernel
theorem dX0_errorOf_7 : decode cX0_errorOf 7 = .ok (.getfield 30, 3) := by decide +kernel
theorem dX0_errorOf_10 : decode cX0_errorOf 10 = .ok (.invokestatic 51, 3) := by decide +kernel
theorem dX0_errorOf_13 : decode cX0_errorOf 13 = .ok (.ireturn, 1) := by decide +kernel
theorem dX0_ticksToRing_0 : decode cX0_ticksToRing 0 = .ok (.aload_n 0, 1) := by decide +kernel
theorem dX0_ticksToRing_1 : decode cX0_ticksToRing 1 = .ok (.getfield 9, 3) := by decide +kernel
theorem dX0_ticksToRing_4 : decode cX0_ticksToRing 4 = .ok (.iload_n 1, 1) := by decide +kernel
theorem dX0_ticksToRing_5 : decode cX0_ticksToRing 5 = .ok (.iaload, 1) := by decide +kernel
theorem dX0_ticksToRing_6 : decode cX0_ticksToRing 6 = .ok (.bipush 60, 2) := by decide +kernel
theorem dX0_ticksToRing_8 : decode cX0_ticksToRing 8 = .ok (.idiv, 1) := by decide +kernel
theorem dX0_ticksToRing_9 : decode cX0_ticksToRing 9 = .ok (.istore_n 2, 1) := by decide +kernel
theorem dX0_ticksToRing_10 : decode cX0_ticksToRing 10 = .ok (.aload_n 0, 1) := by decide +kernel
theorem dX0_ticksToRing_11 : decode cX0_ticksToRing 11 = .ok (.getfield 9, 3) := by decide +kernel
theorem dX0_ticksToRing_14 : decode cX0_ticksToRing 14 = .ok (.iload_n 1, 1) := by decide +kernel
theorem dX0_ticksToRing_15 : decode cX0_ticksToRing 15 = .ok (.iaload, 1) := by decide +kernel
theorem dX0_ticksToRing_16 : decode cX0_ticksToRing 16 = .ok (.istore_n 3, 1) := by decide +kernel
theorem dX0_ticksToRing_17 : decode cX0_ticksToRing 17 = .ok (.iconst 1, 1) := by decide +kernel
theorem dX0_ticksToRing_18 : decode cX0_ticksToRing 18 = .ok (.istore 4, 2) := by decide +kernel
theorem dX0_ticksToRing_20 : decode cX0_ticksToRing 20 = .ok (.iload 4, 2) := by decide +kernel
theorem dX0_ticksToRing_22 : decode cX0_ticksToRing 22 = .ok (.sipush 200, 3) := by decide +kernel
theorem dX0_ticksToRing_25 : decode cX0_ticksToRing 25 = .ok (.if_icmp .gt 27, 3) := by decide +kernel
theorem dX0_ticksToRing_28 : decode cX0_ticksToRing 28 = .ok (.aload_n 0, 1) := by decide +kernel
theorem dX0_ticksToRing_29 : decode cX0_ticksToRing 29 = .ok (.iload_n 1, 1) := by decide +kernel
theorem dX0_ticksToRing_30 : decode cX0_ticksToRing 30 = .ok (.iload_n 3, 1) := by decide +kernel
theorem dX0_ticksToRing_31 : decode cX0_ticksToRing 31 = .ok (.invokevirtual 42, 3) := by decide +kernel
theorem dX0_ticksToRing_34 : decode cX0_ticksToRing 34 = .ok (.istore_n 3, 1) := by decide +kernel
theorem dX0_ticksToRing_35 : decode cX0_ticksToRing 35 = .ok (.iload_n 3, 1) := by decide +kernel
theorem dX0_ticksToRing_36 : decode cX0_ticksToRing 36 = .ok (.bipush 60, 2) := by decide +kernel
theorem dX0_ticksToRing_38 : decode cX0_ticksToRing 38 = .ok (.idiv, 1) := by decide +kernel
theorem dX0_ticksToRing_39 : decode cX0_ticksToRing 39 = .ok (.iload_n 2, 1) := by decide +kernel
theorem dX0_ticksToRing_40 : decode cX0_ticksToRing 40 = .ok (.if_icmp .le 6, 3) := by decide +kernel
theorem dX0_ticksToRing_43 : decode cX0_ticksToRing 43 = .ok (.iload 4, 2) := by decide +kernel
theorem dX0_ticksToRing_45 : decode cX0_ticksToRing 45 = .ok (.ireturn, 1) := by decide +kernel
theorem dX0_ticksToRing_46 : decode cX0_ticksToRing 46 = .ok (.iinc 4 1, 3) := by decide +kernel
theorem dX0_ticksToRing_49 : decode cX0_ticksToRing 49 = .ok (.goto (-29), 3) := by decide +kernel
theorem dX0_ticksToRing_52 : decode cX0_ticksToRing 52 = .ok (.iconst (-1), 1) := by decide +kernel
theorem dX0_ticksToRing_53 : decode cX0_ticksToRing 53 = .ok (.ireturn, 1) := by decide +kernel
theorem dX1_init_0 : decode cX1_init 0 = .ok (.aload_n 0, 1) := by decide +kernel
theorem dX1_init_1 : decode cX1_init 1 = .ok (.invokespecial 3, 3) := by decide +kernel
theorem dX1_init_4 : decode cX1_init 4 = .ok (.aload_n 0, 1) := by decide +kernel
theorem dX1_init_5 : decode cX1_init 5 = .ok (.bipush 6, 2) := by decide +kernel
theorem dX1_init_7 : decode cX1_init 7 = .ok (.anewarray 9, 3) := by decide +kernel
theorem dX1_init_10 : decode cX1_init 10 = .ok (.putfield 11, 3) := by decide +kernel
theorem dX1_init_13 : decode cX1_init 13 = .ok (.iconst 0, 1) := by decide +kernel
theorem dX1_init_14 : decode cX1_init 14 = .ok (.istore_n 1, 1) := by decide +kernel
theorem dX1_init_15 : decode cX1_init 15 = .ok (.iload_n 1, 1) := by decide +kernel
theorem dX1_init_16 : decode cX1_init 16 = .ok (.bipush 6, 2) := by decide +kernel
theorem dX1_init_18 : decode cX1_init 18 = .ok (.if_icmp .ge 22, 3) := by decide +kernel
theorem dX1_init_21 : decode cX1_init 21 = .ok (.aload_n 0, 1) := by decide +kernel
theorem dX1_init_22 : decode cX1_init 22 = .ok (.getfield 11, 3) := by decide +kernel
theorem dX1_init_25 : decode cX1_init 25 = .ok (.iload_n 1, 1) := by decide +kernel
theorem dX1_init_26 : decode cX1_init 26 = .ok (.new 9, 3) := by decide +kernel
theorem dX1_init_29 : decode cX1_init 29 = .ok (.dup, 1) := by decide +kernel
theorem dX1_init_30 : decode cX1_init 30 = .ok (.invokespecial 17, 3) := by decide +kernel
theorem dX1_init_33 : decode cX1_init 33 = .ok (.aastore, 1) := by decide +kernel
theorem dX1_init_34 : decode cX1_init 34 = .ok (.iinc 1 1, 3) := by decide +kernel
theorem dX1_init_37 : decode cX1_init 37 = .ok (.goto (-22), 3) := by decide +kernel
theorem dX1_init_40 : decode cX1_init 40 = .ok (.return_, 1) := by decide +kernel
theorem dX1_save_0 : decode cX1_save 0 = .ok (.aload_n 0, 1) := by decide +kernel
theorem dX1_save_1 : decode cX1_save 1 = .ok (.getfield 18, 3) := by decide +kernel
theorem dX1_save_4 : decode cX1_save 4 = .ok (.bipush 6, 2) := by decide +kernel
theorem dX1_save_6 : decode cX1_save 6 = .ok (.if_icmp .lt 7, 3) := by decide +kernel
theorem dX1_save_9 : decode cX1_save 9 = .ok (.aload_n 0, 1) := by decide +kernel
theorem dX1_save_10 : decode cX1_save 10 = .ok (.invokevirtual 22, 3) := by decide +kernel
theorem dX1_save_13 : decode cX1_save 13 = .ok (.aload_n 0, 1) := by decide +kernel
theorem dX1_save_14 : decode cX1_save 14 = .ok (.aload_n 0, 1) := by decide +kernel
theorem dX1_save_15 : decode cX1_save 15 = .ok (.getfield 18, 3) := by decide +kernel
theorem dX1_save_18 : decode cX1_save 18 = .ok (.invokevirtual 25, 3) := by decide +kernel
theorem dX1_save_21 : decode cX1_save 21 = .ok (.astore_n 2, 1) := by decide +kernel
theorem dX1_save_22 : decode cX1_save 22 = .ok (.aload_n 2, 1) := by decide +kernel
theorem dX1_save_23 : decode cX1_save 23 = .ok (.ifnull 18, 3) := by decide +kernel
theorem dX1_save_26 : decode cX1_save 26 = .ok (.aload_n 2, 1) := by decide +kernel
theorem dX1_save_27 : decode cX1_save 27 = .ok (.aload_n 1, 1) := by decide +kernel
theorem dX1_save_28 : decode cX1_save 28 = .ok (.invokevirtual 29, 3) := by decide +kernel
theorem dX1_save_31 : decode cX1_save 31 = .ok (.aload_n 0, 1) := by decide +kernel
theorem dX1_save_32 : decode cX1_save 32 = .ok (.dup, 1) := by decide +kernel
theorem dX1_save_33 : decode cX1_save 33 = .ok (.getfield 18, 3) := by decide +kernel
theorem dX1_save_36 : decode cX1_save 36 = .ok (.iconst 1, 1) := by decide +kernel
theorem dX1_save_37 : decode cX1_save 37 = .ok (.iadd, 1) := by decide +kernel
theorem dX1_save_38 : decode cX1_save 38 = .ok (.putfield 18, 3) := by decide +kernel
theorem dX1_save_41 : decode cX1_save 41 = .ok (.return_, 1) := by decide +kernel
theorem dX1_stateAt_0 : decode cX1_stateAt 0 = .ok (.iload_n 1, 1) := by decide +kernel
theorem dX1_stateAt_1 : decode cX1_stateAt 1 = .ok (.ifCond .lt 21, 3) := by decide +kernel
theorem dX1_stateAt_4 : decode cX1_stateAt 4 = .ok (.iload_n 1, 1) := by decide +kernel
theorem dX1_stateAt_5 : decode cX1_stateAt 5 = .ok (.aload_n 0, 1) := by decide +kernel
theorem dX1_stateAt_6 : decode cX1_stateAt 6 = .ok (.getfield 11, 3) := by decide +kernel
theorem dX1_stateAt_9 : decode cX1_stateAt 9 = .ok (.arraylength, 1) := by decide +kernel
theorem dX1_stateAt_10 : decode cX1_stateAt 10 = .ok (.if_icmp .ge 12, 3) := by decide +kernel
theorem dX1_stateAt_13 : decode cX1_stateAt 13 = .ok (.aload_n 0, 1) := by decide +kernel
theorem dX1_stateAt_14 : decode cX1_stateAt 14 = .ok (.getfield 11, 3) := by decide +kernel
theorem dX1_stateAt_17 : decode cX1_stateAt 17 = .ok (.iload_n 1, 1) := by decide +kernel
theorem dX1_stateAt_18 : decode cX1_stateAt 18 = .ok (.aaload, 1) := by decide +kernel
theorem dX1_stateAt_19 : decode cX1_stateAt 19 = .ok (.goto 4, 3) := by decide +kernel
theorem dX1_stateAt_22 : decode cX1_stateAt 22 = .ok (.aconst_null, 1) := by decide +kernel
theorem dX1_stateAt_23 : decode cX1_stateAt 23 = .ok (.areturn, 1) := by decide +kernel
theorem dX1_dropOldest_0 : decode cX1_dropOldest 0 = .ok (.aload_n 0, 1) := by decide +kernel
theorem dX1_dropOldest_1 : decode cX1_dropOldest 1 = .ok (.getfield 11, 3) := by decide +kernel
theorem dX1_dropOldest_4 : decode cX1_dropOldest 4 = .ok (.iconst 0, 1) := by decide +kernel
theorem dX1_dropOldest_5 : decode cX1_dropOldest 5 = .ok (.aaload, 1) := by decide +kernel
theorem dX1_dropOldest_6 : decode cX1_dropOldest 6 = .ok (.astore_n 1, 1) := by decide +kernel
theorem dX1_dropOldest_7 : decode cX1_dropOldest 7 = .ok (.iconst 1, 1) := by decide +kernel
theorem dX1_dropOldest_8 : decode cX1_dropOldest 8 = .ok (.istore_n 2, 1) := by decide +kernel
theorem dX1_dropOldest_9 : decode cX1_dropOldest 9 = .ok (.iload_n 2, 1) := by decide +kernel
theorem dX1_dropOldest_10 : decode cX1_dropOldest 10 = .ok (.bipush 6, 2) := by decide +kernel
theorem dX1_dropOldest_12 : decode cX1_dropOldest 12 = .ok (.if_icmp .ge 23, 3) := by decide +kernel
theorem dX1_dropOldest_15 : decode cX1_dropOldest 15 = .ok (.aload_n 0, 1) := by decide +kernel
theorem dX1_dropOldest_16 : decode cX1_dropOldest 16 = .ok (.getfield 11, 3) := by decide +kernel
theorem dX1_dropOldest_19 : decode cX1_dropOldest 19 = .ok (.iload_n 2, 1) := by decide +kernel
theorem dX1_dropOldest_20 : decode cX1_dropOldest 20 = .ok (.iconst 1, 1) := by decide +kernel
theorem dX1_dropOldest_21 : decode cX1_dropOldest 21 = .ok (.isub, 1) := by decide +kernel
theorem dX1_dropOldest_22 : decode cX1_dropOldest 22 = .ok (.aload_n 0, 1) := by decide +kernel
theorem dX1_dropOldest_23 : decode cX1_dropOldest 23 = .ok (.getfield 11, 3) := by decide +kernel
theorem dX1_dropOldest_26 : decode cX1_dropOldest 26 = .ok (.iload_n 2, 1) := by decide +kernel
theorem dX1_dropOldest_27 : decode cX1_dropOldest 27 = .ok (.aaload, 1) := by decide +kernel
theorem dX1_dropOldest_28 : decode cX1_dropOldest 28 = .ok (.aastore, 1) := by decide +kernel
theorem dX1_dropOldest_29 : decode cX1_dropOldest 29 = .ok (.iinc 2 1, 3) := by decide +kernel
theorem dX1_dropOldest_32 : decode cX1_dropOldest 32 = .ok (.goto (-23), 3) := by decide +kernel
theorem dX1_dropOldest_35 : decode cX1_dropOldest 35 = .ok (.aload_n 0, 1) := by decide +kernel
theorem dX1_dropOldest_36 : decode cX1_dropOldest 36 = .ok (.getfield 11, 3) := by decide +kernel
theorem dX1_dropOldest_39 : decode cX1_dropOldest 39 = .ok (.iconst 5, 1) := by decide +kernel
theorem dX1_dropOldest_40 : decode cX1_dropOldest 40 = .ok (.aload_n 1, 1) := by decide +kernel
theorem dX1_dropOldest_41 : decode cX1_dropOldest 41 = .ok (.aastore, 1) := by decide +kernel
theorem dX1_dropOldest_42 : decode cX1_dropOldest 42 = .ok (.aload_n 0, 1) := by decide +kernel
theorem dX1_dropOldest_43 : decode cX1_dropOldest 43 = .ok (.dup, 1) := by decide +kernel
theorem dX1_dropOldest_44 : decode cX1_dropOldest 44 = .ok (.getfield 18, 3) := by decide +kernel
theorem dX1_dropOldest_47 : decode cX1_dropOldest 47 = .ok (.iconst 1, 1) := by decide +kernel
theorem dX1_dropOldest_48 : decode cX1_dropOldest 48 = .ok (.isub, 1) := by decide +kernel
theorem dX1_dropOldest_49 : decode cX1_dropOldest 49 = .ok (.putfield 18, 3) := by decide +kernel
theorem dX1_dropOldest_52 : decode cX1_dropOldest 52 = .ok (.return_, 1) := by decide +kernel
theorem dX1_restore_0 : decode cX1_restore 0 = .ok (.aload_n 0, 1) := by decide +kernel
theorem dX1_restore_1 : decode cX1_restore 1 = .ok (.aload_n 0, 1) := by decide +kernel
theorem dX1_restore_2 : decode cX1_restore 2 = .ok (.getfield 18, 3) := by decide +kernel
theorem dX1_restore_5 : decode cX1_restore 5 = .ok (.iconst 1, 1) := by decide +kernel
theorem dX1_restore_6 : decode cX1_restore 6 = .ok (.isub, 1) := by decide +kernel
theorem dX1_restore_7 : decode cX1_restore 7 = .ok (.invokevirtual 25, 3) := by decide +kernel
theorem dX1_restore_10 : decode cX1_restore 10 = .ok (.astore_n 2, 1) := by decide +kernel
theorem dX1_restore_11 : decode cX1_restore 11 = .ok (.aload_n 2, 1) := by decide +kernel
theorem dX1_restore_12 : decode cX1_restore 12 = .ok (.ifnull 18, 3) := by decide +kernel
theorem dX1_restore_15 : decode cX1_restore 15 = .ok (.aload_n 1, 1) := by decide +kernel
theorem dX1_restore_16 : decode cX1_restore 16 = .ok (.aload_n 2, 1) := by decide +kernel
theorem dX1_restore_17 : decode cX1_restore 17 = .ok (.invokevirtual 29, 3) := by decide +kernel
theorem dX1_restore_20 : decode cX1_restore 20 = .ok (.aload_n 0, 1) := by decide +kernel
theorem dX1_restore_21 : decode cX1_restore 21 = .ok (.dup, 1) := by decide +kernel
theorem dX1_restore_22 : decode cX1_restore 22 = .ok (.getfield 18, 3) := by decide +kernel
theorem dX1_restore_25 : decode cX1_restore 25 = .ok (.iconst 1, 1) := by decide +kernel
theorem dX1_restore_26 : decode cX1_restore 26 = .ok (.isub, 1) := by decide +kernel
theorem dX1_restore_27 : decode cX1_restore 27 = .ok (.putfield 18, 3) := by decide +kernel
theorem dX1_restore_30 : decode cX1_restore 30 = .ok (.return_, 1) := by decide +kernel
theorem dX2_init_0 : decode cX2_init 0 = .ok (.aload_n 0, 1) := by decide +kernel
theorem dX2_init_1 : decode cX2_init 1 = .ok (.invokespecial 3, 3) := by decide +kernel
theorem dX2_init_4 : decode cX2_init 4 = .ok (.aload_n 0, 1) := by decide +kernel
theorem dX2_init_5 : decode cX2_init 5 = .ok (.bipush 60, 2) := by decide +kernel
theorem dX2_init_7 : decode cX2_init 7 = .ok (.newarray .int, 2) := by decide +kernel
theorem dX2_init_9 : decode cX2_init 9 = .ok (.putfield 9, 3) := by decide +kernel
theorem dX2_init_12 : decode cX2_init 12 = .ok (.return_, 1) := by decide +kernel
theorem dX3_init_0 : decode cX3_init 0 = .ok (.aload_n 0, 1) := by decide +kernel
theorem dX3_init_1 : decode cX3_init 1 = .ok (.invokespecial 3, 3) := by decide +kernel
theorem dX3_init_4 : decode cX3_init 4 = .ok (.aload_n 0, 1) := by decide +kernel
theorem dX3_init_5 : decode cX3_init 5 = .ok (.bipush 7, 2) := by decide +kernel
theorem dX3_init_7 : decode cX3_init 7 = .ok (.newarray .int, 2) := by decide +kernel
theorem dX3_init_9 : decode cX3_init 9 = .ok (.putfield 9, 3) := by decide +kernel
theorem dX3_init_12 : decode cX3_init 12 = .ok (.aload_n 0, 1) := by decide +kernel
theorem dX3_init_13 : decode cX3_init 13 = .ok (.bipush 7, 2) := by decide +kernel
theorem dX3_init_15 : decode cX3_init 15 = .ok (.newarray .int, 2) := by decide +kernel
theorem dX3_init_17 : decode cX3_init 17 = .ok (.putfield 15, 3) := by decide +kernel
theorem dX3_init_20 : decode cX3_init 20 = .ok (.aload_n 0, 1) := by decide +kernel
theorem dX3_init_21 : decode cX3_init 21 = .ok (.bipush 7, 2) := by decide +kernel
theorem dX3_init_23 : decode cX3_init 23 = .ok (.newarray .int, 2) := by decide +kernel
theorem dX3_init_25 : decode cX3_init 25 = .ok (.putfield 18, 3) := by decide +kernel
theorem dX3_init_28 : decode cX3_init 28 = .ok (.return_, 1) := by decide +kernel
theorem dX3_take_0 : decode cX3_take 0 = .ok (.iconst 0, 1) := by decide +kernel
theorem dX3_take_1 : decode cX3_take 1 = .ok (.istore_n 2, 1) := by decide +kernel
theorem dX3_take_2 : decode cX3_take 2 = .ok (.iload_n 2, 1) := by decide +kernel
theorem dX3_take_3 : decode cX3_take 3 = .ok (.bipush 7, 2) := by decide +kernel
theorem dX3_take_5 : decode cX3_take 5 = .ok (.if_icmp .ge 35, 3) := by decide +kernel
theorem dX3_take_8 : decode cX3_take 8 = .ok (.aload_n 0, 1) := by decide +kernel
theorem dX3_take_9 : decode cX3_take 9 = .ok (.getfield 9, 3) := by decide +kernel
theorem dX3_take_12 : decode cX3_take 12 = .ok (.iload_n 2, 1) := by decide +kernel
theorem dX3_take_13 : decode cX3_take 13 = .ok (.aload_n 1, 1) := by decide +kernel
theorem dX3_take_14 : decode cX3_take 14 = .ok (.iload_n 2, 1) := by decide +kernel
theorem dX3_take_15 : decode cX3_take 15 = .ok (.invokevirtual 21, 3) := by decide +kernel
theorem dX3_take_18 : decode cX3_take 18 = .ok (.iastore, 1) := by decide +kernel
theorem dX3_take_19 : decode cX3_take 19 = .ok (.aload_n 0, 1) := by decide +kernel
theorem dX3_take_20 : decode cX3_take 20 = .ok (.getfield 15, 3) := by decide +kernel
theorem dX3_take_23 : decode cX3_take 23 = .ok (.iload_n 2, 1) := by decide +kernel
theorem dX3_take_24 : decode cX3_take 24 = .ok (.aload_n 1, 1) := by decide +kernel
theorem dX3_take_25 : decode cX3_take 25 = .ok (.getfield 27, 3) := by decide +kernel
theorem dX3_take_28 : decode cX3_take 28 = .ok (.getfield 31, 3) := by decide +kernel
theorem dX3_take_31 : decode cX3_take 31 = .ok (.iload_n 2, 1) := by decide +kernel
theorem dX3_take_32 : decode cX3_take 32 = .ok (.iaload, 1) := by decide +kernel
theorem dX3_take_33 : decode cX3_take 33 = .ok (.iastore, 1) := by decide +kernel
theorem dX3_take_34 : decode cX3_take 34 = .ok (.iinc 2 1, 3) := by decide +kernel
theorem dX3_take_37 : decode cX3_take 37 = .ok (.goto (-35), 3) := by decide +kernel
theorem dX3_take_40 : decode cX3_take 40 = .ok (.return_, 1) := by decide +kernel
theorem dX3_placeOf_0 : decode cX3_placeOf 0 = .ok (.iconst 0, 1) := by decide +kernel
theorem dX3_placeOf_1 : decode cX3_placeOf 1 = .ok (.istore_n 2, 1) := by decide +kernel
theorem dX3_placeOf_2 : decode cX3_placeOf 2 = .ok (.iconst 0, 1) := by decide +kernel
theorem dX3_placeOf_3 : decode cX3_placeOf 3 = .ok (.istore_n 3, 1) := by decide +kernel
theorem dX3_placeOf_4 : decode cX3_placeOf 4 = .ok (.iload_n 3, 1) := by decide +kernel
theorem dX3_placeOf_5 : decode cX3_placeOf 5 = .ok (.bipush 7, 2) := by decide +kernel
theorem dX3_placeOf_7 : decode cX3_placeOf 7 = .ok (.if_icmp .ge 47, 3) := by decide +kernel
theorem dX3_placeOf_10 : decode cX3_placeOf 10 = .ok (.aload_n 0, 1) := by decide +kernel
theorem dX3_placeOf_11 : decode cX3_placeOf 11 = .ok (.getfield 9, 3) := by decide +kernel
theorem dX3_placeOf_14 : decode cX3_placeOf 14 = .ok (.iload_n 3, 1) := by decide +kernel
theorem dX3_placeOf_15 : decode cX3_placeOf 15 = .ok (.iaload, 1) := by decide +kernel
theorem dX3_placeOf_16 : decode cX3_placeOf 16 = .ok (.aload_n 0, 1) := by decide +kernel
theorem dX3_placeOf_17 : decode cX3_placeOf 17 = .ok (.getfield 9, 3) := by decide +kernel
theorem dX3_placeOf_20 : decode cX3_placeOf 20 = .ok (.iload_n 1, 1) := by decide +kernel
theorem dX3_placeOf_21 : decode cX3_placeOf 21 = .ok (.iaload, 1) := by decide +kernel
theorem dX3_placeOf_22 : decode cX3_placeOf 22 = .ok (.if_icmp .lt 23, 3) := by decide +kernel
theorem dX3_placeOf_25 : decode cX3_placeOf 25 = .ok (.aload_n 0, 1) := by decide +kernel
theorem dX3_placeOf_26 : decode cX3_placeOf 26 = .ok (.getfield 9, 3) := by decide +kernel
theorem dX3_placeOf_29 : decode cX3_placeOf 29 = .ok (.iload_n 3, 1) := by decide +kernel
theorem dX3_placeOf_30 : decode cX3_placeOf 30 = .ok (.iaload, 1) := by decide +kernel
theorem dX3_placeOf_31 : decode cX3_placeOf 31 = .ok (.aload_n 0, 1) := by decide +kernel
theorem dX3_placeOf_32 : decode cX3_placeOf 32 = .ok (.getfield 9, 3) := by decide +kernel
theorem dX3_placeOf_35 : decode cX3_placeOf 35 = .ok (.iload_n 1, 1) := by decide +kernel
theorem dX3_placeOf_36 : decode cX3_placeOf 36 = .ok (.iaload, 1) := by decide +kernel
theorem dX3_placeOf_37 : decode cX3_placeOf 37 = .ok (.if_icmp .ne 11, 3) := by decide +kernel
theorem dX3_placeOf_40 : decode cX3_placeOf 40 = .ok (.iload_n 3, 1) := by decide +kernel
theorem dX3_placeOf_41 : decode cX3_placeOf 41 = .ok (.iload_n 1, 1) := by decide +kernel
theorem dX3_placeOf_42 : decode cX3_placeOf 42 = .ok (.if_icmp .ge 6, 3) := by decide +kernel
theorem dX3_placeOf_45 : decode cX3_placeOf 45 = .ok (.iinc 2 1, 3) := by decide +kernel
theorem dX3_placeOf_48 : decode cX3_placeOf 48 = .ok (.iinc 3 1, 3) := by decide +kernel
theorem dX3_placeOf_51 : decode cX3_placeOf 51 = .ok (.goto (-47), 3) := by decide +kernel
theorem dX3_placeOf_54 : decode cX3_placeOf 54 = .ok (.iload_n 2, 1) := by decide +kernel
theorem dX3_placeOf_55 : decode cX3_placeOf 55 = .ok (.ireturn, 1) := by decide +kernel
theorem dX3_middleByOrder_0 : decode cX3_middleByOrder 0 = .ok (.iconst 0, 1) := by decide +kernel
theorem dX3_middleByOrder_1 : decode cX3_middleByOrder 1 = .ok (.istore_n 1, 1) := by decide +kernel
theorem dX3_middleByOrder_2 : decode cX3_middleByOrder 2 = .ok (.iload_n 1, 1) := by decide +kernel
theorem dX3_middleByOrder_3 : decode cX3_middleByOrder 3 = .ok (.bipush 7, 2) := by decide +kernel
theorem dX3_middleByOrder_5 : decode cX3_middleByOrder 5 = .ok (.if_icmp .ge 31, 3) := by decide +kernel
theorem dX3_middleByOrder_8 : decode cX3_middleByOrder 8 = .ok (.aload_n 0, 1) := by decide +kernel
theorem dX3_middleByOrder_9 : decode cX3_middleByOrder 9 = .ok (.iload_n 1, 1) := by decide +kernel
theorem dX3_middleByOrder_10 : decode cX3_middleByOrder 10 = .ok (.invokevirtual 34, 3) := by decide +kernel
theorem dX3_middleByOrder_13 : decode cX3_middleByOrder 13 = .ok (.istore_n 2, 1) := by decide +kernel
theorem dX3_middleByOrder_14 : decode cX3_middleByOrder 14 = .ok (.iload_n 2, 1) := by decide +kernel
theorem dX3_middleByOrder_15 : decode cX3_middleByOrder 15 = .ok (.aload_n 0, 1) := by decide +kernel
theorem dX3_middleByOrder_16 : decode cX3_middleByOrder 16 = .ok (.getfield 18, 3) := by decide +kernel
theorem dX3_middleByOrder_19 : decode cX3_middleByOrder 19 = .ok (.arraylength, 1) := by decide +kernel
theorem dX3_middleByOrder_20 : decode cX3_middleByOrder 20 = .ok (.if_icmp .ge 10, 3) := by decide +kernel
theorem dX3_middleByOrder_23 : decode cX3_middleByOrder 23 = .ok (.aload_n 0, 1) := by decide +kernel
theorem dX3_middleByOrder_24 : decode cX3_middleByOrder 24 = .ok (.getfield 18, 3) := by decide +kernel
theorem dX3_middleByOrder_27 : decode cX3_middleByOrder 27 = .ok (.iload_n 2, 1) := by decide +kernel
theorem dX3_middleByOrder_28 : decode cX3_middleByOrder 28 = .ok (.iload_n 1, 1) := by decide +kernel
theorem dX3_middleByOrder_29 : decode cX3_middleByOrder 29 = .ok (.iastore, 1) := by decide +kernel
theorem dX3_middleByOrder_30 : decode cX3_middleByOrder 30 = .ok (.iinc 1 1, 3) := by decide +kernel
theorem dX3_middleByOrder_33 : decode cX3_middleByOrder 33 = .ok (.goto (-31), 3) := by decide +kernel
theorem dX3_middleByOrder_36 : decode cX3_middleByOrder 36 = .ok (.aload_n 0, 1) := by decide +kernel
theorem dX3_middleByOrder_37 : decode cX3_middleByOrder 37 = .ok (.getfield 15, 3) := by decide +kernel
theorem dX3_middleByOrder_40 : decode cX3_middleByOrder 40 = .ok (.invokestatic 37, 3) := by decide +kernel
theorem dX3_middleByOrder_43 : decode cX3_middleByOrder 43 = .ok (.istore_n 1, 1) := by decide +kernel
theorem dX3_middleByOrder_44 : decode cX3_middleByOrder 44 = .ok (.iconst 0, 1) := by decide +kernel
theorem dX3_middleByOrder_45 : decode cX3_middleByOrder 45 = .ok (.istore_n 2, 1) := by decide +kernel
theorem dX3_middleByOrder_46 : decode cX3_middleByOrder 46 = .ok (.aload_n 0, 1) := by decide +kernel
theorem dX3_middleByOrder_47 : decode cX3_middleByOrder 47 = .ok (.getfield 18, 3) := by decide +kernel
theorem dX3_middleByOrder_50 : decode cX3_middleByOrder 50 = .ok (.astore_n 3, 1) := by decide +kernel
theorem dX3_middleByOrder_51 : decode cX3_middleByOrder 51 = .ok (.aload_n 3, 1) := by decide +kernel
theorem dX3_middleByOrder_52 : decode cX3_middleByOrder 52 = .ok (.arraylength, 1) := by decide +kernel
theorem dX3_middleByOrder_53 : decode cX3_middleByOrder 53 = .ok (.istore 4, 2) := by decide +kernel
theorem dX3_middleByOrder_55 : decode cX3_middleByOrder 55 = .ok (.iconst 0, 1) := by decide +kernel
theorem dX3_middleByOrder_56 : decode cX3_middleByOrder 56 = .ok (.istore 5, 2) := by decide +kernel
theorem dX3_middleByOrder_58 : decode cX3_middleByOrder 58 = .ok (.iload 5, 2) := by decide +kernel
theorem dX3_middleByOrder_60 : decode cX3_middleByOrder 60 = .ok (.iload 4, 2) := by decide +kernel
theorem dX3_middleByOrder_62 : decode cX3_middleByOrder 62 = .ok (.if_icmp .ge 50, 3) := by decide +kernel
theorem dX3_middleByOrder_65 : decode cX3_middleByOrder 65 = .ok (.aload_n 3, 1) := by decide +kernel
theorem dX3_middleByOrder_66 : decode cX3_middleByOrder 66 = .ok (.iload 5, 2) := by decide +kernel
theorem dX3_middleByOrder_68 : decode cX3_middleByOrder 68 = .ok (.iaload, 1) := by decide +kernel
theorem dX3_middleByOrder_69 : decode cX3_middleByOrder 69 = .ok (.istore 6, 2) := by decide +kernel
theorem dX3_middleByOrder_71 : decode cX3_middleByOrder 71 = .ok (.iload_n 2, 1) := by decide +kernel
theorem dX3_middleByOrder_72 : decode cX3_middleByOrder 72 = .ok (.aload_n 0, 1) := by decide +kernel
theorem dX3_middleByOrder_73 : decode cX3_middleByOrder 73 = .ok (.getfield 15, 3) := by decide +kernel
theorem dX3_middleByOrder_76 : decode cX3_middleByOrder 76 = .ok (.iload 6, 2) := by decide +kernel
theorem dX3_middleByOrder_78 : decode cX3_middleByOrder 78 = .ok (.iaload, 1) := by decide +kernel
theorem dX3_middleByOrder_79 : decode cX3_middleByOrder 79 = .ok (.iadd, 1) := by decide +kernel
theorem dX3_middleByOrder_80 : decode cX3_middleByOrder 80 = .ok (.istore_n 2, 1) := by decide +kernel
theorem dX3_middleByOrder_81 : decode cX3_middleByOrder 81 = .ok (.aload_n 0, 1) := by decide +kernel
theorem dX3_middleByOrder_82 : decode cX3_middleByOrder 82 = .ok (.getfield 15, 3) := by decide +kernel
theorem dX3_middleByOrder_85 : decode cX3_middleByOrder 85 = .ok (.iload 6, 2) := by decide +kernel
theorem dX3_middleByOrder_87 : decode cX3_middleByOrder 87 = .ok (.iaload, 1) := by decide +kernel
theorem dX3_middleByOrder_88 : decode cX3_middleByOrder 88 = .ok (.ifCond .le 18, 3) := by decide +kernel
theorem dX3_middleByOrder_91 : decode cX3_middleByOrder 91 = .ok (.iconst 2, 1) := by decide +kernel
theorem dX3_middleByOrder_92 : decode cX3_middleByOrder 92 = .ok (.iload_n 2, 1) := by decide +kernel
theorem dX3_middleByOrder_93 : decode cX3_middleByOrder 93 = .ok (.imul, 1) := by decide +kernel
theorem dX3_middleByOrder_94 : decode cX3_middleByOrder 94 = .ok (.iload_n 1, 1) := by decide +kernel
theorem dX3_middleByOrder_95 : decode cX3_middleByOrder 95 = .ok (.if_icmp .lt 11, 3) := by decide +kernel
theorem dX3_middleByOrder_98 : decode cX3_middleByOrder 98 = .ok (.aload_n 0, 1) := by decide +kernel
theorem dX3_middleByOrder_99 : decode cX3_middleByOrder 99 = .ok (.getfield 9, 3) := by decide +kernel
theorem dX3_middleByOrder_102 : decode cX3_middleByOrder 102 = .ok (.iload 6, 2) := by decide +kernel
theorem dX3_middleByOrder_104 : decode cX3_middleByOrder 104 = .ok (.iaload, 1) := by decide +kernel
theorem dX3_middleByOrder_105 : decode cX3_middleByOrder 105 = .ok (.ireturn, 1) := by decide +kernel
theorem dX3_middleByOrder_106 : decode cX3_middleByOrder 106 = .ok (.iinc 5 1, 3) := by decide +kernel
theorem dX3_middleByOrder_109 : decode cX3_middleByOrder 109 = .ok (.goto (-51), 3) := by decide +kernel
theorem dX3_middleByOrder_112 : decode cX3_middleByOrder 112 = .ok (.iconst (-1), 1) := by decide +kernel
theorem dX3_middleByOrder_113 : decode cX3_middleByOrder 113 = .ok (.ireturn, 1) := by decide +kernel
theorem dX3_middleByAdding_0 : decode cX3_middleByAdding 0 = .ok (.aload_n 0, 1) := by decide +kernel
theorem dX3_middleByAdding_1 : decode cX3_middleByAdding 1 = .ok (.getfield 15, 3) := by decide +kernel
theorem dX3_middleByAdding_4 : decode cX3_middleByAdding 4 = .ok (.invokestatic 37, 3) := by decide +kernel
theorem dX3_middleByAdding_7 : decode cX3_middleByAdding 7 = .ok (.istore_n 1, 1) := by decide +kernel
theorem dX3_middleByAdding_8 : decode cX3_middleByAdding 8 = .ok (.iconst 0, 1) := by decide +kernel
theorem dX3_middleByAdding_9 : decode cX3_middleByAdding 9 = .ok (.istore_n 2, 1) := by decide +kernel
theorem dX3_middleByAdding_10 : decode cX3_middleByAdding 10 = .ok (.iload_n 2, 1) := by decide +kernel
theorem dX3_middleByAdding_11 : decode cX3_middleByAdding 11 = .ok (.bipush 7, 2) := by decide +kernel
theorem dX3_middleByAdding_13 : decode cX3_middleByAdding 13 = .ok (.if_icmp .ge 65, 3) := by decide +kernel
theorem dX3_middleByAdding_16 : decode cX3_middleByAdding 16 = .ok (.aload_n 0, 1) := by decide +kernel
theorem dX3_middleByAdding_17 : decode cX3_middleByAdding 17 = .ok (.aload_n 0, 1) := by decide +kernel
theorem dX3_middleByAdding_18 : decode cX3_middleByAdding 18 = .ok (.getfield 9, 3) := by decide +kernel
theorem dX3_middleByAdding_21 : decode cX3_middleByAdding 21 = .ok (.iload_n 2, 1) := by decide +kernel
theorem dX3_middleByAdding_22 : decode cX3_middleByAdding 22 = .ok (.iaload, 1) := by decide +kernel
theorem dX3_middleByAdding_23 : decode cX3_middleByAdding 23 = .ok (.invokevirtual 41, 3) := by decide +kernel
theorem dX3_middleByAdding_26 : decode cX3_middleByAdding 26 = .ok (.istore_n 3, 1) := by decide +kernel
theorem dX3_middleByAdding_27 : decode cX3_middleByAdding 27 = .ok (.iload_n 3, 1) := by decide +kernel
theorem dX3_middleByAdding_28 : decode cX3_middleByAdding 28 = .ok (.aload_n 0, 1) := by decide +kernel
theorem dX3_middleByAdding_29 : decode cX3_middleByAdding 29 = .ok (.aload_n 0, 1) := by decide +kernel
theorem dX3_middleByAdding_30 : decode cX3_middleByAdding 30 = .ok (.getfield 9, 3) := by decide +kernel
theorem dX3_middleByAdding_33 : decode cX3_middleByAdding 33 = .ok (.iload_n 2, 1) := by decide +kernel
theorem dX3_middleByAdding_34 : decode cX3_middleByAdding 34 = .ok (.iaload, 1) := by decide +kernel
theorem dX3_middleByAdding_35 : decode cX3_middleByAdding 35 = .ok (.invokevirtual 44, 3) := by decide +kernel
theorem dX3_middleByAdding_38 : decode cX3_middleByAdding 38 = .ok (.iadd, 1) := by decide +kernel
theorem dX3_middleByAdding_39 : decode cX3_middleByAdding 39 = .ok (.istore 4, 2) := by decide +kernel
theorem dX3_middleByAdding_41 : decode cX3_middleByAdding 41 = .ok (.aload_n 0, 1) := by decide +kernel
theorem dX3_middleByAdding_42 : decode cX3_middleByAdding 42 = .ok (.getfield 15, 3) := by decide +kernel
theorem dX3_middleByAdding_45 : decode cX3_middleByAdding 45 = .ok (.iload_n 2, 1) := by decide +kernel
theorem dX3_middleByAdding_46 : decode cX3_middleByAdding 46 = .ok (.iaload, 1) := by decide +kernel
theorem dX3_middleByAdding_47 : decode cX3_middleByAdding 47 = .ok (.ifCond .le 25, 3) := by decide +kernel
theorem dX3_middleByAdding_50 : decode cX3_middleByAdding 50 = .ok (.iconst 2, 1) := by decide +kernel
theorem dX3_middleByAdding_51 : decode cX3_middleByAdding 51 = .ok (.iload_n 3, 1) := by decide +kernel
theorem dX3_middleByAdding_52 : decode cX3_middleByAdding 52 = .ok (.imul, 1) := by decide +kernel
theorem dX3_middleByAdding_53 : decode cX3_middleByAdding 53 = .ok (.iload_n 1, 1) := by decide +kernel
theorem dX3_middleByAdding_54 : decode cX3_middleByAdding 54 = .ok (.if_icmp .ge 18, 3) := by decide +kernel
theorem dX3_middleByAdding_57 : decode cX3_middleByAdding 57 = .ok (.iconst 2, 1) := by decide +kernel
theorem dX3_middleByAdding_58 : decode cX3_middleByAdding 58 = .ok (.iload 4, 2) := by decide +kernel
theorem dX3_middleByAdding_60 : decode cX3_middleByAdding 60 = .ok (.imul, 1) := by decide +kernel
theorem dX3_middleByAdding_61 : decode cX3_middleByAdding 61 = .ok (.iload_n 1, 1) := by decide +kernel
theorem dX3_middleByAdding_62 : decode cX3_middleByAdding 62 = .ok (.if_icmp .lt 10, 3) := by decide +kernel
theorem dX3_middleByAdding_65 : decode cX3_middleByAdding 65 = .ok (.aload_n 0, 1) := by decide +kernel
theorem dX3_middleByAdding_66 : decode cX3_middleByAdding 66 = .ok (.getfield 9, 3) := by decide +kernel
theorem dX3_middleByAdding_69 : decode cX3_middleByAdding 69 = .ok (.iload_n 2, 1) := by decide +kernel
theorem dX3_middleByAdding_70 : decode cX3_middleByAdding 70 = .ok (.iaload, 1) := by decide +kernel
theorem dX3_middleByAdding_71 : decode cX3_middleByAdding 71 = .ok (.ireturn, 1) := by decide +kernel
theorem dX3_middleByAdding_72 : decode cX3_middleByAdding 72 = .ok (.iinc 2 1, 3) := by decide +kernel
theorem dX3_middleByAdding_75 : decode cX3_middleByAdding 75 = .ok (.goto (-65), 3) := by decide +kernel
theorem dX3_middleByAdding_78 : decode cX3_middleByAdding 78 = .ok (.iconst (-1), 1) := by decide +kernel
theorem dX3_middleByAdding_79 : decode cX3_middleByAdding 79 = .ok (.ireturn, 1) := by decide +kernel
theorem dX3_weightBelow_0 : decode cX3_weightBelow 0 = .ok (.iconst 0, 1) := by decide +kernel
theorem dX3_weightBelow_1 : decode cX3_weightBelow 1 = .ok (.istore_n 2, 1) := by decide +kernel
theorem dX3_weightBelow_2 : decode cX3_weightBelow 2 = .ok (.iconst 0, 1) := by decide +kernel
theorem dX3_weightBelow_3 : decode cX3_weightBelow 3 = .ok (.istore_n 3, 1) := by decide +kernel
theorem dX3_weightBelow_4 : decode cX3_weightBelow 4 = .ok (.iload_n 3, 1) := by decide +kernel
theorem dX3_weightBelow_5 : decode cX3_weightBelow 5 = .ok (.bipush 7, 2) := by decide +kernel
theorem dX3_weightBelow_7 : decode cX3_weightBelow 7 = .ok (.if_icmp .ge 32, 3) := by decide +kernel
theorem dX3_weightBelow_10 : decode cX3_weightBelow 10 = .ok (.iload_n 2, 1) := by decide +kernel
theorem dX3_weightBelow_11 : decode cX3_weightBelow 11 = .ok (.aload_n 0, 1) := by decide +kernel
theorem dX3_weightBelow_12 : decode cX3_weightBelow 12 = .ok (.getfield 9, 3) := by decide +kernel
theorem dX3_weightBelow_15 : decode cX3_weightBelow 15 = .ok (.iload_n 3, 1) := by decide +kernel
theorem dX3_weightBelow_16 : decode cX3_weightBelow 16 = .ok (.iaload, 1) := by decide +kernel
theorem dX3_weightBelow_17 : decode cX3_weightBelow 17 = .ok (.iload_n 1, 1) := by decide +kernel
theorem dX3_weightBelow_18 : decode cX3_weightBelow 18 = .ok (.if_icmp .ge 12, 3) := by decide +kernel
theorem dX3_weightBelow_21 : decode cX3_weightBelow 21 = .ok (.aload_n 0, 1) := by decide +kernel
theorem dX3_weightBelow_22 : decode cX3_weightBelow 22 = .ok (.getfield 15, 3) := by decide +kernel
theorem dX3_weightBelow_25 : decode cX3_weightBelow 25 = .ok (.iload_n 3, 1) := by decide +kernel
theorem dX3_weightBelow_26 : decode cX3_weightBelow 26 = .ok (.iaload, 1) := by decide +kernel
theorem dX3_weightBelow_27 : decode cX3_weightBelow 27 = .ok (.goto 4, 3) := by decide +kernel
theorem dX3_weightBelow_30 : decode cX3_weightBelow 30 = .ok (.iconst 0, 1) := by decide +kernel
theorem dX3_weightBelow_31 : decode cX3_weightBelow 31 = .ok (.iadd, 1) := by decide +kernel
theorem dX3_weightBelow_32 : decode cX3_weightBelow 32 = .ok (.istore_n 2, 1) := by decide +kernel
theorem dX3_weightBelow_33 : decode cX3_weightBelow 33 = .ok (.iinc 3 1, 3) := by decide +kernel
theorem dX3_weightBelow_36 : decode cX3_weightBelow 36 = .ok (.goto (-32), 3) := by decide +kernel
theorem dX3_weightBelow_39 : decode cX3_weightBelow 39 = .ok (.iload_n 2, 1) := by decide +kernel
theorem dX3_weightBelow_40 : decode cX3_weightBelow 40 = .ok (.ireturn, 1) := by decide +kernel
theorem dX3_weightAt_0 : decode cX3_weightAt 0 = .ok (.iconst 0, 1) := by decide +kernel
theorem dX3_weightAt_1 : decode cX3_weightAt 1 = .ok (.istore_n 2, 1) := by decide +kernel
theorem dX3_weightAt_2 : decode cX3_weightAt 2 = .ok (.iconst 0, 1) := by decide +kernel
theorem dX3_weightAt_3 : decode cX3_weightAt 3 = .ok (.istore_n 3, 1) := by decide +kernel
theorem dX3_weightAt_4 : decode cX3_weightAt 4 = .ok (.iload_n 3, 1) := by decide +kernel
theorem dX3_weightAt_5 : decode cX3_weightAt 5 = .ok (.bipush 7, 2) := by decide +kernel
theorem dX3_weightAt_7 : decode cX3_weightAt 7 = .ok (.if_icmp .ge 32, 3) := by decide +kernel
theorem dX3_weightAt_10 : decode cX3_weightAt 10 = .ok (.iload_n 2, 1) := by decide +kernel
theorem dX3_weightAt_11 : decode cX3_weightAt 11 = .ok (.aload_n 0, 1) := by decide +kernel
theorem dX3_weightAt_12 : decode cX3_weightAt 12 = .ok (.getfield 9, 3) := by decide +kernel
theorem dX3_weightAt_15 : decode cX3_weightAt 15 = .ok (.iload_n 3, 1) := by decide +kernel
theorem dX3_weightAt_16 : decode cX3_weightAt 16 = .ok (.iaload, 1) := by decide +kernel
theorem dX3_weightAt_17 : decode cX3_weightAt 17 = .ok (.iload_n 1, 1) := by decide +kernel
theorem dX3_weightAt_18 : decode cX3_weightAt 18 = .ok (.if_icmp .ne 12, 3) := by decide +kernel
theorem dX3_weightAt_21 : decode cX3_weightAt 21 = .ok (.aload_n 0, 1) := by decide +kernel
theorem dX3_weightAt_22 : decode cX3_weightAt 22 = .ok (.getfield 15, 3) := by decide +kernel
theorem dX3_weightAt_25 : decode cX3_weightAt 25 = .ok (.iload_n 3, 1) := by decide +kernel
theorem dX3_weightAt_26 : decode cX3_weightAt 26 = .ok (.iaload, 1) := by decide +kernel
theorem dX3_weightAt_27 : decode cX3_weightAt 27 = .ok (.goto 4, 3) := by decide +kernel
theorem dX3_weightAt_30 : decode cX3_weightAt 30 = .ok (.iconst 0, 1) := by decide +kernel
theorem dX3_weightAt_31 : decode cX3_weightAt 31 = .ok (.iadd, 1) := by decide +kernel
theorem dX3_weightAt_32 : decode cX3_weightAt 32 = .ok (.istore_n 2, 1) := by decide +kernel
theorem dX3_weightAt_33 : decode cX3_weightAt 33 = .ok (.iinc 3 1, 3) := by decide +kernel
theorem dX3_weightAt_36 : decode cX3_weightAt 36 = .ok (.goto (-32), 3) := by decide +kernel
theorem dX3_weightAt_39 : decode cX3_weightAt 39 = .ok (.iload_n 2, 1) := by decide +kernel
theorem dX3_weightAt_40 : decode cX3_weightAt 40 = .ok (.ireturn, 1) := by decide +kernel
theorem dX4_init_0 : decode cX4_init 0 = .ok (.aload_n 0, 1) := by decide +kernel
theorem dX4_init_1 : decode cX4_init 1 = .ok (.invokespecial 3, 3) := by decide +kernel
theorem dX4_init_4 : decode cX4_init 4 = .ok (.aload_n 0, 1) := by decide +kernel
theorem dX4_init_5 : decode cX4_init 5 = .ok (.new 9, 3) := by decide +kernel
theorem dX4_init_8 : decode cX4_init 8 = .ok (.dup, 1) := by decide +kernel
theorem dX4_init_9 : decode cX4_init 9 = .ok (.invokespecial 11, 3) := by decide +kernel
theorem dX4_init_12 : decode cX4_init 12 = .ok (.putfield 12, 3) := by decide +kernel
theorem dX4_init_15 : decode cX4_init 15 = .ok (.aload_n 0, 1) := by decide +kernel
theorem dX4_init_16 : decode cX4_init 16 = .ok (.new 18, 3) := by decide +kernel
theorem dX4_init_19 : decode cX4_init 19 = .ok (.dup, 1) := by decide +kernel
theorem dX4_init_20 : decode cX4_init 20 = .ok (.invokespecial 20, 3) := by decide +kernel
theorem dX4_init_23 : decode cX4_init 23 = .ok (.putfield 21, 3) := by decide +kernel
theorem dX4_init_26 : decode cX4_init 26 = .ok (.aload_n 0, 1) := by decide +kernel
theorem dX4_init_27 : decode cX4_init 27 = .ok (.iconst 2, 1) := by decide +kernel
theorem dX4_init_28 : decode cX4_init 28 = .ok (.newarray .int, 2) := by decide +kernel
theorem dX4_init_30 : decode cX4_init 30 = .ok (.putfield 25, 3) := by decide +kernel
theorem dX4_init_33 : decode cX4_init 33 = .ok (.aload_n 0, 1) := by decide +kernel
theorem dX4_init_34 : decode cX4_init 34 = .ok (.getfield 25, 3) := by decide +kernel
theorem dX4_init_37 : decode cX4_init 37 = .ok (.iconst 0, 1) := by decide +kernel
theorem dX4_init_38 : decode cX4_init 38 = .ok (.bipush 15, 2) := by decide +kernel
theorem dX4_init_40 : decode cX4_init 40 = .ok (.iastore, 1) := by decide +kernel
theorem dX4_init_41 : decode cX4_init 41 = .ok (.aload_n 0, 1) := by decide +kernel
theorem dX4_init_42 : decode cX4_init 42 = .ok (.getfield 25, 3) := by decide +kernel
theorem dX4_init_45 : decode cX4_init 45 = .ok (.iconst 1, 1) := by decide +kernel
theorem dX4_init_46 : decode cX4_init 46 = .ok (.iconst 5, 1) := by decide +kernel
theorem dX4_init_47 : decode cX4_init 47 = .ok (.iastore, 1) := by decide +kernel
theorem dX4_init_48 : decode cX4_init 48 = .ok (.return_, 1) := by decide +kernel
theorem dX4_copyFrom_0 : decode cX4_copyFrom 0 = .ok (.aload_n 0, 1) := by decide +kernel
theorem dX4_copyFrom_1 : decode cX4_copyFrom 1 = .ok (.getfield 12, 3) := by decide +kernel
theorem dX4_copyFrom_4 : decode cX4_copyFrom 4 = .ok (.aload_n 1, 1) := by decide +kernel
theorem dX4_copyFrom_5 : decode cX4_copyFrom 5 = .ok (.getfield 12, 3) := by decide +kernel
theorem dX4_copyFrom_8 : decode cX4_copyFrom 8 = .ok (.invokevirtual 29, 3) := by decide +kernel
theorem dX4_copyFrom_11 : decode cX4_copyFrom 11 = .ok (.aload_n 0, 1) := by decide +kernel
theorem dX4_copyFrom_12 : decode cX4_copyFrom 12 = .ok (.getfield 21, 3) := by decide +kernel
theorem dX4_copyFrom_15 : decode cX4_copyFrom 15 = .ok (.aload_n 1, 1) := by decide +kernel
theorem dX4_copyFrom_16 : decode cX4_copyFrom 16 = .ok (.getfield 21, 3) := by decide +kernel
theorem dX4_copyFrom_19 : decode cX4_copyFrom 19 = .ok (.invokevirtual 33, 3) := by decide +kernel
theorem dX4_copyFrom_22 : decode cX4_copyFrom 22 = .ok (.aload_n 1, 1) := by decide +kernel
theorem dX4_copyFrom_23 : decode cX4_copyFrom 23 = .ok (.getfield 25, 3) := by decide +kernel
theorem dX4_copyFrom_26 : decode cX4_copyFrom 26 = .ok (.aload_n 0, 1) := by decide +kernel
theorem dX4_copyFrom_27 : decode cX4_copyFrom 27 = .ok (.getfield 25, 3) := by decide +kernel
theorem dX4_copyFrom_30 : decode cX4_copyFrom 30 = .ok (.invokestatic 36, 3) := by decide +kernel
theorem dX4_copyFrom_33 : decode cX4_copyFrom 33 = .ok (.aload_n 0, 1) := by decide +kernel
theorem dX4_copyFrom_34 : decode cX4_copyFrom 34 = .ok (.aload_n 1, 1) := by decide +kernel
theorem dX4_copyFrom_35 : decode cX4_copyFrom 35 = .ok (.getfield 40, 3) := by decide +kernel
theorem dX4_copyFrom_38 : decode cX4_copyFrom 38 = .ok (.putfield 40, 3) := by decide +kernel
theorem dX4_copyFrom_41 : decode cX4_copyFrom 41 = .ok (.aload_n 0, 1) := by decide +kernel
theorem dX4_copyFrom_42 : decode cX4_copyFrom 42 = .ok (.aload_n 1, 1) := by decide +kernel
theorem dX4_copyFrom_43 : decode cX4_copyFrom 43 = .ok (.getfield 44, 3) := by decide +kernel
theorem dX4_copyFrom_46 : decode cX4_copyFrom 46 = .ok (.putfield 44, 3) := by decide +kernel
theorem dX4_copyFrom_49 : decode cX4_copyFrom 49 = .ok (.aload_n 0, 1) := by decide +kernel
theorem dX4_copyFrom_50 : decode cX4_copyFrom 50 = .ok (.aload_n 1, 1) := by decide +kernel
theorem dX4_copyFrom_51 : decode cX4_copyFrom 51 = .ok (.getfield 47, 3) := by decide +kernel
theorem dX4_copyFrom_54 : decode cX4_copyFrom 54 = .ok (.putfield 47, 3) := by decide +kernel
theorem dX4_copyFrom_57 : decode cX4_copyFrom 57 = .ok (.return_, 1) := by decide +kernel
theorem dX4_wordOf_0 : decode cX4_wordOf 0 = .ok (.aload_n 0, 1) := by decide +kernel
theorem dX4_wordOf_1 : decode cX4_wordOf 1 = .ok (.getfield 21, 3) := by decide +kernel
theorem dX4_wordOf_4 : decode cX4_wordOf 4 = .ok (.iload_n 1, 1) := by decide +kernel
theorem dX4_wordOf_5 : decode cX4_wordOf 5 = .ok (.aload_n 0, 1) := by decide +kernel
theorem dX4_wordOf_6 : decode cX4_wordOf 6 = .ok (.getfield 12, 3) := by decide +kernel
theorem dX4_wordOf_9 : decode cX4_wordOf 9 = .ok (.getfield 50, 3) := by decide +kernel
theorem dX4_wordOf_12 : decode cX4_wordOf 12 = .ok (.iload_n 1, 1) := by decide +kernel
theorem dX4_wordOf_13 : decode cX4_wordOf 13 = .ok (.iaload, 1) := by decide +kernel
theorem dX4_wordOf_14 : decode cX4_wordOf 14 = .ok (.invokevirtual 53, 3) := by decide +kernel
theorem dX4_wordOf_17 : decode cX4_wordOf 17 = .ok (.ireturn, 1) := by decide +kernel
theorem dX4_hear_0 : decode cX4_hear 0 = .ok (.aload_n 0, 1) := by decide +kernel
theorem dX4_hear_1 : decode cX4_hear 1 = .ok (.dup, 1) := by decide +kernel
theorem dX4_hear_2 : decode cX4_hear 2 = .ok (.getfield 44, 3) := by decide +kernel
theorem dX4_hear_5 : decode cX4_hear 5 = .ok (.iconst 1, 1) := by decide +kernel
theorem dX4_hear_6 : decode cX4_hear 6 = .ok (.iadd, 1) := by decide +kernel
theorem dX4_hear_7 : decode cX4_hear 7 = .ok (.putfield 44, 3) := by decide +kernel
theorem dX4_hear_10 : decode cX4_hear 10 = .ok (.iload_n 1, 1) := by decide +kernel
theorem dX4_hear_11 : decode cX4_hear 11 = .ok (.aload_n 0, 1) := by decide +kernel
theorem dX4_hear_12 : decode cX4_hear 12 = .ok (.getfield 40, 3) := by decide +kernel
theorem dX4_hear_15 : decode cX4_hear 15 = .ok (.if_icmp .le 11, 3) := by decide +kernel
theorem dX4_hear_18 : decode cX4_hear 18 = .ok (.aload_n 0, 1) := by decide +kernel
theorem dX4_hear_19 : decode cX4_hear 19 = .ok (.iload_n 1, 1) := by decide +kernel
theorem dX4_hear_20 : decode cX4_hear 20 = .ok (.putfield 40, 3) := by decide +kernel
theorem dX4_hear_23 : decode cX4_hear 23 = .ok (.goto 13, 3) := by decide +kernel
theorem dX4_hear_26 : decode cX4_hear 26 = .ok (.aload_n 0, 1) := by decide +kernel
theorem dX4_hear_27 : decode cX4_hear 27 = .ok (.dup, 1) := by decide +kernel
theorem dX4_hear_28 : decode cX4_hear 28 = .ok (.getfield 47, 3) := by decide +kernel
theorem dX4_hear_31 : decode cX4_hear 31 = .ok (.iconst 1, 1) := by decide +kernel
theorem dX4_hear_32 : decode cX4_hear 32 = .ok (.iadd, 1) := by decide +kernel
theorem dX4_hear_33 : decode cX4_hear 33 = .ok (.putfield 47, 3) := by decide +kernel
theorem dX4_hear_36 : decode cX4_hear 36 = .ok (.return_, 1) := by decide +kernel
theorem dX4_settleQuarrels_0 : decode cX4_settleQuarrels 0 = .ok (.iconst 0, 1) := by decide +kernel
theorem dX4_settleQuarrels_1 : decode cX4_settleQuarrels 1 = .ok (.istore_n 2, 1) := by decide +kernel
theorem dX4_settleQuarrels_2 : decode cX4_settleQuarrels 2 = .ok (.iload_n 2, 1) := by decide +kernel
theorem dX4_settleQuarrels_3 : decode cX4_settleQuarrels 3 = .ok (.bipush 7, 2) := by decide +kernel
theorem dX4_settleQuarrels_5 : decode cX4_settleQuarrels 5 = .ok (.if_icmp .ge 19, 3) := by decide +kernel
theorem dX4_settleQuarrels_8 : decode cX4_settleQuarrels 8 = .ok (.aload_n 0, 1) := by decide +kernel
theorem dX4_settleQuarrels_9 : decode cX4_settleQuarrels 9 = .ok (.aload_n 1, 1) := by decide +kernel
theorem dX4_settleQuarrels_10 : decode cX4_settleQuarrels 10 = .ok (.iload_n 2, 1) := by decide +kernel
theorem dX4_settleQuarrels_11 : decode cX4_settleQuarrels 11 = .ok (.iload_n 2, 1) := by decide +kernel
theorem dX4_settleQuarrels_12 : decode cX4_settleQuarrels 12 = .ok (.invokestatic 57, 3) := by decide +kernel
theorem dX4_settleQuarrels_15 : decode cX4_settleQuarrels 15 = .ok (.invokevirtual 61, 3) := by decide +kernel
theorem dX4_settleQuarrels_18 : decode cX4_settleQuarrels 18 = .ok (.iinc 2 1, 3) := by decide +kernel
theorem dX4_settleQuarrels_21 : decode cX4_settleQuarrels 21 = .ok (.goto (-19), 3) := by decide +kernel
theorem dX4_settleQuarrels_24 : decode cX4_settleQuarrels 24 = .ok (.return_, 1) := by decide +kernel
theorem dX4_settleQuarrel_0 : decode cX4_settleQuarrel 0 = .ok (.aload_n 0, 1) := by decide +kernel
theorem dX4_settleQuarrel_1 : decode cX4_settleQuarrel 1 = .ok (.aload_n 1, 1) := by decide +kernel
theorem dX4_settleQuarrel_2 : decode cX4_settleQuarrel 2 = .ok (.iload_n 2, 1) := by decide +kernel
theorem dX4_settleQuarrel_3 : decode cX4_settleQuarrel 3 = .ok (.iaload, 1) := by decide +kernel
theorem dX4_settleQuarrel_4 : decode cX4_settleQuarrel 4 = .ok (.aload_n 1, 1) := by decide +kernel
theorem dX4_settleQuarrel_5 : decode cX4_settleQuarrel 5 = .ok (.iload_n 3, 1) := by decide +kernel
theorem dX4_settleQuarrel_6 : decode cX4_settleQuarrel 6 = .ok (.iaload, 1) := by decide +kernel
theorem dX4_settleQuarrel_7 : decode cX4_settleQuarrel 7 = .ok (.invokevirtual 65, 3) := by decide +kernel
theorem dX4_settleQuarrel_10 : decode cX4_settleQuarrel 10 = .ok (.ifCond .ne 4, 3) := by decide +kernel
theorem dX4_settleQuarrel_13 : decode cX4_settleQuarrel 13 = .ok (.return_, 1) := by decide +kernel
theorem dX4_settleQuarrel_14 : decode cX4_settleQuarrel 14 = .ok (.aload_n 1, 1) := by decide +kernel
theorem dX4_settleQuarrel_15 : decode cX4_settleQuarrel 15 = .ok (.iload_n 2, 1) := by decide +kernel
theorem dX4_settleQuarrel_16 : decode cX4_settleQuarrel 16 = .ok (.iaload, 1) := by decide +kernel
theorem dX4_settleQuarrel_17 : decode cX4_settleQuarrel 17 = .ok (.aload_n 0, 1) := by decide +kernel
theorem dX4_settleQuarrel_18 : decode cX4_settleQuarrel 18 = .ok (.getfield 40, 3) := by decide +kernel
theorem dX4_settleQuarrel_21 : decode cX4_settleQuarrel 21 = .ok (.invokestatic 69, 3) := by decide +kernel
theorem dX4_settleQuarrel_24 : decode cX4_settleQuarrel 24 = .ok (.istore 4, 2) := by decide +kernel
theorem dX4_settleQuarrel_26 : decode cX4_settleQuarrel 26 = .ok (.aload_n 1, 1) := by decide +kernel
theorem dX4_settleQuarrel_27 : decode cX4_settleQuarrel 27 = .ok (.iload_n 3, 1) := by decide +kernel
theorem dX4_settleQuarrel_28 : decode cX4_settleQuarrel 28 = .ok (.iaload, 1) := by decide +kernel
theorem dX4_settleQuarrel_29 : decode cX4_settleQuarrel 29 = .ok (.aload_n 0, 1) := by decide +kernel
theorem dX4_settleQuarrel_30 : decode cX4_settleQuarrel 30 = .ok (.getfield 40, 3) := by decide +kernel
theorem dX4_settleQuarrel_33 : decode cX4_settleQuarrel 33 = .ok (.invokestatic 69, 3) := by decide +kernel
theorem dX4_settleQuarrel_36 : decode cX4_settleQuarrel 36 = .ok (.istore 5, 2) := by decide +kernel
theorem dX4_settleQuarrel_38 : decode cX4_settleQuarrel 38 = .ok (.iload 4, 2) := by decide +kernel
theorem dX4_settleQuarrel_40 : decode cX4_settleQuarrel 40 = .ok (.iload 5, 2) := by decide +kernel
theorem dX4_settleQuarrel_42 : decode cX4_settleQuarrel 42 = .ok (.if_icmp .le 14, 3) := by decide +kernel
theorem dX4_settleQuarrel_45 : decode cX4_settleQuarrel 45 = .ok (.aload_n 0, 1) := by decide +kernel
theorem dX4_settleQuarrel_46 : decode cX4_settleQuarrel 46 = .ok (.getfield 21, 3) := by decide +kernel
theorem dX4_settleQuarrel_49 : decode cX4_settleQuarrel 49 = .ok (.iload_n 2, 1) := by decide +kernel
theorem dX4_settleQuarrel_50 : decode cX4_settleQuarrel 50 = .ok (.invokevirtual 72, 3) := by decide +kernel
theorem dX4_settleQuarrel_53 : decode cX4_settleQuarrel 53 = .ok (.goto 18, 3) := by decide +kernel
theorem dX4_settleQuarrel_56 : decode cX4_settleQuarrel 56 = .ok (.iload 5, 2) := by decide +kernel
theorem dX4_settleQuarrel_58 : decode cX4_settleQuarrel 58 = .ok (.iload 4, 2) := by decide +kernel
theorem dX4_settleQuarrel_60 : decode cX4_settleQuarrel 60 = .ok (.if_icmp .le 11, 3) := by decide +kernel
theorem dX4_settleQuarrel_63 : decode cX4_settleQuarrel 63 = .ok (.aload_n 0, 1) := by decide +kernel
theorem dX4_settleQuarrel_64 : decode cX4_settleQuarrel 64 = .ok (.getfield 21, 3) := by decide +kernel
theorem dX4_settleQuarrel_67 : decode cX4_settleQuarrel 67 = .ok (.iload_n 3, 1) := by decide +kernel
theorem dX4_settleQuarrel_68 : decode cX4_settleQuarrel 68 = .ok (.invokevirtual 72, 3) := by decide +kernel
theorem dX4_settleQuarrel_71 : decode cX4_settleQuarrel 71 = .ok (.return_, 1) := by decide +kernel
theorem dX4_wordsQuarrel_0 : decode cX4_wordsQuarrel 0 = .ok (.iload_n 1, 1) := by decide +kernel
theorem dX4_wordsQuarrel_1 : decode cX4_wordsQuarrel 1 = .ok (.iload_n 2, 1) := by decide +kernel
theorem dX4_wordsQuarrel_2 : decode cX4_wordsQuarrel 2 = .ok (.invokestatic 69, 3) := by decide +kernel
theorem dX4_wordsQuarrel_5 : decode cX4_wordsQuarrel 5 = .ok (.aload_n 0, 1) := by decide +kernel
theorem dX4_wordsQuarrel_6 : decode cX4_wordsQuarrel 6 = .ok (.getfield 25, 3) := by decide +kernel
theorem dX4_wordsQuarrel_9 : decode cX4_wordsQuarrel 9 = .ok (.iconst 0, 1) := by decide +kernel
theorem dX4_wordsQuarrel_10 : decode cX4_wordsQuarrel 10 = .ok (.iaload, 1) := by decide +kernel
theorem dX4_wordsQuarrel_11 : decode cX4_wordsQuarrel 11 = .ok (.if_icmp .le 7, 3) := by decide +kernel
theorem dX4_wordsQuarrel_14 : decode cX4_wordsQuarrel 14 = .ok (.iconst 1, 1) := by decide +kernel
theorem dX4_wordsQuarrel_15 : decode cX4_wordsQuarrel 15 = .ok (.goto 4, 3) := by decide +kernel
theorem dX4_wordsQuarrel_18 : decode cX4_wordsQuarrel 18 = .ok (.iconst 0, 1) := by decide +kernel
theorem dX4_wordsQuarrel_19 : decode cX4_wordsQuarrel 19 = .ok (.ireturn, 1) := by decide +kernel
theorem dX4_quarrelsBehind_0 : decode cX4_quarrelsBehind 0 = .ok (.aload_n 0, 1) := by decide +kernel
theorem dX4_quarrelsBehind_1 : decode cX4_quarrelsBehind 1 = .ok (.aload_n 0, 1) := by decide +kernel
theorem dX4_quarrelsBehind_2 : decode cX4_quarrelsBehind 2 = .ok (.iload_n 1, 1) := by decide +kernel
theorem dX4_quarrelsBehind_3 : decode cX4_quarrelsBehind 3 = .ok (.invokevirtual 76, 3) := by decide +kernel
theorem dX4_quarrelsBehind_6 : decode cX4_quarrelsBehind 6 = .ok (.aload_n 0, 1) := by decide +kernel
theorem dX4_quarrelsBehind_7 : decode cX4_quarrelsBehind 7 = .ok (.iload_n 1, 1) := by decide +kernel
theorem dX4_quarrelsBehind_8 : decode cX4_quarrelsBehind 8 = .ok (.invokestatic 57, 3) := by decide +kernel
theorem dX4_quarrelsBehind_11 : decode cX4_quarrelsBehind 11 = .ok (.invokevirtual 76, 3) := by decide +kernel
theorem dX4_quarrelsBehind_14 : decode cX4_quarrelsBehind 14 = .ok (.invokevirtual 65, 3) := by decide +kernel
theorem dX4_quarrelsBehind_17 : decode cX4_quarrelsBehind 17 = .ok (.ireturn, 1) := by decide +kernel
theorem dX4_quarrels_0 : decode cX4_quarrels 0 = .ok (.iconst 0, 1) := by decide +kernel
theorem dX4_quarrels_1 : decode cX4_quarrels 1 = .ok (.istore_n 1, 1) := by decide +kernel
theorem dX4_quarrels_2 : decode cX4_quarrels 2 = .ok (.iconst 0, 1) := by decide +kernel
theorem dX4_quarrels_3 : decode cX4_quarrels 3 = .ok (.istore_n 2, 1) := by decide +kernel
theorem dX4_quarrels_4 : decode cX4_quarrels 4 = .ok (.iload_n 2, 1) := by decide +kernel
theorem dX4_quarrels_5 : decode cX4_quarrels 5 = .ok (.bipush 7, 2) := by decide +kernel
theorem dX4_quarrels_7 : decode cX4_quarrels 7 = .ok (.if_icmp .ge 25, 3) := by decide +kernel
theorem dX4_quarrels_10 : decode cX4_quarrels 10 = .ok (.iload_n 1, 1) := by decide +kernel
theorem dX4_quarrels_11 : decode cX4_quarrels 11 = .ok (.aload_n 0, 1) := by decide +kernel
theorem dX4_quarrels_12 : decode cX4_quarrels 12 = .ok (.iload_n 2, 1) := by decide +kernel
theorem dX4_quarrels_13 : decode cX4_quarrels 13 = .ok (.invokevirtual 79, 3) := by decide +kernel
theorem dX4_quarrels_16 : decode cX4_quarrels 16 = .ok (.ifCond .eq 7, 3) := by decide +kernel
theorem dX4_quarrels_19 : decode cX4_quarrels 19 = .ok (.iconst 1, 1) := by decide +kernel
theorem dX4_quarrels_20 : decode cX4_quarrels 20 = .ok (.goto 4, 3) := by decide +kernel
theorem dX4_quarrels_23 : decode cX4_quarrels 23 = .ok (.iconst 0, 1) := by decide +kernel
theorem dX4_quarrels_24 : decode cX4_quarrels 24 = .ok (.iadd, 1) := by decide +kernel
theorem dX4_quarrels_25 : decode cX4_quarrels 25 = .ok (.istore_n 1, 1) := by decide +kernel
theorem dX4_quarrels_26 : decode cX4_quarrels 26 = .ok (.iinc 2 1, 3) := by decide +kernel
theorem dX4_quarrels_29 : decode cX4_quarrels 29 = .ok (.goto (-25), 3) := by decide +kernel
theorem dX4_quarrels_32 : decode cX4_quarrels 32 = .ok (.iload_n 1, 1) := by decide +kernel
theorem dX4_quarrels_33 : decode cX4_quarrels 33 = .ok (.ireturn, 1) := by decide +kernel
theorem dX4_ticksToQuarrel_0 : decode cX4_ticksToQuarrel 0 = .ok (.iload_n 1, 1) := by decide +kernel
theorem dX4_ticksToQuarrel_1 : decode cX4_ticksToQuarrel 1 = .ok (.invokestatic 57, 3) := by decide +kernel
theorem dX4_ticksToQuarrel_4 : decode cX4_ticksToQuarrel 4 = .ok (.istore_n 2, 1) := by decide +kernel
theorem dX4_ticksToQuarrel_5 : decode cX4_ticksToQuarrel 5 = .ok (.aload_n 0, 1) := by decide +kernel
theorem dX4_ticksToQuarrel_6 : decode cX4_ticksToQuarrel 6 = .ok (.getfield 12, 3) := by decide +kernel
theorem dX4_ticksToQuarrel_9 : decode cX4_ticksToQuarrel 9 = .ok (.getfield 50, 3) := by decide +kernel
theorem dX4_ticksToQuarrel_12 : decode cX4_ticksToQuarrel 12 = .ok (.iload_n 1, 1) := by decide +kernel
theorem dX4_ticksToQuarrel_13 : decode cX4_ticksToQuarrel 13 = .ok (.iaload, 1) := by decide +kernel
theorem dX4_ticksToQuarrel_14 : decode cX4_ticksToQuarrel 14 = .ok (.istore_n 3, 1) := by decide +kernel
theorem dX4_ticksToQuarrel_15 : decode cX4_ticksToQuarrel 15 = .ok (.aload_n 0, 1) := by decide +kernel
theorem dX4_ticksToQuarrel_16 : decode cX4_ticksToQuarrel 16 = .ok (.getfield 12, 3) := by decide +kernel
theorem dX4_ticksToQuarrel_19 : decode cX4_ticksToQuarrel 19 = .ok (.getfield 50, 3) := by decide +kernel
theorem dX4_ticksToQuarrel_22 : decode cX4_ticksToQuarrel 22 = .ok (.iload_n 2, 1) := by decide +kernel
theorem dX4_ticksToQuarrel_23 : decode cX4_ticksToQuarrel 23 = .ok (.iaload, 1) := by decide +kernel
theorem dX4_ticksToQuarrel_24 : decode cX4_ticksToQuarrel 24 = .ok (.istore 4, 2) := by decide +kernel
theorem dX4_ticksToQuarrel_26 : decode cX4_ticksToQuarrel 26 = .ok (.iconst 0, 1) := by decide +kernel
theorem dX4_ticksToQuarrel_27 : decode cX4_ticksToQuarrel 27 = .ok (.istore 5, 2) := by decide +kernel
theorem dX4_ticksToQuarrel_29 : decode cX4_ticksToQuarrel 29 = .ok (.iload 5, 2) := by decide +kernel
theorem dX4_ticksToQuarrel_31 : decode cX4_ticksToQuarrel 31 = .ok (.sipush 200, 3) := by decide +kernel
theorem dX4_ticksToQuarrel_34 : decode cX4_ticksToQuarrel 34 = .ok (.if_icmp .gt 60, 3) := by decide +kernel
theorem dX4_ticksToQuarrel_37 : decode cX4_ticksToQuarrel 37 = .ok (.aload_n 0, 1) := by decide +kernel
theorem dX4_ticksToQuarrel_38 : decode cX4_ticksToQuarrel 38 = .ok (.aload_n 0, 1) := by decide +kernel
theorem dX4_ticksToQuarrel_39 : decode cX4_ticksToQuarrel 39 = .ok (.getfield 21, 3) := by decide +kernel
theorem dX4_ticksToQuarrel_42 : decode cX4_ticksToQuarrel 42 = .ok (.iload_n 1, 1) := by decide +kernel
theorem dX4_ticksToQuarrel_43 : decode cX4_ticksToQuarrel 43 = .ok (.iload_n 3, 1) := by decide +kernel
theorem dX4_ticksToQuarrel_44 : decode cX4_ticksToQuarrel 44 = .ok (.invokevirtual 53, 3) := by decide +kernel
theorem dX4_ticksToQuarrel_47 : decode cX4_ticksToQuarrel 47 = .ok (.aload_n 0, 1) := by decide +kernel
theorem dX4_ticksToQuarrel_48 : decode cX4_ticksToQuarrel 48 = .ok (.getfield 21, 3) := by decide +kernel
theorem dX4_ticksToQuarrel_51 : decode cX4_ticksToQuarrel 51 = .ok (.iload_n 2, 1) := by decide +kernel
theorem dX4_ticksToQuarrel_52 : decode cX4_ticksToQuarrel 52 = .ok (.iload 4, 2) := by decide +kernel
theorem dX4_ticksToQuarrel_54 : decode cX4_ticksToQuarrel 54 = .ok (.invokevirtual 53, 3) := by decide +kernel
theorem dX4_ticksToQuarrel_57 : decode cX4_ticksToQuarrel 57 = .ok (.invokevirtual 65, 3) := by decide +kernel
theorem dX4_ticksToQuarrel_60 : decode cX4_ticksToQuarrel 60 = .ok (.ifCond .eq 6, 3) := by decide +kernel
theorem dX4_ticksToQuarrel_63 : decode cX4_ticksToQuarrel 63 = .ok (.iload 5, 2) := by decide +kernel
theorem dX4_ticksToQuarrel_65 : decode cX4_ticksToQuarrel 65 = .ok (.ireturn, 1) := by decide +kernel
theorem dX4_ticksToQuarrel_66 : decode cX4_ticksToQuarrel 66 = .ok (.aload_n 0, 1) := by decide +kernel
theorem dX4_ticksToQuarrel_67 : decode cX4_ticksToQuarrel 67 = .ok (.getfield 12, 3) := by decide +kernel
theorem dX4_ticksToQuarrel_70 : decode cX4_ticksToQuarrel 70 = .ok (.iload_n 1, 1) := by decide +kernel
theorem dX4_ticksToQuarrel_71 : decode cX4_ticksToQuarrel 71 = .ok (.iload_n 3, 1) := by decide +kernel
theorem dX4_ticksToQuarrel_72 : decode cX4_ticksToQuarrel 72 = .ok (.invokevirtual 83, 3) := by decide +kernel
theorem dX4_ticksToQuarrel_75 : decode cX4_ticksToQuarrel 75 = .ok (.istore_n 3, 1) := by decide +kernel
theorem dX4_ticksToQuarrel_76 : decode cX4_ticksToQuarrel 76 = .ok (.aload_n 0, 1) := by decide +kernel
theorem dX4_ticksToQuarrel_77 : decode cX4_ticksToQuarrel 77 = .ok (.getfield 12, 3) := by decide +kernel
theorem dX4_ticksToQuarrel_80 : decode cX4_ticksToQuarrel 80 = .ok (.iload_n 2, 1) := by decide +kernel
theorem dX4_ticksToQuarrel_81 : decode cX4_ticksToQuarrel 81 = .ok (.iload 4, 2) := by decide +kernel
theorem dX4_ticksToQuarrel_83 : decode cX4_ticksToQuarrel 83 = .ok (.invokevirtual 83, 3) := by decide +kernel
theorem dX4_ticksToQuarrel_86 : decode cX4_ticksToQuarrel 86 = .ok (.istore 4, 2) := by decide +kernel
theorem dX4_ticksToQuarrel_88 : decode cX4_ticksToQuarrel 88 = .ok (.iinc 5 1, 3) := by decide +kernel
theorem dX4_ticksToQuarrel_91 : decode cX4_ticksToQuarrel 91 = .ok (.goto (-62), 3) := by decide +kernel
theorem dX4_ticksToQuarrel_94 : decode cX4_ticksToQuarrel 94 = .ok (.iconst (-1), 1) := by decide +kernel
theorem dX4_ticksToQuarrel_95 : decode cX4_ticksToQuarrel 95 = .ok (.ireturn, 1) := by decide +kernel
theorem dX4_isOff_0 : decode cX4_isOff 0 = .ok (.aload_n 0, 1) := by decide +kernel
theorem dX4_isOff_1 : decode cX4_isOff 1 = .ok (.getfield 12, 3) := by decide +kernel
theorem dX4_isOff_4 : decode cX4_isOff 4 = .ok (.getfield 50, 3) := by decide +kernel
theorem dX4_isOff_7 : decode cX4_isOff 7 = .ok (.iload_n 1, 1) := by decide +kernel
theorem dX4_isOff_8 : decode cX4_isOff 8 = .ok (.iaload, 1) := by decide +kernel
theorem dX4_isOff_9 : decode cX4_isOff 9 = .ok (.aload_n 0, 1) := by decide +kernel
theorem dX4_isOff_10 : decode cX4_isOff 10 = .ok (.getfield 40, 3) := by decide +kernel
theorem dX4_isOff_13 : decode cX4_isOff 13 = .ok (.invokestatic 69, 3) := by decide +kernel
theorem dX4_isOff_16 : decode cX4_isOff 16 = .ok (.aload_n 0, 1) := by decide +kernel
theorem dX4_isOff_17 : decode cX4_isOff 17 = .ok (.getfield 25, 3) := by decide +kernel
theorem dX4_isOff_20 : decode cX4_isOff 20 = .ok (.iconst 1, 1) := by decide +kernel
theorem dX4_isOff_21 : decode cX4_isOff 21 = .ok (.iaload, 1) := by decide +kernel
theorem dX4_isOff_22 : decode cX4_isOff 22 = .ok (.if_icmp .le 7, 3) := by decide +kernel
theorem dX4_isOff_25 : decode cX4_isOff 25 = .ok (.iconst 1, 1) := by decide +kernel
theorem dX4_isOff_26 : decode cX4_isOff 26 = .ok (.goto 4, 3) := by decide +kernel
theorem dX4_isOff_29 : decode cX4_isOff 29 = .ok (.iconst 0, 1) := by decide +kernel
theorem dX4_isOff_30 : decode cX4_isOff 30 = .ok (.ireturn, 1) := by decide +kernel
theorem dX4_dialsOff_0 : decode cX4_dialsOff 0 = .ok (.iconst 0, 1) := by decide +kernel
theorem dX4_dialsOff_1 : decode cX4_dialsOff 1 = .ok (.istore_n 1, 1) := by decide +kernel
theorem dX4_dialsOff_2 : decode cX4_dialsOff 2 = .ok (.iconst 0, 1) := by decide +kernel
theorem dX4_dialsOff_3 : decode cX4_dialsOff 3 = .ok (.istore_n 2, 1) := by decide +kernel
theorem dX4_dialsOff_4 : decode cX4_dialsOff 4 = .ok (.iload_n 2, 1) := by decide +kernel
theorem dX4_dialsOff_5 : decode cX4_dialsOff 5 = .ok (.bipush 7, 2) := by decide +kernel
theorem dX4_dialsOff_7 : decode cX4_dialsOff 7 = .ok (.if_icmp .ge 25, 3) := by decide +kernel
theorem dX4_dialsOff_10 : decode cX4_dialsOff 10 = .ok (.iload_n 1, 1) := by decide +kernel
theorem dX4_dialsOff_11 : decode cX4_dialsOff 11 = .ok (.aload_n 0, 1) := by decide +kernel
theorem dX4_dialsOff_12 : decode cX4_dialsOff 12 = .ok (.iload_n 2, 1) := by decide +kernel
theorem dX4_dialsOff_13 : decode cX4_dialsOff 13 = .ok (.invokevirtual 86, 3) := by decide +kernel
theorem dX4_dialsOff_16 : decode cX4_dialsOff 16 = .ok (.ifCond .eq 7, 3) := by decide +kernel
theorem dX4_dialsOff_19 : decode cX4_dialsOff 19 = .ok (.iconst 1, 1) := by decide +kernel
theorem dX4_dialsOff_20 : decode cX4_dialsOff 20 = .ok (.goto 4, 3) := by decide +kernel
theorem dX4_dialsOff_23 : decode cX4_dialsOff 23 = .ok (.iconst 0, 1) := by decide +kernel
theorem dX4_dialsOff_24 : decode cX4_dialsOff 24 = .ok (.iadd, 1) := by decide +kernel
theorem dX4_dialsOff_25 : decode cX4_dialsOff 25 = .ok (.istore_n 1, 1) := by decide +kernel
theorem dX4_dialsOff_26 : decode cX4_dialsOff 26 = .ok (.iinc 2 1, 3) := by decide +kernel
theorem dX4_dialsOff_29 : decode cX4_dialsOff 29 = .ok (.goto (-25), 3) := by decide +kernel
theorem dX4_dialsOff_32 : decode cX4_dialsOff 32 = .ok (.iload_n 1, 1) := by decide +kernel
theorem dX4_dialsOff_33 : decode cX4_dialsOff 33 = .ok (.ireturn, 1) := by decide +kernel
theorem dX4_correctDials_0 : decode cX4_correctDials 0 = .ok (.iconst 0, 1) := by decide +kernel
theorem dX4_correctDials_1 : decode cX4_correctDials 1 = .ok (.istore_n 1, 1) := by decide +kernel
theorem dX4_correctDials_2 : decode cX4_correctDials 2 = .ok (.iconst 0, 1) := by decide +kernel
theorem dX4_correctDials_3 : decode cX4_correctDials 3 = .ok (.istore_n 2, 1) := by decide +kernel
theorem dX4_correctDials_4 : decode cX4_correctDials 4 = .ok (.iload_n 2, 1) := by decide +kernel
theorem dX4_correctDials_5 : decode cX4_correctDials 5 = .ok (.bipush 7, 2) := by decide +kernel
theorem dX4_correctDials_7 : decode cX4_correctDials 7 = .ok (.if_icmp .ge 33, 3) := by decide +kernel
theorem dX4_correctDials_10 : decode cX4_correctDials 10 = .ok (.aload_n 0, 1) := by decide +kernel
theorem dX4_correctDials_11 : decode cX4_correctDials 11 = .ok (.iload_n 2, 1) := by decide +kernel
theorem dX4_correctDials_12 : decode cX4_correctDials 12 = .ok (.invokevirtual 86, 3) := by decide +kernel
theorem dX4_correctDials_15 : decode cX4_correctDials 15 = .ok (.ifCond .eq 19, 3) := by decide +kernel
theorem dX4_correctDials_18 : decode cX4_correctDials 18 = .ok (.iload_n 1, 1) := by decide +kernel
theorem dX4_correctDials_19 : decode cX4_correctDials 19 = .ok (.aload_n 0, 1) := by decide +kernel
theorem dX4_correctDials_20 : decode cX4_correctDials 20 = .ok (.getfield 12, 3) := by decide +kernel
theorem dX4_correctDials_23 : decode cX4_correctDials 23 = .ok (.iload_n 2, 1) := by decide +kernel
theorem dX4_correctDials_24 : decode cX4_correctDials 24 = .ok (.aload_n 0, 1) := by decide +kernel
theorem dX4_correctDials_25 : decode cX4_correctDials 25 = .ok (.iload_n 2, 1) := by decide +kernel
theorem dX4_correctDials_26 : decode cX4_correctDials 26 = .ok (.invokevirtual 89, 3) := by decide +kernel
theorem dX4_correctDials_29 : decode cX4_correctDials 29 = .ok (.invokevirtual 92, 3) := by decide +kernel
theorem dX4_correctDials_32 : decode cX4_correctDials 32 = .ok (.iadd, 1) := by decide +kernel
theorem dX4_correctDials_33 : decode cX4_correctDials 33 = .ok (.istore_n 1, 1) := by decide +kernel
theorem dX4_correctDials_34 : decode cX4_correctDials 34 = .ok (.iinc 2 1, 3) := by decide +kernel
theorem dX4_correctDials_37 : decode cX4_correctDials 37 = .ok (.goto (-33), 3) := by decide +kernel
theorem dX4_correctDials_40 : decode cX4_correctDials 40 = .ok (.iload_n 1, 1) := by decide +kernel
theorem dX4_correctDials_41 : decode cX4_correctDials 41 = .ok (.ireturn, 1) := by decide +kernel
theorem dX4_nearestAllowed_0 : decode cX4_nearestAllowed 0 = .ok (.aload_n 0, 1) := by decide +kernel
theorem dX4_nearestAllowed_1 : decode cX4_nearestAllowed 1 = .ok (.getfield 25, 3) := by decide +kernel
theorem dX4_nearestAllowed_4 : decode cX4_nearestAllowed 4 = .ok (.iconst 1, 1) := by decide +kernel
theorem dX4_nearestAllowed_5 : decode cX4_nearestAllowed 5 = .ok (.iaload, 1) := by decide +kernel
theorem dX4_nearestAllowed_6 : decode cX4_nearestAllowed 6 = .ok (.istore_n 2, 1) := by decide +kernel
theorem dX4_nearestAllowed_7 : decode cX4_nearestAllowed 7 = .ok (.aload_n 0, 1) := by decide +kernel
theorem dX4_nearestAllowed_8 : decode cX4_nearestAllowed 8 = .ok (.getfield 12, 3) := by decide +kernel
theorem dX4_nearestAllowed_11 : decode cX4_nearestAllowed 11 = .ok (.getfield 50, 3) := by decide +kernel
theorem dX4_nearestAllowed_14 : decode cX4_nearestAllowed 14 = .ok (.iload_n 1, 1) := by decide +kernel
theorem dX4_nearestAllowed_15 : decode cX4_nearestAllowed 15 = .ok (.iaload, 1) := by decide +kernel
theorem dX4_nearestAllowed_16 : decode cX4_nearestAllowed 16 = .ok (.aload_n 0, 1) := by decide +kernel
theorem dX4_nearestAllowed_17 : decode cX4_nearestAllowed 17 = .ok (.getfield 40, 3) := by decide +kernel
theorem dX4_nearestAllowed_20 : decode cX4_nearestAllowed 20 = .ok (.if_icmp .ge 12, 3) := by decide +kernel
theorem dX4_nearestAllowed_23 : decode cX4_nearestAllowed 23 = .ok (.aload_n 0, 1) := by decide +kernel
theorem dX4_nearestAllowed_24 : decode cX4_nearestAllowed 24 = .ok (.getfield 40, 3) := by decide +kernel
theorem dX4_nearestAllowed_27 : decode cX4_nearestAllowed 27 = .ok (.iload_n 2, 1) := by decide +kernel
theorem dX4_nearestAllowed_28 : decode cX4_nearestAllowed 28 = .ok (.isub, 1) := by decide +kernel
theorem dX4_nearestAllowed_29 : decode cX4_nearestAllowed 29 = .ok (.goto 9, 3) := by decide +kernel
theorem dX4_nearestAllowed_32 : decode cX4_nearestAllowed 32 = .ok (.aload_n 0, 1) := by decide +kernel
theorem dX4_nearestAllowed_33 : decode cX4_nearestAllowed 33 = .ok (.getfield 40, 3) := by decide +kernel
theorem dX4_nearestAllowed_36 : decode cX4_nearestAllowed 36 = .ok (.iload_n 2, 1) := by decide +kernel
theorem dX4_nearestAllowed_37 : decode cX4_nearestAllowed 37 = .ok (.iadd, 1) := by decide +kernel
theorem dX4_nearestAllowed_38 : decode cX4_nearestAllowed 38 = .ok (.ireturn, 1) := by decide +kernel
theorem dX5_init_0 : decode cX5_init 0 = .ok (.aload_n 0, 1) := by decide +kernel
theorem dX5_init_1 : decode cX5_init 1 = .ok (.invokespecial 3, 3) := by decide +kernel
theorem dX5_init_4 : decode cX5_init 4 = .ok (.aload_n 0, 1) := by decide +kernel
theorem dX5_init_5 : decode cX5_init 5 = .ok (.bipush 7, 2) := by decide +kernel
theorem dX5_init_7 : decode cX5_init 7 = .ok (.newarray .int, 2) := by decide +kernel
theorem dX5_init_9 : decode cX5_init 9 = .ok (.putfield 9, 3) := by decide +kernel
theorem dX5_init_12 : decode cX5_init 12 = .ok (.aload_n 0, 1) := by decide +kernel
theorem dX5_init_13 : decode cX5_init 13 = .ok (.bipush 7, 2) := by decide +kernel
theorem dX5_init_15 : decode cX5_init 15 = .ok (.newarray .int, 2) := by decide +kernel
theorem dX5_init_17 : decode cX5_init 17 = .ok (.putfield 15, 3) := by decide +kernel
theorem dX5_init_20 : decode cX5_init 20 = .ok (.aload_n 0, 1) := by decide +kernel
theorem dX5_init_21 : decode cX5_init 21 = .ok (.bipush 7, 2) := by decide +kernel
theorem dX5_init_23 : decode cX5_init 23 = .ok (.newarray .int, 2) := by decide +kernel
theorem dX5_init_25 : decode cX5_init 25 = .ok (.putfield 18, 3) := by decide +kernel
theorem dX5_init_28 : decode cX5_init 28 = .ok (.iconst 0, 1) := by decide +kernel
theorem dX5_init_29 : decode cX5_init 29 = .ok (.istore_n 1, 1) := by decide +kernel
theorem dX5_init_30 : decode cX5_init 30 = .ok (.iload_n 1, 1) := by decide +kernel
theorem dX5_init_31 : decode cX5_init 31 = .ok (.bipush 7, 2) := by decide +kernel
theorem dX5_init_33 : decode cX5_init 33 = .ok (.if_icmp .ge 16, 3) := by decide +kernel
theorem dX5_init_36 : decode cX5_init 36 = .ok (.aload_n 0, 1) := by decide +kernel
theorem dX5_init_37 : decode cX5_init 37 = .ok (.getfield 9, 3) := by decide +kernel
theorem dX5_init_40 : decode cX5_init 40 = .ok (.iload_n 1, 1) := by decide +kernel
theorem dX5_init_41 : decode cX5_init 41 = .ok (.iconst 3, 1) := by decide +kernel
theorem dX5_init_42 : decode cX5_init 42 = .ok (.iastore, 1) := by decide +kernel
theorem dX5_init_43 : decode cX5_init 43 = .ok (.iinc 1 1, 3) := by decide +kernel
theorem dX5_init_46 : decode cX5_init 46 = .ok (.goto (-16), 3) := by decide +kernel
theorem dX5_init_49 : decode cX5_init 49 = .ok (.return_, 1) := by decide +kernel
theorem dX5_copyFrom_0 : decode cX5_copyFrom 0 = .ok (.aload_n 1, 1) := by decide +kernel
theorem dX5_copyFrom_1 : decode cX5_copyFrom 1 = .ok (.getfield 9, 3) := by decide +kernel
theorem dX5_copyFrom_4 : decode cX5_copyFrom 4 = .ok (.aload_n 0, 1) := by decide +kernel
theorem dX5_copyFrom_5 : decode cX5_copyFrom 5 = .ok (.getfield 9, 3) := by decide +kernel
theorem dX5_copyFrom_8 : decode cX5_copyFrom 8 = .ok (.invokestatic 21, 3) := by decide +kernel
theorem dX5_copyFrom_11 : decode cX5_copyFrom 11 = .ok (.aload_n 1, 1) := by decide +kernel
theorem dX5_copyFrom_12 : decode cX5_copyFrom 12 = .ok (.getfield 15, 3) := by decide +kernel
theorem dX5_copyFrom_15 : decode cX5_copyFrom 15 = .ok (.aload_n 0, 1) := by decide +kernel
theorem dX5_copyFrom_16 : decode cX5_copyFrom 16 = .ok (.getfield 15, 3) := by decide +kernel
theorem dX5_copyFrom_19 : decode cX5_copyFrom 19 = .ok (.invokestatic 21, 3) := by decide +kernel
theorem dX5_copyFrom_22 : decode cX5_copyFrom 22 = .ok (.aload_n 1, 1) := by decide +kernel
theorem dX5_copyFrom_23 : decode cX5_copyFrom 23 = .ok (.getfield 18, 3) := by decide +kernel
theorem dX5_copyFrom_26 : decode cX5_copyFrom 26 = .ok (.aload_n 0, 1) := by decide +kernel
theorem dX5_copyFrom_27 : decode cX5_copyFrom 27 = .ok (.getfield 18, 3) := by decide +kernel
theorem dX5_copyFrom_30 : decode cX5_copyFrom 30 = .ok (.invokestatic 21, 3) := by decide +kernel
theorem dX5_copyFrom_33 : decode cX5_copyFrom 33 = .ok (.return_, 1) := by decide +kernel
theorem dX5_weightSum_0 : decode cX5_weightSum 0 = .ok (.aload_n 0, 1) := by decide +kernel
theorem dX5_weightSum_1 : decode cX5_weightSum 1 = .ok (.getfield 9, 3) := by decide +kernel
theorem dX5_weightSum_4 : decode cX5_weightSum 4 = .ok (.invokestatic 25, 3) := by decide +kernel
theorem dX5_weightSum_7 : decode cX5_weightSum 7 = .ok (.ireturn, 1) := by decide +kernel
theorem dX5_wordFor_0 : decode cX5_wordFor 0 = .ok (.iload_n 2, 1) := by decide +kernel
theorem dX5_wordFor_1 : decode cX5_wordFor 1 = .ok (.aload_n 0, 1) := by decide +kernel
theorem dX5_wordFor_2 : decode cX5_wordFor 2 = .ok (.getfield 15, 3) := by decide +kernel
theorem dX5_wordFor_5 : decode cX5_wordFor 5 = .ok (.iload_n 1, 1) := by decide +kernel
theorem dX5_wordFor_6 : decode cX5_wordFor 6 = .ok (.iaload, 1) := by decide +kernel
theorem dX5_wordFor_7 : decode cX5_wordFor 7 = .ok (.iadd, 1) := by decide +kernel
theorem dX5_wordFor_8 : decode cX5_wordFor 8 = .ok (.istore_n 3, 1) := by decide +kernel
theorem dX5_wordFor_9 : decode cX5_wordFor 9 = .ok (.iload_n 3, 1) := by decide +kernel
theorem dX5_wordFor_10 : decode cX5_wordFor 10 = .ok (.ifCond .ge 5, 3) := by decide +kernel
theorem dX5_wordFor_13 : decode cX5_wordFor 13 = .ok (.iconst 0, 1) := by decide +kernel
theorem dX5_wordFor_14 : decode cX5_wordFor 14 = .ok (.ireturn, 1) := by decide +kernel
theorem dX5_wordFor_15 : decode cX5_wordFor 15 = .ok (.iload_n 3, 1) := by decide +kernel
theorem dX5_wordFor_16 : decode cX5_wordFor 16 = .ok (.ldc 29, 2) := by decide +kernel
theorem dX5_wordFor_18 : decode cX5_wordFor 18 = .ok (.if_icmp .le 8, 3) := by decide +kernel
theorem dX5_wordFor_21 : decode cX5_wordFor 21 = .ok (.ldc 29, 2) := by decide +kernel
theorem dX5_wordFor_23 : decode cX5_wordFor 23 = .ok (.goto 4, 3) := by decide +kernel
theorem dX5_wordFor_26 : decode cX5_wordFor 26 = .ok (.iload_n 3, 1) := by decide +kernel
theorem dX5_wordFor_27 : decode cX5_wordFor 27 = .ok (.ireturn, 1) := by decide +kernel
theorem dX5_lessen_0 : decode cX5_lessen 0 = .ok (.aload_n 0, 1) := by decide +kernel
theorem dX5_lessen_1 : decode cX5_lessen 1 = .ok (.getfield 9, 3) := by decide +kernel
theorem dX5_lessen_4 : decode cX5_lessen 4 = .ok (.iload_n 1, 1) := by decide +kernel
theorem dX5_lessen_5 : decode cX5_lessen 5 = .ok (.iaload, 1) := by decide +kernel
theorem dX5_lessen_6 : decode cX5_lessen 6 = .ok (.ifCond .le 23, 3) := by decide +kernel
theorem dX5_lessen_9 : decode cX5_lessen 9 = .ok (.aload_n 0, 1) := by decide +kernel
theorem dX5_lessen_10 : decode cX5_lessen 10 = .ok (.getfield 9, 3) := by decide +kernel
theorem dX5_lessen_13 : decode cX5_lessen 13 = .ok (.iload_n 1, 1) := by decide +kernel
theorem dX5_lessen_14 : decode cX5_lessen 14 = .ok (.dup2, 1) := by decide +kernel
theorem dX5_lessen_15 : decode cX5_lessen 15 = .ok (.iaload, 1) := by decide +kernel
theorem dX5_lessen_16 : decode cX5_lessen 16 = .ok (.iconst 1, 1) := by decide +kernel
theorem dX5_lessen_17 : decode cX5_lessen 17 = .ok (.isub, 1) := by decide +kernel
theorem dX5_lessen_18 : decode cX5_lessen 18 = .ok (.iastore, 1) := by decide +kernel
theorem dX5_lessen_19 : decode cX5_lessen 19 = .ok (.aload_n 0, 1) := by decide +kernel
theorem dX5_lessen_20 : decode cX5_lessen 20 = .ok (.getfield 18, 3) := by decide +kernel
theorem dX5_lessen_23 : decode cX5_lessen 23 = .ok (.iload_n 1, 1) := by decide +kernel
theorem dX5_lessen_24 : decode cX5_lessen 24 = .ok (.dup2, 1) := by decide +kernel
theorem dX5_lessen_25 : decode cX5_lessen 25 = .ok (.iaload, 1) := by decide +kernel
theorem dX5_lessen_26 : decode cX5_lessen 26 = .ok (.iconst 1, 1) := by decide +kernel
theorem dX5_lessen_27 : decode cX5_lessen 27 = .ok (.iadd, 1) := by decide +kernel
theorem dX5_lessen_28 : decode cX5_lessen 28 = .ok (.iastore, 1) := by decide +kernel
theorem dX5_lessen_29 : decode cX5_lessen 29 = .ok (.return_, 1) := by decide +kernel
theorem dX6_init_0 : decode cX6_init 0 = .ok (.aload_n 0, 1) := by decide +kernel
theorem dX6_init_1 : decode cX6_init 1 = .ok (.invokespecial 1, 3) := by decide +kernel
theorem dX6_init_4 : decode cX6_init 4 = .ok (.aload_n 0, 1) := by decide +kernel
theorem dX6_init_5 : decode cX6_init 5 = .ok (.new 7, 3) := by decide +kernel
theorem dX6_init_8 : decode cX6_init 8 = .ok (.dup, 1) := by decide +kernel
theorem dX6_init_9 : decode cX6_init 9 = .ok (.invokespecial 9, 3) := by decide +kernel
theorem dX6_init_12 : decode cX6_init 12 = .ok (.putfield 10, 3) := by decide +kernel
theorem dX6_init_15 : decode cX6_init 15 = .ok (.aload_n 0, 1) := by decide +kernel
theorem dX6_init_16 : decode cX6_init 16 = .ok (.new 7, 3) := by decide +kernel
theorem dX6_init_19 : decode cX6_init 19 = .ok (.dup, 1) := by decide +kernel
theorem dX6_init_20 : decode cX6_init 20 = .ok (.invokespecial 9, 3) := by decide +kernel
theorem dX6_init_23 : decode cX6_init 23 = .ok (.putfield 16, 3) := by decide +kernel
theorem dX6_init_26 : decode cX6_init 26 = .ok (.aload_n 0, 1) := by decide +kernel
theorem dX6_init_27 : decode cX6_init 27 = .ok (.iconst 0, 1) := by decide +kernel
theorem dX6_init_28 : decode cX6_init 28 = .ok (.putfield 19, 3) := by decide +kernel
theorem dX6_init_31 : decode cX6_init 31 = .ok (.aload_n 0, 1) := by decide +kernel
theorem dX6_init_32 : decode cX6_init 32 = .ok (.new 23, 3) := by decide +kernel
theorem dX6_init_35 : decode cX6_init 35 = .ok (.dup, 1) := by decide +kernel
theorem dX6_init_36 : decode cX6_init 36 = .ok (.invokespecial 25, 3) := by decide +kernel
theorem dX6_init_39 : decode cX6_init 39 = .ok (.putfield 26, 3) := by decide +kernel
theorem dX6_init_42 : decode cX6_init 42 = .ok (.aload_n 0, 1) := by decide +kernel
theorem dX6_init_43 : decode cX6_init 43 = .ok (.new 30, 3) := by decide +kernel
theorem dX6_init_46 : decode cX6_init 46 = .ok (.dup, 1) := by decide +kernel
theorem dX6_init_47 : decode cX6_init 47 = .ok (.invokespecial 32, 3) := by decide +kernel
theorem dX6_init_50 : decode cX6_init 50 = .ok (.putfield 33, 3) := by decide +kernel
theorem dX6_init_53 : decode cX6_init 53 = .ok (.aload_n 0, 1) := by decide +kernel
theorem dX6_init_54 : decode cX6_init 54 = .ok (.new 37, 3) := by decide +kernel
theorem dX6_init_57 : decode cX6_init 57 = .ok (.dup, 1) := by decide +kernel
theorem dX6_init_58 : decode cX6_init 58 = .ok (.invokespecial 39, 3) := by decide +kernel
theorem dX6_init_61 : decode cX6_init 61 = .ok (.putfield 40, 3) := by decide +kernel
theorem dX6_init_64 : decode cX6_init 64 = .ok (.return_, 1) := by decide +kernel
theorem dX6_tick_0 : decode cX6_tick 0 = .ok (.iload_n 1, 1) := by decide +kernel
theorem dX6_tick_1 : decode cX6_tick 1 = .ok (.iconst 1, 1) := by decide +kernel
theorem dX6_tick_2 : decode cX6_tick 2 = .ok (.if_icmp .lt 9, 3) := by decide +kernel
theorem dX6_tick_5 : decode cX6_tick 5 = .ok (.iload_n 1, 1) := by decide +kernel
theorem dX6_tick_6 : decode cX6_tick 6 = .ok (.bipush 99, 2) := by decide +kernel
theorem dX6_tick_8 : decode cX6_tick 8 = .ok (.if_icmp .le 13, 3) := by decide +kernel
theorem dX6_tick_11 : decode cX6_tick 11 = .ok (.new 44, 3) := by decide +kernel
theorem dX6_tick_14 : decode cX6_tick 14 = .ok (.dup, 1) := by decide +kernel
theorem dX6_tick_15 : decode cX6_tick 15 = .ok (.ldc 46, 2) := by decide +kernel
theorem dX6_tick_17 : decode cX6_tick 17 = .ok (.invokespecial 48, 3) := by decide +kernel
theorem dX6_tick_20 : decode cX6_tick 20 = .ok (.athrow, 1) := by decide +kernel
theorem dX6_tick_21 : decode cX6_tick 21 = .ok (.aload_n 0, 1) := by decide +kernel
theorem dX6_tick_22 : decode cX6_tick 22 = .ok (.getfield 26, 3) := by decide +kernel
theorem dX6_tick_25 : decode cX6_tick 25 = .ok (.aload_n 0, 1) := by decide +kernel
theorem dX6_tick_26 : decode cX6_tick 26 = .ok (.getfield 10, 3) := by decide +kernel
theorem dX6_tick_29 : decode cX6_tick 29 = .ok (.invokevirtual 51, 3) := by decide +kernel
theorem dX6_tick_32 : decode cX6_tick 32 = .ok (.aload_n 0, 1) := by decide +kernel
theorem dX6_tick_33 : decode cX6_tick 33 = .ok (.getfield 10, 3) := by decide +kernel
theorem dX6_tick_36 : decode cX6_tick 36 = .ok (.getfield 55, 3) := by decide +kernel
theorem dX6_tick_39 : decode cX6_tick 39 = .ok (.iload_n 1, 1) := by decide +kernel
theorem dX6_tick_40 : decode cX6_tick 40 = .ok (.invokevirtual 59, 3) := by decide +kernel
theorem dX6_tick_43 : decode cX6_tick 43 = .ok (.ireturn, 1) := by decide +kernel
theorem dX6_vote_0 : decode cX6_vote 0 = .ok (.aload_n 0, 1) := by decide +kernel
theorem dX6_vote_1 : decode cX6_vote 1 = .ok (.getfield 10, 3) := by decide +kernel
theorem dX6_vote_4 : decode cX6_vote 4 = .ok (.getfield 65, 3) := by decide +kernel
theorem dX6_vote_7 : decode cX6_vote 7 = .ok (.invokevirtual 69, 3) := by decide +kernel
theorem dX6_vote_10 : decode cX6_vote 10 = .ok (.ifCond .ne 13, 3) := by decide +kernel
theorem dX6_vote_13 : decode cX6_vote 13 = .ok (.new 75, 3) := by decide +kernel
theorem dX6_vote_16 : decode cX6_vote 16 = .ok (.dup, 1) := by decide +kernel
theorem dX6_vote_17 : decode cX6_vote 17 = .ok (.ldc 77, 2) := by decide +kernel
theorem dX6_vote_19 : decode cX6_vote 19 = .ok (.invokespecial 79, 3) := by decide +kernel
theorem dX6_vote_22 : decode cX6_vote 22 = .ok (.athrow, 1) := by decide +kernel
theorem dX6_vote_23 : decode cX6_vote 23 = .ok (.aload_n 0, 1) := by decide +kernel
theorem dX6_vote_24 : decode cX6_vote 24 = .ok (.getfield 26, 3) := by decide +kernel
theorem dX6_vote_27 : decode cX6_vote 27 = .ok (.aload_n 0, 1) := by decide +kernel
theorem dX6_vote_28 : decode cX6_vote 28 = .ok (.getfield 10, 3) := by decide +kernel
theorem dX6_vote_31 : decode cX6_vote 31 = .ok (.invokevirtual 51, 3) := by decide +kernel
theorem dX6_vote_34 : decode cX6_vote 34 = .ok (.aload_n 0, 1) := by decide +kernel
theorem dX6_vote_35 : decode cX6_vote 35 = .ok (.invokevirtual 80, 3) := by decide +kernel
theorem dX6_vote_38 : decode cX6_vote 38 = .ok (.aload_n 0, 1) := by decide +kernel
theorem dX6_vote_39 : decode cX6_vote 39 = .ok (.getfield 10, 3) := by decide +kernel
theorem dX6_vote_42 : decode cX6_vote 42 = .ok (.getfield 83, 3) := by decide +kernel
theorem dX6_vote_45 : decode cX6_vote 45 = .ok (.ireturn, 1) := by decide +kernel
theorem dX6_correct_0 : decode cX6_correct 0 = .ok (.aload_n 0, 1) := by decide +kernel
theorem dX6_correct_1 : decode cX6_correct 1 = .ok (.getfield 26, 3) := by decide +kernel
theorem dX6_correct_4 : decode cX6_correct 4 = .ok (.aload_n 0, 1) := by decide +kernel
theorem dX6_correct_5 : decode cX6_correct 5 = .ok (.getfield 10, 3) := by decide +kernel
theorem dX6_correct_8 : decode cX6_correct 8 = .ok (.invokevirtual 51, 3) := by decide +kernel
theorem dX6_correct_11 : decode cX6_correct 11 = .ok (.aload_n 0, 1) := by decide +kernel
theorem dX6_correct_12 : decode cX6_correct 12 = .ok (.getfield 10, 3) := by decide +kernel
theorem dX6_correct_15 : decode cX6_correct 15 = .ok (.invokevirtual 87, 3) := by decide +kernel
theorem dX6_correct_18 : decode cX6_correct 18 = .ok (.ireturn, 1) := by decide +kernel
theorem dX6_put_0 : decode cX6_put 0 = .ok (.iload_n 1, 1) := by decide +kernel
theorem dX6_put_1 : decode cX6_put 1 = .ok (.invokestatic 90, 3) := by decide +kernel
theorem dX6_put_4 : decode cX6_put 4 = .ok (.iload_n 2, 1) := by decide +kernel
theorem dX6_put_5 : decode cX6_put 5 = .ok (.ifCond .lt 9, 3) := by decide +kernel
theorem dX6_put_8 : decode cX6_put 8 = .ok (.iload_n 2, 1) := by decide +kernel
theorem dX6_put_9 : decode cX6_put 9 = .ok (.ldc 94, 2) := by decide +kernel
theorem dX6_put_11 : decode cX6_put 11 = .ok (.if_icmp .le 13, 3) := by decide +kernel
theorem dX6_put_14 : decode cX6_put 14 = .ok (.new 44, 3) := by decide +kernel
theorem dX6_put_17 : decode cX6_put 17 = .ok (.dup, 1) := by decide +kernel
theorem dX6_put_18 : decode cX6_put 18 = .ok (.ldc 95, 2) := by decide +kernel
theorem dX6_put_20 : decode cX6_put 20 = .ok (.invokespecial 48, 3) := by decide +kernel
theorem dX6_put_23 : decode cX6_put 23 = .ok (.athrow, 1) := by decide +kernel
theorem dX6_put_24 : decode cX6_put 24 = .ok (.aload_n 0, 1) := by decide +kernel
theorem dX6_put_25 : decode cX6_put 25 = .ok (.getfield 26, 3) := by decide +kernel
theorem dX6_put_28 : decode cX6_put 28 = .ok (.aload_n 0, 1) := by decide +kernel
theorem dX6_put_29 : decode cX6_put 29 = .ok (.getfield 10, 3) := by decide +kernel
theorem dX6_put_32 : decode cX6_put 32 = .ok (.invokevirtual 51, 3) := by decide +kernel
theorem dX6_put_35 : decode cX6_put 35 = .ok (.aload_n 0, 1) := by decide +kernel
theorem dX6_put_36 : decode cX6_put 36 = .ok (.getfield 10, 3) := by decide +kernel
theorem dX6_put_39 : decode cX6_put 39 = .ok (.getfield 55, 3) := by decide +kernel
theorem dX6_put_42 : decode cX6_put 42 = .ok (.getfield 97, 3) := by decide +kernel
theorem dX6_put_45 : decode cX6_put 45 = .ok (.iload_n 1, 1) := by decide +kernel
theorem dX6_put_46 : decode cX6_put 46 = .ok (.iaload, 1) := by decide +kernel
theorem dX6_put_47 : decode cX6_put 47 = .ok (.istore_n 3, 1) := by decide +kernel
theorem dX6_put_48 : decode cX6_put 48 = .ok (.aload_n 0, 1) := by decide +kernel
theorem dX6_put_49 : decode cX6_put 49 = .ok (.getfield 10, 3) := by decide +kernel
theorem dX6_put_52 : decode cX6_put 52 = .ok (.getfield 55, 3) := by decide +kernel
theorem dX6_put_55 : decode cX6_put 55 = .ok (.iload_n 1, 1) := by decide +kernel
theorem dX6_put_56 : decode cX6_put 56 = .ok (.iload_n 2, 1) := by decide +kernel
theorem dX6_put_57 : decode cX6_put 57 = .ok (.invokevirtual 100, 3) := by decide +kernel
theorem dX6_put_60 : decode cX6_put 60 = .ok (.pop, 1) := by decide +kernel
theorem dX6_put_61 : decode cX6_put 61 = .ok (.iload_n 3, 1) := by decide +kernel
theorem dX6_put_62 : decode cX6_put 62 = .ok (.ireturn, 1) := by decide +kernel
theorem dX6_drift_0 : decode cX6_drift 0 = .ok (.iload_n 1, 1) := by decide +kernel
theorem dX6_drift_1 : decode cX6_drift 1 = .ok (.invokestatic 90, 3) := by decide +kernel
theorem dX6_drift_4 : decode cX6_drift 4 = .ok (.iload_n 2, 1) := by decide +kernel
theorem dX6_drift_5 : decode cX6_drift 5 = .ok (.bipush (-5), 2) := by decide +kernel
theorem dX6_drift_7 : decode cX6_drift 7 = .ok (.if_icmp .lt 8, 3) := by decide +kernel
theorem dX6_drift_10 : decode cX6_drift 10 = .ok (.iload_n 2, 1) := by decide +kernel
theorem dX6_drift_11 : decode cX6_drift 11 = .ok (.iconst 5, 1) := by decide +kernel
theorem dX6_drift_12 : decode cX6_drift 12 = .ok (.if_icmp .le 13, 3) := by decide +kernel
theorem dX6_drift_15 : decode cX6_drift 15 = .ok (.new 44, 3) := by decide +kernel
theorem dX6_drift_18 : decode cX6_drift 18 = .ok (.dup, 1) := by decide +kernel
theorem dX6_drift_19 : decode cX6_drift 19 = .ok (.ldc 104, 2) := by decide +kernel
theorem dX6_drift_21 : decode cX6_drift 21 = .ok (.invokespecial 48, 3) := by decide +kernel
theorem dX6_drift_24 : decode cX6_drift 24 = .ok (.athrow, 1) := by decide +kernel
theorem dX6_drift_25 : decode cX6_drift 25 = .ok (.aload_n 0, 1) := by decide +kernel
theorem dX6_drift_26 : decode cX6_drift 26 = .ok (.getfield 26, 3) := by decide +kernel
theorem dX6_drift_29 : decode cX6_drift 29 = .ok (.aload_n 0, 1) := by decide +kernel
theorem dX6_drift_30 : decode cX6_drift 30 = .ok (.getfield 10, 3) := by decide +kernel
theorem dX6_drift_33 : decode cX6_drift 33 = .ok (.invokevirtual 51, 3) := by decide +kernel
theorem dX6_drift_36 : decode cX6_drift 36 = .ok (.aload_n 0, 1) := by decide +kernel
theorem dX6_drift_37 : decode cX6_drift 37 = .ok (.getfield 10, 3) := by decide +kernel
theorem dX6_drift_40 : decode cX6_drift 40 = .ok (.getfield 55, 3) := by decide +kernel
theorem dX6_drift_43 : decode cX6_drift 43 = .ok (.getfield 106, 3) := by decide +kernel
theorem dX6_drift_46 : decode cX6_drift 46 = .ok (.iload_n 1, 1) := by decide +kernel
theorem dX6_drift_47 : decode cX6_drift 47 = .ok (.iaload, 1) := by decide +kernel
theorem dX6_drift_48 : decode cX6_drift 48 = .ok (.istore_n 3, 1) := by decide +kernel
theorem dX6_drift_49 : decode cX6_drift 49 = .ok (.aload_n 0, 1) := by decide +kernel
theorem dX6_drift_50 : decode cX6_drift 50 = .ok (.getfield 10, 3) := by decide +kernel
theorem dX6_drift_53 : decode cX6_drift 53 = .ok (.getfield 55, 3) := by decide +kernel
theorem dX6_drift_56 : decode cX6_drift 56 = .ok (.iload_n 1, 1) := by decide +kernel
theorem dX6_drift_57 : decode cX6_drift 57 = .ok (.iload_n 2, 1) := by decide +kernel
theorem dX6_drift_58 : decode cX6_drift 58 = .ok (.invokevirtual 109, 3) := by decide +kernel
theorem dX6_drift_61 : decode cX6_drift 61 = .ok (.iload_n 3, 1) := by decide +kernel
theorem dX6_drift_62 : decode cX6_drift 62 = .ok (.ireturn, 1) := by decide +kernel
theorem dX6_warden_0 : decode cX6_warden 0 = .ok (.iload_n 1, 1) := by decide +kernel
theorem dX6_warden_1 : decode cX6_warden 1 = .ok (.invokestatic 90, 3) := by decide +kernel
theorem dX6_warden_4 : decode cX6_warden 4 = .ok (.iload_n 2, 1) := by decide +kernel
theorem dX6_warden_5 : decode cX6_warden 5 = .ok (.ifCond .lt 9, 3) := by decide +kernel
theorem dX6_warden_8 : decode cX6_warden 8 = .ok (.iload_n 2, 1) := by decide +kernel
theorem dX6_warden_9 : decode cX6_warden 9 = .ok (.bipush 9, 2) := by decide +kernel
theorem dX6_warden_11 : decode cX6_warden 11 = .ok (.if_icmp .le 13, 3) := by decide +kernel
theorem dX6_warden_14 : decode cX6_warden 14 = .ok (.new 44, 3) := by decide +kernel
theorem dX6_warden_17 : decode cX6_warden 17 = .ok (.dup, 1) := by decide +kernel
theorem dX6_warden_18 : decode cX6_warden 18 = .ok (.ldc 113, 2) := by decide +kernel
theorem dX6_warden_20 : decode cX6_warden 20 = .ok (.invokespecial 48, 3) := by decide +kernel
theorem dX6_warden_23 : decode cX6_warden 23 = .ok (.athrow, 1) := by decide +kernel
theorem dX6_warden_24 : decode cX6_warden 24 = .ok (.iload_n 3, 1) := by decide +kernel
theorem dX6_warden_25 : decode cX6_warden 25 = .ok (.bipush (-60), 2) := by decide +kernel
theorem dX6_warden_27 : decode cX6_warden 27 = .ok (.if_icmp .lt 9, 3) := by decide +kernel
theorem dX6_warden_30 : decode cX6_warden 30 = .ok (.iload_n 3, 1) := by decide +kernel
theorem dX6_warden_31 : decode cX6_warden 31 = .ok (.bipush 60, 2) := by decide +kernel
theorem dX6_warden_33 : decode cX6_warden 33 = .ok (.if_icmp .le 13, 3) := by decide +kernel
theorem dX6_warden_36 : decode cX6_warden 36 = .ok (.new 44, 3) := by decide +kernel
theorem dX6_warden_39 : decode cX6_warden 39 = .ok (.dup, 1) := by decide +kernel
theorem dX6_warden_40 : decode cX6_warden 40 = .ok (.ldc 115, 2) := by decide +kernel
theorem dX6_warden_42 : decode cX6_warden 42 = .ok (.invokespecial 48, 3) := by decide +kernel
theorem dX6_warden_45 : decode cX6_warden 45 = .ok (.athrow, 1) := by decide +kernel
theorem dX6_warden_46 : decode cX6_warden 46 = .ok (.aload_n 0, 1) := by decide +kernel
theorem dX6_warden_47 : decode cX6_warden 47 = .ok (.getfield 26, 3) := by decide +kernel
theorem dX6_warden_50 : decode cX6_warden 50 = .ok (.aload_n 0, 1) := by decide +kernel
theorem dX6_warden_51 : decode cX6_warden 51 = .ok (.getfield 10, 3) := by decide +kernel
theorem dX6_warden_54 : decode cX6_warden 54 = .ok (.invokevirtual 51, 3) := by decide +kernel
theorem dX6_warden_57 : decode cX6_warden 57 = .ok (.aload_n 0, 1) := by decide +kernel
theorem dX6_warden_58 : decode cX6_warden 58 = .ok (.getfield 10, 3) := by decide +kernel
theorem dX6_warden_61 : decode cX6_warden 61 = .ok (.getfield 65, 3) := by decide +kernel
theorem dX6_warden_64 : decode cX6_warden 64 = .ok (.getfield 117, 3) := by decide +kernel
theorem dX6_warden_67 : decode cX6_warden 67 = .ok (.iload_n 1, 1) := by decide +kernel
theorem dX6_warden_68 : decode cX6_warden 68 = .ok (.iaload, 1) := by decide +kernel
theorem dX6_warden_69 : decode cX6_warden 69 = .ok (.istore 4, 2) := by decide +kernel
theorem dX6_warden_71 : decode cX6_warden 71 = .ok (.aload_n 0, 1) := by decide +kernel
theorem dX6_warden_72 : decode cX6_warden 72 = .ok (.getfield 10, 3) := by decide +kernel
theorem dX6_warden_75 : decode cX6_warden 75 = .ok (.getfield 65, 3) := by decide +kernel
theorem dX6_warden_78 : decode cX6_warden 78 = .ok (.getfield 117, 3) := by decide +kernel
theorem dX6_warden_81 : decode cX6_warden 81 = .ok (.iload_n 1, 1) := by decide +kernel
theorem dX6_warden_82 : decode cX6_warden 82 = .ok (.iload_n 2, 1) := by decide +kernel
theorem dX6_warden_83 : decode cX6_warden 83 = .ok (.iastore, 1) := by decide +kernel
theorem dX6_warden_84 : decode cX6_warden 84 = .ok (.aload_n 0, 1) := by decide +kernel
theorem dX6_warden_85 : decode cX6_warden 85 = .ok (.getfield 10, 3) := by decide +kernel
theorem dX6_warden_88 : decode cX6_warden 88 = .ok (.getfield 65, 3) := by decide +kernel
theorem dX6_warden_91 : decode cX6_warden 91 = .ok (.getfield 120, 3) := by decide +kernel
theorem dX6_warden_94 : decode cX6_warden 94 = .ok (.iload_n 1, 1) := by decide +kernel
theorem dX6_warden_95 : decode cX6_warden 95 = .ok (.iload_n 3, 1) := by decide +kernel
theorem dX6_warden_96 : decode cX6_warden 96 = .ok (.iastore, 1) := by decide +kernel
theorem dX6_warden_97 : decode cX6_warden 97 = .ok (.iload 4, 2) := by decide +kernel
theorem dX6_warden_99 : decode cX6_warden 99 = .ok (.ireturn, 1) := by decide +kernel
theorem dX6_set_0 : decode cX6_set 0 = .ok (.iload_n 1, 1) := by decide +kernel
theorem dX6_set_1 : decode cX6_set 1 = .ok (.invokestatic 123, 3) := by decide +kernel
theorem dX6_set_4 : decode cX6_set 4 = .ok (.iload_n 2, 1) := by decide +kernel
theorem dX6_set_5 : decode cX6_set 5 = .ok (.ifCond .lt 9, 3) := by decide +kernel
theorem dX6_set_8 : decode cX6_set 8 = .ok (.iload_n 2, 1) := by decide +kernel
theorem dX6_set_9 : decode cX6_set 9 = .ok (.bipush 99, 2) := by decide +kernel
theorem dX6_set_11 : decode cX6_set 11 = .ok (.if_icmp .le 13, 3) := by decide +kernel
theorem dX6_set_14 : decode cX6_set 14 = .ok (.new 44, 3) := by decide +kernel
theorem dX6_set_17 : decode cX6_set 17 = .ok (.dup, 1) := by decide +kernel
theorem dX6_set_18 : decode cX6_set 18 = .ok (.ldc 126, 2) := by decide +kernel
theorem dX6_set_20 : decode cX6_set 20 = .ok (.invokespecial 48, 3) := by decide +kernel
theorem dX6_set_23 : decode cX6_set 23 = .ok (.athrow, 1) := by decide +kernel
theorem dX6_set_24 : decode cX6_set 24 = .ok (.aload_n 0, 1) := by decide +kernel
theorem dX6_set_25 : decode cX6_set 25 = .ok (.getfield 26, 3) := by decide +kernel
theorem dX6_set_28 : decode cX6_set 28 = .ok (.aload_n 0, 1) := by decide +kernel
theorem dX6_set_29 : decode cX6_set 29 = .ok (.getfield 10, 3) := by decide +kernel
theorem dX6_set_32 : decode cX6_set 32 = .ok (.invokevirtual 51, 3) := by decide +kernel
theorem dX6_set_35 : decode cX6_set 35 = .ok (.aload_n 0, 1) := by decide +kernel
theorem dX6_set_36 : decode cX6_set 36 = .ok (.getfield 10, 3) := by decide +kernel
theorem dX6_set_39 : decode cX6_set 39 = .ok (.getfield 128, 3) := by decide +kernel
theorem dX6_set_42 : decode cX6_set 42 = .ok (.iload_n 1, 1) := by decide +kernel
theorem dX6_set_43 : decode cX6_set 43 = .ok (.iaload, 1) := by decide +kernel
theorem dX6_set_44 : decode cX6_set 44 = .ok (.istore_n 3, 1) := by decide +kernel
theorem dX6_set_45 : decode cX6_set 45 = .ok (.aload_n 0, 1) := by decide +kernel
theorem dX6_set_46 : decode cX6_set 46 = .ok (.getfield 10, 3) := by decide +kernel
theorem dX6_set_49 : decode cX6_set 49 = .ok (.getfield 128, 3) := by decide +kernel
theorem dX6_set_52 : decode cX6_set 52 = .ok (.iload_n 1, 1) := by decide +kernel
theorem dX6_set_53 : decode cX6_set 53 = .ok (.iload_n 2, 1) := by decide +kernel
theorem dX6_set_54 : decode cX6_set 54 = .ok (.iastore, 1) := by decide +kernel
theorem dX6_set_55 : decode cX6_set 55 = .ok (.iload_n 3, 1) := by decide +kernel
theorem dX6_set_56 : decode cX6_set 56 = .ok (.ireturn, 1) := by decide +kernel
theorem dX6_keep_0 : decode cX6_keep 0 = .ok (.aload_n 0, 1) := by decide +kernel
theorem dX6_keep_1 : decode cX6_keep 1 = .ok (.getfield 16, 3) := by decide +kernel
theorem dX6_keep_4 : decode cX6_keep 4 = .ok (.aload_n 0, 1) := by decide +kernel
theorem dX6_keep_5 : decode cX6_keep 5 = .ok (.getfield 10, 3) := by decide +kernel
theorem dX6_keep_8 : decode cX6_keep 8 = .ok (.invokevirtual 160, 3) := by decide +kernel
theorem dX6_keep_11 : decode cX6_keep 11 = .ok (.aload_n 0, 1) := by decide +kernel
theorem dX6_keep_12 : decode cX6_keep 12 = .ok (.iconst 1, 1) := by decide +kernel
theorem dX6_keep_13 : decode cX6_keep 13 = .ok (.putfield 19, 3) := by decide +kernel
theorem dX6_keep_16 : decode cX6_keep 16 = .ok (.aload_n 0, 1) := by decide +kernel
theorem dX6_keep_17 : decode cX6_keep 17 = .ok (.getfield 10, 3) := by decide +kernel
theorem dX6_keep_20 : decode cX6_keep 20 = .ok (.getfield 83, 3) := by decide +kernel
theorem dX6_keep_23 : decode cX6_keep 23 = .ok (.ireturn, 1) := by decide +kernel
theorem dX6_undo_0 : decode cX6_undo 0 = .ok (.aload_n 0, 1) := by decide +kernel
theorem dX6_undo_1 : decode cX6_undo 1 = .ok (.getfield 26, 3) := by decide +kernel
theorem dX6_undo_4 : decode cX6_undo 4 = .ok (.getfield 165, 3) := by decide +kernel
theorem dX6_undo_7 : decode cX6_undo 7 = .ok (.ifCond .ne 13, 3) := by decide +kernel
theorem dX6_undo_10 : decode cX6_undo 10 = .ok (.new 75, 3) := by decide +kernel
theorem dX6_undo_13 : decode cX6_undo 13 = .ok (.dup, 1) := by decide +kernel
theorem dX6_undo_14 : decode cX6_undo 14 = .ok (.ldc 168, 2) := by decide +kernel
theorem dX6_undo_16 : decode cX6_undo 16 = .ok (.invokespecial 79, 3) := by decide +kernel
theorem dX6_undo_19 : decode cX6_undo 19 = .ok (.athrow, 1) := by decide +kernel
theorem dX6_undo_20 : decode cX6_undo 20 = .ok (.aload_n 0, 1) := by decide +kernel
theorem dX6_undo_21 : decode cX6_undo 21 = .ok (.getfield 26, 3) := by decide +kernel
theorem dX6_undo_24 : decode cX6_undo 24 = .ok (.aload_n 0, 1) := by decide +kernel
theorem dX6_undo_25 : decode cX6_undo 25 = .ok (.getfield 10, 3) := by decide +kernel
theorem dX6_undo_28 : decode cX6_undo 28 = .ok (.invokevirtual 170, 3) := by decide +kernel
theorem dX6_undo_31 : decode cX6_undo 31 = .ok (.aload_n 0, 1) := by decide +kernel
theorem dX6_undo_32 : decode cX6_undo 32 = .ok (.getfield 26, 3) := by decide +kernel
theorem dX6_undo_35 : decode cX6_undo 35 = .ok (.getfield 165, 3) := by decide +kernel
theorem dX6_undo_38 : decode cX6_undo 38 = .ok (.ireturn, 1) := by decide +kernel
theorem dX6_dial_0 : decode cX6_dial 0 = .ok (.iload_n 1, 1) := by decide +kernel
theorem dX6_dial_1 : decode cX6_dial 1 = .ok (.invokestatic 90, 3) := by decide +kernel
theorem dX6_dial_4 : decode cX6_dial 4 = .ok (.iload_n 2, 1) := by decide +kernel
theorem dX6_dial_5 : decode cX6_dial 5 = .ok (.ifCond .lt 9, 3) := by decide +kernel
theorem dX6_dial_8 : decode cX6_dial 8 = .ok (.iload_n 2, 1) := by decide +kernel
theorem dX6_dial_9 : decode cX6_dial 9 = .ok (.bipush 7, 2) := by decide +kernel
theorem dX6_dial_11 : decode cX6_dial 11 = .ok (.if_icmp .lt 13, 3) := by decide +kernel
theorem dX6_dial_14 : decode cX6_dial 14 = .ok (.new 44, 3) := by decide +kernel
theorem dX6_dial_17 : decode cX6_dial 17 = .ok (.dup, 1) := by decide +kernel
theorem dX6_dial_18 : decode cX6_dial 18 = .ok (.ldc 173, 2) := by decide +kernel
theorem dX6_dial_20 : decode cX6_dial 20 = .ok (.invokespecial 48, 3) := by decide +kernel
theorem dX6_dial_23 : decode cX6_dial 23 = .ok (.athrow, 1) := by decide +kernel
theorem dX6_dial_24 : decode cX6_dial 24 = .ok (.aload_n 0, 1) := by decide +kernel
theorem dX6_dial_25 : decode cX6_dial 25 = .ok (.iload_n 1, 1) := by decide +kernel
theorem dX6_dial_26 : decode cX6_dial 26 = .ok (.iload_n 2, 1) := by decide +kernel
theorem dX6_dial_27 : decode cX6_dial 27 = .ok (.invokevirtual 175, 3) := by decide +kernel
theorem dX6_dial_30 : decode cX6_dial 30 = .ok (.ireturn, 1) := by decide +kernel
theorem dX6_says_0 : decode cX6_says 0 = .ok (.iload_n 1, 1) := by decide +kernel
theorem dX6_says_1 : decode cX6_says 1 = .ok (.invokestatic 90, 3) := by decide +kernel
theorem dX6_says_4 : decode cX6_says 4 = .ok (.iload_n 2, 1) := by decide +kernel
theorem dX6_says_5 : decode cX6_says 5 = .ok (.ifCond .lt 9, 3) := by decide +kernel
theorem dX6_says_8 : decode cX6_says 8 = .ok (.iload_n 2, 1) := by decide +kernel
theorem dX6_says_9 : decode cX6_says 9 = .ok (.bipush 6, 2) := by decide +kernel
theorem dX6_says_11 : decode cX6_says 11 = .ok (.if_icmp .lt 13, 3) := by decide +kernel
theorem dX6_says_14 : decode cX6_says 14 = .ok (.new 44, 3) := by decide +kernel
theorem dX6_says_17 : decode cX6_says 17 = .ok (.dup, 1) := by decide +kernel
theorem dX6_says_18 : decode cX6_says 18 = .ok (.ldc 173, 2) := by decide +kernel
theorem dX6_says_20 : decode cX6_says 20 = .ok (.invokespecial 48, 3) := by decide +kernel
theorem dX6_says_23 : decode cX6_says 23 = .ok (.athrow, 1) := by decide +kernel
theorem dX6_says_24 : decode cX6_says 24 = .ok (.aload_n 0, 1) := by decide +kernel
theorem dX6_says_25 : decode cX6_says 25 = .ok (.iload_n 1, 1) := by decide +kernel
theorem dX6_says_26 : decode cX6_says 26 = .ok (.iload_n 2, 1) := by decide +kernel
theorem dX6_says_27 : decode cX6_says 27 = .ok (.invokevirtual 178, 3) := by decide +kernel
theorem dX6_says_30 : decode cX6_says 30 = .ok (.ireturn, 1) := by decide +kernel
theorem dX6_count_0 : decode cX6_count 0 = .ok (.iload_n 1, 1) := by decide +kernel
theorem dX6_count_1 : decode cX6_count 1 = .ok (.ifCond .lt 9, 3) := by decide +kernel
theorem dX6_count_4 : decode cX6_count 4 = .ok (.iload_n 1, 1) := by decide +kernel
theorem dX6_count_5 : decode cX6_count 5 = .ok (.bipush 14, 2) := by decide +kernel
theorem dX6_count_7 : decode cX6_count 7 = .ok (.if_icmp .lt 13, 3) := by decide +kernel
theorem dX6_count_10 : decode cX6_count 10 = .ok (.new 44, 3) := by decide +kernel
theorem dX6_count_13 : decode cX6_count 13 = .ok (.dup, 1) := by decide +kernel
theorem dX6_count_14 : decode cX6_count 14 = .ok (.ldc 173, 2) := by decide +kernel
theorem dX6_count_16 : decode cX6_count 16 = .ok (.invokespecial 48, 3) := by decide +kernel
theorem dX6_count_19 : decode cX6_count 19 = .ok (.athrow, 1) := by decide +kernel
theorem dX6_count_20 : decode cX6_count 20 = .ok (.iload_n 1, 1) := by decide +kernel
theorem dX6_count_21 : decode cX6_count 21 = .ok (.bipush 7, 2) := by decide +kernel
theorem dX6_count_23 : decode cX6_count 23 = .ok (.if_icmp .ge 11, 3) := by decide +kernel
theorem dX6_count_26 : decode cX6_count 26 = .ok (.aload_n 0, 1) := by decide +kernel
theorem dX6_count_27 : decode cX6_count 27 = .ok (.iload_n 1, 1) := by decide +kernel
theorem dX6_count_28 : decode cX6_count 28 = .ok (.invokevirtual 181, 3) := by decide +kernel
theorem dX6_count_31 : decode cX6_count 31 = .ok (.goto 8, 3) := by decide +kernel
theorem dX6_count_34 : decode cX6_count 34 = .ok (.aload_n 0, 1) := by decide +kernel
theorem dX6_count_35 : decode cX6_count 35 = .ok (.iload_n 1, 1) := by decide +kernel
theorem dX6_count_36 : decode cX6_count 36 = .ok (.invokevirtual 184, 3) := by decide +kernel
theorem dX6_count_39 : decode cX6_count 39 = .ok (.ireturn, 1) := by decide +kernel
theorem dX6_setting_0 : decode cX6_setting 0 = .ok (.iload_n 1, 1) := by decide +kernel
theorem dX6_setting_1 : decode cX6_setting 1 = .ok (.invokestatic 123, 3) := by decide +kernel
theorem dX6_setting_4 : decode cX6_setting 4 = .ok (.aload_n 0, 1) := by decide +kernel
theorem dX6_setting_5 : decode cX6_setting 5 = .ok (.getfield 10, 3) := by decide +kernel
theorem dX6_setting_8 : decode cX6_setting 8 = .ok (.getfield 128, 3) := by decide +kernel
theorem dX6_setting_11 : decode cX6_setting 11 = .ok (.iload_n 1, 1) := by decide +kernel
theorem dX6_setting_12 : decode cX6_setting 12 = .ok (.iaload, 1) := by decide +kernel
theorem dX6_setting_13 : decode cX6_setting 13 = .ok (.ireturn, 1) := by decide +kernel
theorem dX6_without_0 : decode cX6_without 0 = .ok (.iload_n 1, 1) := by decide +kernel
theorem dX6_without_1 : decode cX6_without 1 = .ok (.invokestatic 90, 3) := by decide +kernel
theorem dX6_without_4 : decode cX6_without 4 = .ok (.aload_n 0, 1) := by decide +kernel
theorem dX6_without_5 : decode cX6_without 5 = .ok (.iload_n 1, 1) := by decide +kernel
theorem dX6_without_6 : decode cX6_without 6 = .ok (.iconst 0, 1) := by decide +kernel
theorem dX6_without_7 : decode cX6_without 7 = .ok (.invokevirtual 187, 3) := by decide +kernel
theorem dX6_without_10 : decode cX6_without 10 = .ok (.ireturn, 1) := by decide +kernel
theorem dX6_pivot_0 : decode cX6_pivot 0 = .ok (.aload_n 0, 1) := by decide +kernel
theorem dX6_pivot_1 : decode cX6_pivot 1 = .ok (.invokevirtual 190, 3) := by decide +kernel
theorem dX6_pivot_4 : decode cX6_pivot 4 = .ok (.istore_n 1, 1) := by decide +kernel
theorem dX6_pivot_5 : decode cX6_pivot 5 = .ok (.iload_n 1, 1) := by decide +kernel
theorem dX6_pivot_6 : decode cX6_pivot 6 = .ok (.iconst (-1), 1) := by decide +kernel
theorem dX6_pivot_7 : decode cX6_pivot 7 = .ok (.if_icmp .ne 5, 3) := by decide +kernel
theorem dX6_pivot_10 : decode cX6_pivot 10 = .ok (.iconst (-1), 1) := by decide +kernel
theorem dX6_pivot_11 : decode cX6_pivot 11 = .ok (.ireturn, 1) := by decide +kernel
theorem dX6_pivot_12 : decode cX6_pivot 12 = .ok (.iconst (-1), 1) := by decide +kernel
theorem dX6_pivot_13 : decode cX6_pivot 13 = .ok (.istore_n 2, 1) := by decide +kernel
theorem dX6_pivot_14 : decode cX6_pivot 14 = .ok (.iconst (-1), 1) := by decide +kernel
theorem dX6_pivot_15 : decode cX6_pivot 15 = .ok (.istore_n 3, 1) := by decide +kernel
theorem dX6_pivot_16 : decode cX6_pivot 16 = .ok (.iconst 0, 1) := by decide +kernel
theorem dX6_pivot_17 : decode cX6_pivot 17 = .ok (.istore 4, 2) := by decide +kernel
theorem dX6_pivot_19 : decode cX6_pivot 19 = .ok (.iload 4, 2) := by decide +kernel
theorem dX6_pivot_21 : decode cX6_pivot 21 = .ok (.bipush 7, 2) := by decide +kernel
theorem dX6_pivot_23 : decode cX6_pivot 23 = .ok (.if_icmp .ge 44, 3) := by decide +kernel
theorem dX6_pivot_26 : decode cX6_pivot 26 = .ok (.aload_n 0, 1) := by decide +kernel
theorem dX6_pivot_27 : decode cX6_pivot 27 = .ok (.iload 4, 2) := by decide +kernel
theorem dX6_pivot_29 : decode cX6_pivot 29 = .ok (.iconst 0, 1) := by decide +kernel
theorem dX6_pivot_30 : decode cX6_pivot 30 = .ok (.invokevirtual 187, 3) := by decide +kernel
theorem dX6_pivot_33 : decode cX6_pivot 33 = .ok (.istore 5, 2) := by decide +kernel
theorem dX6_pivot_35 : decode cX6_pivot 35 = .ok (.iload 5, 2) := by decide +kernel
theorem dX6_pivot_37 : decode cX6_pivot 37 = .ok (.iload_n 1, 1) := by decide +kernel
theorem dX6_pivot_38 : decode cX6_pivot 38 = .ok (.invokestatic 193, 3) := by decide +kernel
theorem dX6_pivot_41 : decode cX6_pivot 41 = .ok (.istore 6, 2) := by decide +kernel
theorem dX6_pivot_43 : decode cX6_pivot 43 = .ok (.iload 5, 2) := by decide +kernel
theorem dX6_pivot_45 : decode cX6_pivot 45 = .ok (.iconst (-1), 1) := by decide +kernel
theorem dX6_pivot_46 : decode cX6_pivot 46 = .ok (.if_icmp .eq 15, 3) := by decide +kernel
theorem dX6_pivot_49 : decode cX6_pivot 49 = .ok (.iload 6, 2) := by decide +kernel
theorem dX6_pivot_51 : decode cX6_pivot 51 = .ok (.iload_n 3, 1) := by decide +kernel
theorem dX6_pivot_52 : decode cX6_pivot 52 = .ok (.if_icmp .le 9, 3) := by decide +kernel
theorem dX6_pivot_55 : decode cX6_pivot 55 = .ok (.iload 6, 2) := by decide +kernel
theorem dX6_pivot_57 : decode cX6_pivot 57 = .ok (.istore_n 3, 1) := by decide +kernel
theorem dX6_pivot_58 : decode cX6_pivot 58 = .ok (.iload 4, 2) := by decide +kernel
theorem dX6_pivot_60 : decode cX6_pivot 60 = .ok (.istore_n 2, 1) := by decide +kernel
theorem dX6_pivot_61 : decode cX6_pivot 61 = .ok (.iinc 4 1, 3) := by decide +kernel
theorem dX6_pivot_64 : decode cX6_pivot 64 = .ok (.goto (-45), 3) := by decide +kernel
theorem dX6_pivot_67 : decode cX6_pivot 67 = .ok (.iload_n 2, 1) := by decide +kernel
theorem dX6_pivot_68 : decode cX6_pivot 68 = .ok (.ireturn, 1) := by decide +kernel
theorem dX6_wins_0 : decode cX6_wins 0 = .ok (.iload_n 1, 1) := by decide +kernel
theorem dX6_wins_1 : decode cX6_wins 1 = .ok (.invokestatic 90, 3) := by decide +kernel
theorem dX6_wins_4 : decode cX6_wins 4 = .ok (.aload_n 0, 1) := by decide +kernel
theorem dX6_wins_5 : decode cX6_wins 5 = .ok (.getfield 10, 3) := by decide +kernel
theorem dX6_wins_8 : decode cX6_wins 8 = .ok (.iload_n 1, 1) := by decide +kernel
theorem dX6_wins_9 : decode cX6_wins 9 = .ok (.invokevirtual 196, 3) := by decide +kernel
theorem dX6_wins_12 : decode cX6_wins 12 = .ok (.istore_n 2, 1) := by decide +kernel
theorem dX6_wins_13 : decode cX6_wins 13 = .ok (.iconst 1, 1) := by decide +kernel
theorem dX6_wins_14 : decode cX6_wins 14 = .ok (.istore_n 3, 1) := by decide +kernel
theorem dX6_wins_15 : decode cX6_wins 15 = .ok (.iload_n 3, 1) := by decide +kernel
theorem dX6_wins_16 : decode cX6_wins 16 = .ok (.bipush 9, 2) := by decide +kernel
theorem dX6_wins_18 : decode cX6_wins 18 = .ok (.if_icmp .gt 21, 3) := by decide +kernel
theorem dX6_wins_21 : decode cX6_wins 21 = .ok (.aload_n 0, 1) := by decide +kernel
theorem dX6_wins_22 : decode cX6_wins 22 = .ok (.iload_n 1, 1) := by decide +kernel
theorem dX6_wins_23 : decode cX6_wins 23 = .ok (.iload_n 3, 1) := by decide +kernel
theorem dX6_wins_24 : decode cX6_wins 24 = .ok (.invokevirtual 187, 3) := by decide +kernel
theorem dX6_wins_27 : decode cX6_wins 27 = .ok (.iload_n 2, 1) := by decide +kernel
theorem dX6_wins_28 : decode cX6_wins 28 = .ok (.if_icmp .ne 5, 3) := by decide +kernel
theorem dX6_wins_31 : decode cX6_wins 31 = .ok (.iload_n 3, 1) := by decide +kernel
theorem dX6_wins_32 : decode cX6_wins 32 = .ok (.ireturn, 1) := by decide +kernel
theorem dX6_wins_33 : decode cX6_wins 33 = .ok (.iinc 3 1, 3) := by decide +kernel
theorem dX6_wins_36 : decode cX6_wins 36 = .ok (.goto (-21), 3) := by decide +kernel
theorem dX6_wins_39 : decode cX6_wins 39 = .ok (.iconst (-1), 1) := by decide +kernel
theorem dX6_wins_40 : decode cX6_wins 40 = .ok (.ireturn, 1) := by decide +kernel
theorem dX6_quarrelIn_0 : decode cX6_quarrelIn 0 = .ok (.iload_n 1, 1) := by decide +kernel
theorem dX6_quarrelIn_1 : decode cX6_quarrelIn 1 = .ok (.invokestatic 90, 3) := by decide +kernel
theorem dX6_quarrelIn_4 : decode cX6_quarrelIn 4 = .ok (.aload_n 0, 1) := by decide +kernel
theorem dX6_quarrelIn_5 : decode cX6_quarrelIn 5 = .ok (.getfield 10, 3) := by decide +kernel
theorem dX6_quarrelIn_8 : decode cX6_quarrelIn 8 = .ok (.iload_n 1, 1) := by decide +kernel
theorem dX6_quarrelIn_9 : decode cX6_quarrelIn 9 = .ok (.invokevirtual 199, 3) := by decide +kernel
theorem dX6_quarrelIn_12 : decode cX6_quarrelIn 12 = .ok (.ireturn, 1) := by decide +kernel
theorem dX6_ringsIn_0 : decode cX6_ringsIn 0 = .ok (.iload_n 1, 1) := by decide +kernel
theorem dX6_ringsIn_1 : decode cX6_ringsIn 1 = .ok (.invokestatic 90, 3) := by decide +kernel
theorem dX6_ringsIn_4 : decode cX6_ringsIn 4 = .ok (.aload_n 0, 1) := by decide +kernel
theorem dX6_ringsIn_5 : decode cX6_ringsIn 5 = .ok (.getfield 10, 3) := by decide +kernel
theorem dX6_ringsIn_8 : decode cX6_ringsIn 8 = .ok (.getfield 55, 3) := by decide +kernel
theorem dX6_ringsIn_11 : decode cX6_ringsIn 11 = .ok (.iload_n 1, 1) := by decide +kernel
theorem dX6_ringsIn_12 : decode cX6_ringsIn 12 = .ok (.invokevirtual 202, 3) := by decide +kernel
theorem dX6_ringsIn_15 : decode cX6_ringsIn 15 = .ok (.ireturn, 1) := by decide +kernel
theorem dX6_heldShare_0 : decode cX6_heldShare 0 = .ok (.aload_n 0, 1) := by decide +kernel
theorem dX6_heldShare_1 : decode cX6_heldShare 1 = .ok (.getfield 10, 3) := by decide +kernel
theorem dX6_heldShare_4 : decode cX6_heldShare 4 = .ok (.getfield 205, 3) := by decide +kernel
theorem dX6_heldShare_7 : decode cX6_heldShare 7 = .ok (.ifCond .ne 5, 3) := by decide +kernel
theorem dX6_heldShare_10 : decode cX6_heldShare 10 = .ok (.dconst 0, 1) := by decide +kernel
theorem dX6_heldShare_11 : decode cX6_heldShare 11 = .ok (.dreturn, 1) := by decide +kernel
theorem dX6_heldShare_12 : decode cX6_heldShare 12 = .ok (.aload_n 0, 1) := by decide +kernel
theorem dX6_heldShare_13 : decode cX6_heldShare 13 = .ok (.getfield 10, 3) := by decide +kernel
theorem dX6_heldShare_16 : decode cX6_heldShare 16 = .ok (.getfield 208, 3) := by decide +kernel
theorem dX6_heldShare_19 : decode cX6_heldShare 19 = .ok (.i2d, 1) := by decide +kernel
theorem dX6_heldShare_20 : decode cX6_heldShare 20 = .ok (.aload_n 0, 1) := by decide +kernel
theorem dX6_heldShare_21 : decode cX6_heldShare 21 = .ok (.getfield 10, 3) := by decide +kernel
theorem dX6_heldShare_24 : decode cX6_heldShare 24 = .ok (.getfield 205, 3) := by decide +kernel
theorem dX6_heldShare_27 : decode cX6_heldShare 27 = .ok (.i2d, 1) := by decide +kernel
theorem dX6_heldShare_28 : decode cX6_heldShare 28 = .ok (.ddiv, 1) := by decide +kernel
theorem dX6_heldShare_29 : decode cX6_heldShare 29 = .ok (.dreturn, 1) := by decide +kernel
theorem dX6_meanError_0 : decode cX6_meanError 0 = .ok (.iconst 0, 1) := by decide +kernel
theorem dX6_meanError_1 : decode cX6_meanError 1 = .ok (.istore_n 1, 1) := by decide +kernel
theorem dX6_meanError_2 : decode cX6_meanError 2 = .ok (.iconst 0, 1) := by decide +kernel
theorem dX6_meanError_3 : decode cX6_meanError 3 = .ok (.istore_n 2, 1) := by decide +kernel
theorem dX6_meanError_4 : decode cX6_meanError 4 = .ok (.iload_n 2, 1) := by decide +kernel
theorem dX6_meanError_5 : decode cX6_meanError 5 = .ok (.bipush 7, 2) := by decide +kernel
theorem dX6_meanError_7 : decode cX6_meanError 7 = .ok (.if_icmp .ge 23, 3) := by decide +kernel
theorem dX6_meanError_10 : decode cX6_meanError 10 = .ok (.iload_n 1, 1) := by decide +kernel
theorem dX6_meanError_11 : decode cX6_meanError 11 = .ok (.aload_n 0, 1) := by decide +kernel
theorem dX6_meanError_12 : decode cX6_meanError 12 = .ok (.getfield 10, 3) := by decide +kernel
theorem dX6_meanError_15 : decode cX6_meanError 15 = .ok (.getfield 55, 3) := by decide +kernel
theorem dX6_meanError_18 : decode cX6_meanError 18 = .ok (.iload_n 2, 1) := by decide +kernel
theorem dX6_meanError_19 : decode cX6_meanError 19 = .ok (.invokevirtual 211, 3) := by decide +kernel
theorem dX6_meanError_22 : decode cX6_meanError 22 = .ok (.iadd, 1) := by decide +kernel
theorem dX6_meanError_23 : decode cX6_meanError 23 = .ok (.istore_n 1, 1) := by decide +kernel
theorem dX6_meanError_24 : decode cX6_meanError 24 = .ok (.iinc 2 1, 3) := by decide +kernel
theorem dX6_meanError_27 : decode cX6_meanError 27 = .ok (.goto (-23), 3) := by decide +kernel
theorem dX6_meanError_30 : decode cX6_meanError 30 = .ok (.iload_n 1, 1) := by decide +kernel
theorem dX6_meanError_31 : decode cX6_meanError 31 = .ok (.i2f, 1) := by decide +kernel
theorem dX6_meanError_32 : decode cX6_meanError 32 = .ok (.ldc 214, 2) := by decide +kernel
theorem dX6_meanError_34 : decode cX6_meanError 34 = .ok (.fdiv, 1) := by decide +kernel
theorem dX6_meanError_35 : decode cX6_meanError 35 = .ok (.freturn, 1) := by decide +kernel
theorem dX6_mustBeDial_0 : decode cX6_mustBeDial 0 = .ok (.iload_n 0, 1) := by decide +kernel
theorem dX6_mustBeDial_1 : decode cX6_mustBeDial 1 = .ok (.ifCond .lt 9, 3) := by decide +kernel
theorem dX6_mustBeDial_4 : decode cX6_mustBeDial 4 = .ok (.iload_n 0, 1) := by decide +kernel
theorem dX6_mustBeDial_5 : decode cX6_mustBeDial 5 = .ok (.bipush 7, 2) := by decide +kernel
theorem dX6_mustBeDial_7 : decode cX6_mustBeDial 7 = .ok (.if_icmp .lt 13, 3) := by decide +kernel
theorem dX6_mustBeDial_10 : decode cX6_mustBeDial 10 = .ok (.new 249, 3) := by decide +kernel
theorem dX6_mustBeDial_13 : decode cX6_mustBeDial 13 = .ok (.dup, 1) := by decide +kernel
theorem dX6_mustBeDial_14 : decode cX6_mustBeDial 14 = .ok (.ldc 251, 2) := by decide +kernel
theorem dX6_mustBeDial_16 : decode cX6_mustBeDial 16 = .ok (.invokespecial 253, 3) := by decide +kernel
theorem dX6_mustBeDial_19 : decode cX6_mustBeDial 19 = .ok (.athrow, 1) := by decide +kernel
theorem dX6_mustBeDial_20 : decode cX6_mustBeDial 20 = .ok (.return_, 1) := by decide +kernel
theorem dX6_mustBeSetting_0 : decode cX6_mustBeSetting 0 = .ok (.iload_n 0, 1) := by decide +kernel
theorem dX6_mustBeSetting_1 : decode cX6_mustBeSetting 1 = .ok (.ifCond .lt 8, 3) := by decide +kernel
theorem dX6_mustBeSetting_4 : decode cX6_mustBeSetting 4 = .ok (.iload_n 0, 1) := by decide +kernel
theorem dX6_mustBeSetting_5 : decode cX6_mustBeSetting 5 = .ok (.iconst 2, 1) := by decide +kernel
theorem dX6_mustBeSetting_6 : decode cX6_mustBeSetting 6 = .ok (.if_icmp .lt 13, 3) := by decide +kernel
theorem dX6_mustBeSetting_9 : decode cX6_mustBeSetting 9 = .ok (.new 249, 3) := by decide +kernel
theorem dX6_mustBeSetting_12 : decode cX6_mustBeSetting 12 = .ok (.dup, 1) := by decide +kernel
theorem dX6_mustBeSetting_13 : decode cX6_mustBeSetting 13 = .ok (.ldc 254, 2) := by decide +kernel
theorem dX6_mustBeSetting_15 : decode cX6_mustBeSetting 15 = .ok (.invokespecial 253, 3) := by decide +kernel
theorem dX6_mustBeSetting_18 : decode cX6_mustBeSetting 18 = .ok (.athrow, 1) := by decide +kernel
theorem dX6_mustBeSetting_19 : decode cX6_mustBeSetting 19 = .ok (.return_, 1) := by decide +kernel
theorem dX6_dialBehind_0 : decode cX6_dialBehind 0 = .ok (.iload_n 0, 1) := by decide +kernel
theorem dX6_dialBehind_1 : decode cX6_dialBehind 1 = .ok (.iconst 1, 1) := by decide +kernel
theorem dX6_dialBehind_2 : decode cX6_dialBehind 2 = .ok (.iadd, 1) := by decide +kernel
theorem dX6_dialBehind_3 : decode cX6_dialBehind 3 = .ok (.bipush 7, 2) := by decide +kernel
theorem dX6_dialBehind_5 : decode cX6_dialBehind 5 = .ok (.if_icmp .ge 9, 3) := by decide +kernel
theorem dX6_dialBehind_8 : decode cX6_dialBehind 8 = .ok (.iload_n 0, 1) := by decide +kernel
theorem dX6_dialBehind_9 : decode cX6_dialBehind 9 = .ok (.iconst 1, 1) := by decide +kernel
theorem dX6_dialBehind_10 : decode cX6_dialBehind 10 = .ok (.iadd, 1) := by decide +kernel
theorem dX6_dialBehind_11 : decode cX6_dialBehind 11 = .ok (.goto 4, 3) := by decide +kernel
theorem dX6_dialBehind_14 : decode cX6_dialBehind 14 = .ok (.iconst 0, 1) := by decide +kernel
theorem dX6_dialBehind_15 : decode cX6_dialBehind 15 = .ok (.ireturn, 1) := by decide +kernel
theorem dX6_dialBefore_0 : decode cX6_dialBefore 0 = .ok (.iload_n 0, 1) := by decide +kernel
theorem dX6_dialBefore_1 : decode cX6_dialBefore 1 = .ok (.ifCond .le 9, 3) := by decide +kernel
theorem dX6_dialBefore_4 : decode cX6_dialBefore 4 = .ok (.iload_n 0, 1) := by decide +kernel
theorem dX6_dialBefore_5 : decode cX6_dialBefore 5 = .ok (.iconst 1, 1) := by decide +kernel
theorem dX6_dialBefore_6 : decode cX6_dialBefore 6 = .ok (.isub, 1) := by decide +kernel
theorem dX6_dialBefore_7 : decode cX6_dialBefore 7 = .ok (.goto 5, 3) := by decide +kernel
theorem dX6_dialBefore_10 : decode cX6_dialBefore 10 = .ok (.bipush 6, 2) := by decide +kernel
theorem dX6_dialBefore_12 : decode cX6_dialBefore 12 = .ok (.ireturn, 1) := by decide +kernel
theorem dX6_distance_0 : decode cX6_distance 0 = .ok (.iload_n 0, 1) := by decide +kernel
theorem dX6_distance_1 : decode cX6_distance 1 = .ok (.iload_n 1, 1) := by decide +kernel
theorem dX6_distance_2 : decode cX6_distance 2 = .ok (.if_icmp .ge 9, 3) := by decide +kernel
theorem dX6_distance_5 : decode cX6_distance 5 = .ok (.iload_n 1, 1) := by decide +kernel
theorem dX6_distance_6 : decode cX6_distance 6 = .ok (.iload_n 0, 1) := by decide +kernel
theorem dX6_distance_7 : decode cX6_distance 7 = .ok (.isub, 1) := by decide +kernel
theorem dX6_distance_8 : decode cX6_distance 8 = .ok (.goto 6, 3) := by decide +kernel
theorem dX6_distance_11 : decode cX6_distance 11 = .ok (.iload_n 0, 1) := by decide +kernel
theorem dX6_distance_12 : decode cX6_distance 12 = .ok (.iload_n 1, 1) := by decide +kernel
theorem dX6_distance_13 : decode cX6_distance 13 = .ok (.isub, 1) := by decide +kernel
theorem dX6_distance_14 : decode cX6_distance 14 = .ok (.ireturn, 1) := by decide +kernel
theorem dX6_sum_0 : decode cX6_sum 0 = .ok (.iconst 0, 1) := by decide +kernel
theorem dX6_sum_1 : decode cX6_sum 1 = .ok (.istore_n 1, 1) := by decide +kernel
theorem dX6_sum_2 : decode cX6_sum 2 = .ok (.aload_n 0, 1) := by decide +kernel
theorem dX6_sum_3 : decode cX6_sum 3 = .ok (.astore_n 2, 1) := by decide +kernel
theorem dX6_sum_4 : decode cX6_sum 4 = .ok (.aload_n 2, 1) := by decide +kernel
theorem dX6_sum_5 : decode cX6_sum 5 = .ok (.arraylength, 1) := by decide +kernel
theorem dX6_sum_6 : decode cX6_sum 6 = .ok (.istore_n 3, 1) := by decide +kernel
theorem dX6_sum_7 : decode cX6_sum 7 = .ok (.iconst 0, 1) := by decide +kernel
theorem dX6_sum_8 : decode cX6_sum 8 = .ok (.istore 4, 2) := by decide +kernel
theorem dX6_sum_10 : decode cX6_sum 10 = .ok (.iload 4, 2) := by decide +kernel
theorem dX6_sum_12 : decode cX6_sum 12 = .ok (.iload_n 3, 1) := by decide +kernel
theorem dX6_sum_13 : decode cX6_sum 13 = .ok (.if_icmp .ge 20, 3) := by decide +kernel
theorem dX6_sum_16 : decode cX6_sum 16 = .ok (.aload_n 2, 1) := by decide +kernel
theorem dX6_sum_17 : decode cX6_sum 17 = .ok (.iload 4, 2) := by decide +kernel
theorem dX6_sum_19 : decode cX6_sum 19 = .ok (.iaload, 1) := by decide +kernel
theorem dX6_sum_20 : decode cX6_sum 20 = .ok (.istore 5, 2) := by decide +kernel
theorem dX6_sum_22 : decode cX6_sum 22 = .ok (.iload_n 1, 1) := by decide +kernel
theorem dX6_sum_23 : decode cX6_sum 23 = .ok (.iload 5, 2) := by decide +kernel
theorem dX6_sum_25 : decode cX6_sum 25 = .ok (.iadd, 1) := by decide +kernel
theorem dX6_sum_26 : decode cX6_sum 26 = .ok (.istore_n 1, 1) := by decide +kernel
theorem dX6_sum_27 : decode cX6_sum 27 = .ok (.iinc 4 1, 3) := by decide +kernel
theorem dX6_sum_30 : decode cX6_sum 30 = .ok (.goto (-20), 3) := by decide +kernel
theorem dX6_sum_33 : decode cX6_sum 33 = .ok (.iload_n 1, 1) := by decide +kernel
theorem dX6_sum_34 : decode cX6_sum 34 = .ok (.ireturn, 1) := by decide +kernel
theorem dX6_copyRow_0 : decode cX6_copyRow 0 = .ok (.iconst 0, 1) := by decide +kernel
theorem dX6_copyRow_1 : decode cX6_copyRow 1 = .ok (.istore_n 2, 1) := by decide +kernel
theorem dX6_copyRow_2 : decode cX6_copyRow 2 = .ok (.iload_n 2, 1) := by decide +kernel
theorem dX6_copyRow_3 : decode cX6_copyRow 3 = .ok (.aload_n 1, 1) := by decide +kernel
theorem dX6_copyRow_4 : decode cX6_copyRow 4 = .ok (.arraylength, 1) := by decide +kernel
theorem dX6_copyRow_5 : decode cX6_copyRow 5 = .ok (.if_icmp .ge 21, 3) := by decide +kernel
theorem dX6_copyRow_8 : decode cX6_copyRow 8 = .ok (.iload_n 2, 1) := by decide +kernel
theorem dX6_copyRow_9 : decode cX6_copyRow 9 = .ok (.aload_n 0, 1) := by decide +kernel
theorem dX6_copyRow_10 : decode cX6_copyRow 10 = .ok (.arraylength, 1) := by decide +kernel
theorem dX6_copyRow_11 : decode cX6_copyRow 11 = .ok (.if_icmp .ge 15, 3) := by decide +kernel
theorem dX6_copyRow_14 : decode cX6_copyRow 14 = .ok (.aload_n 1, 1) := by decide +kernel
theorem dX6_copyRow_15 : decode cX6_copyRow 15 = .ok (.iload_n 2, 1) := by decide +kernel
theorem dX6_copyRow_16 : decode cX6_copyRow 16 = .ok (.aload_n 0, 1) := by decide +kernel
theorem dX6_copyRow_17 : decode cX6_copyRow 17 = .ok (.iload_n 2, 1) := by decide +kernel
theorem dX6_copyRow_18 : decode cX6_copyRow 18 = .ok (.iaload, 1) := by decide +kernel
theorem dX6_copyRow_19 : decode cX6_copyRow 19 = .ok (.iastore, 1) := by decide +kernel
theorem dX6_copyRow_20 : decode cX6_copyRow 20 = .ok (.iinc 2 1, 3) := by decide +kernel
theorem dX6_copyRow_23 : decode cX6_copyRow 23 = .ok (.goto (-21), 3) := by decide +kernel
theorem dX6_copyRow_26 : decode cX6_copyRow 26 = .ok (.return_, 1) := by decide +kernel
theorem dX6_dialNumber_0 : decode cX6_dialNumber 0 = .ok (.iload_n 2, 1) := by decide +kernel
theorem dX6_dialNumber_1 : decode cX6_dialNumber 1 = .ok (.tableswitch 118 0 5 #[39, 52, 64, 77, 93, 106], 39) := by decide +kernel
theorem dX6_dialNumber_40 : decode cX6_dialNumber 40 = .ok (.aload_n 0, 1) := by decide +kernel
theorem dX6_dialNumber_41 : decode cX6_dialNumber 41 = .ok (.getfield 10, 3) := by decide +kernel
theorem dX6_dialNumber_44 : decode cX6_dialNumber 44 = .ok (.getfield 55, 3) := by decide +kernel
theorem dX6_dialNumber_47 : decode cX6_dialNumber 47 = .ok (.getfield 97, 3) := by decide +kernel
theorem dX6_dialNumber_50 : decode cX6_dialNumber 50 = .ok (.iload_n 1, 1) := by decide +kernel
theorem dX6_dialNumber_51 : decode cX6_dialNumber 51 = .ok (.iaload, 1) := by decide +kernel
theorem dX6_dialNumber_52 : decode cX6_dialNumber 52 = .ok (.ireturn, 1) := by decide +kernel
theorem dX6_dialNumber_53 : decode cX6_dialNumber 53 = .ok (.aload_n 0, 1) := by decide +kernel
theorem dX6_dialNumber_54 : decode cX6_dialNumber 54 = .ok (.getfield 10, 3) := by decide +kernel
theorem dX6_dialNumber_57 : decode cX6_dialNumber 57 = .ok (.getfield 55, 3) := by decide +kernel
theorem dX6_dialNumber_60 : decode cX6_dialNumber 60 = .ok (.iload_n 1, 1) := by decide +kernel
theorem dX6_dialNumber_61 : decode cX6_dialNumber 61 = .ok (.invokevirtual 272, 3) := by decide +kernel
theorem dX6_dialNumber_64 : decode cX6_dialNumber 64 = .ok (.ireturn, 1) := by decide +kernel
theorem dX6_dialNumber_65 : decode cX6_dialNumber 65 = .ok (.aload_n 0, 1) := by decide +kernel
theorem dX6_dialNumber_66 : decode cX6_dialNumber 66 = .ok (.getfield 10, 3) := by decide +kernel
theorem dX6_dialNumber_69 : decode cX6_dialNumber 69 = .ok (.getfield 55, 3) := by decide +kernel
theorem dX6_dialNumber_72 : decode cX6_dialNumber 72 = .ok (.getfield 106, 3) := by decide +kernel
theorem dX6_dialNumber_75 : decode cX6_dialNumber 75 = .ok (.iload_n 1, 1) := by decide +kernel
theorem dX6_dialNumber_76 : decode cX6_dialNumber 76 = .ok (.iaload, 1) := by decide +kernel
theorem dX6_dialNumber_77 : decode cX6_dialNumber 77 = .ok (.ireturn, 1) := by decide +kernel
theorem dX6_dialNumber_78 : decode cX6_dialNumber 78 = .ok (.aload_n 0, 1) := by decide +kernel
theorem dX6_dialNumber_79 : decode cX6_dialNumber 79 = .ok (.getfield 10, 3) := by decide +kernel
theorem dX6_dialNumber_82 : decode cX6_dialNumber 82 = .ok (.getfield 55, 3) := by decide +kernel
theorem dX6_dialNumber_85 : decode cX6_dialNumber 85 = .ok (.getfield 97, 3) := by decide +kernel
theorem dX6_dialNumber_88 : decode cX6_dialNumber 88 = .ok (.iload_n 1, 1) := by decide +kernel
theorem dX6_dialNumber_89 : decode cX6_dialNumber 89 = .ok (.iaload, 1) := by decide +kernel
theorem dX6_dialNumber_90 : decode cX6_dialNumber 90 = .ok (.bipush 60, 2) := by decide +kernel
theorem dX6_dialNumber_92 : decode cX6_dialNumber 92 = .ok (.idiv, 1) := by decide +kernel
theorem dX6_dialNumber_93 : decode cX6_dialNumber 93 = .ok (.ireturn, 1) := by decide +kernel
theorem dX6_dialNumber_94 : decode cX6_dialNumber 94 = .ok (.aload_n 0, 1) := by decide +kernel
theorem dX6_dialNumber_95 : decode cX6_dialNumber 95 = .ok (.getfield 10, 3) := by decide +kernel
theorem dX6_dialNumber_98 : decode cX6_dialNumber 98 = .ok (.getfield 55, 3) := by decide +kernel
theorem dX6_dialNumber_101 : decode cX6_dialNumber 101 = .ok (.getfield 275, 3) := by decide +kernel
theorem dX6_dialNumber_104 : decode cX6_dialNumber 104 = .ok (.iload_n 1, 1) := by decide +kernel
theorem dX6_dialNumber_105 : decode cX6_dialNumber 105 = .ok (.iaload, 1) := by decide +kernel
theorem dX6_dialNumber_106 : decode cX6_dialNumber 106 = .ok (.ireturn, 1) := by decide +kernel
theorem dX6_dialNumber_107 : decode cX6_dialNumber 107 = .ok (.aload_n 0, 1) := by decide +kernel
theorem dX6_dialNumber_108 : decode cX6_dialNumber 108 = .ok (.getfield 10, 3) := by decide +kernel
theorem dX6_dialNumber_111 : decode cX6_dialNumber 111 = .ok (.getfield 55, 3) := by decide +kernel
theorem dX6_dialNumber_114 : decode cX6_dialNumber 114 = .ok (.iload_n 1, 1) := by decide +kernel
theorem dX6_dialNumber_115 : decode cX6_dialNumber 115 = .ok (.invokevirtual 211, 3) := by decide +kernel
theorem dX6_dialNumber_118 : decode cX6_dialNumber 118 = .ok (.ireturn, 1) := by decide +kernel
theorem dX6_dialNumber_119 : decode cX6_dialNumber 119 = .ok (.aload_n 0, 1) := by decide +kernel
theorem dX6_dialNumber_120 : decode cX6_dialNumber 120 = .ok (.getfield 10, 3) := by decide +kernel
theorem dX6_dialNumber_123 : decode cX6_dialNumber 123 = .ok (.iload_n 1, 1) := by decide +kernel
theorem dX6_dialNumber_124 : decode cX6_dialNumber 124 = .ok (.invokevirtual 278, 3) := by decide +kernel
theorem dX6_dialNumber_127 : decode cX6_dialNumber 127 = .ok (.ifCond .eq 7, 3) := by decide +kernel
theorem dX6_dialNumber_130 : decode cX6_dialNumber 130 = .ok (.iconst 1, 1) := by decide +kernel
theorem dX6_dialNumber_131 : decode cX6_dialNumber 131 = .ok (.goto 4, 3) := by decide +kernel
theorem dX6_dialNumber_134 : decode cX6_dialNumber 134 = .ok (.iconst 0, 1) := by decide +kernel
theorem dX6_dialNumber_135 : decode cX6_dialNumber 135 = .ok (.ireturn, 1) := by decide +kernel
theorem dX6_wardenNumber_0 : decode cX6_wardenNumber 0 = .ok (.iload_n 2, 1) := by decide +kernel
theorem dX6_wardenNumber_1 : decode cX6_wardenNumber 1 = .ok (.tableswitch 89 0 4 #[35, 48, 61, 70, 83], 35) := by decide +kernel
theorem dX6_wardenNumber_36 : decode cX6_wardenNumber 36 = .ok (.aload_n 0, 1) := by decide +kernel
theorem dX6_wardenNumber_37 : decode cX6_wardenNumber 37 = .ok (.getfield 10, 3) := by decide +kernel
theorem dX6_wardenNumber_40 : decode cX6_wardenNumber 40 = .ok (.getfield 65, 3) := by decide +kernel
theorem dX6_wardenNumber_43 : decode cX6_wardenNumber 43 = .ok (.getfield 117, 3) := by decide +kernel
theorem dX6_wardenNumber_46 : decode cX6_wardenNumber 46 = .ok (.iload_n 1, 1) := by decide +kernel
theorem dX6_wardenNumber_47 : decode cX6_wardenNumber 47 = .ok (.iaload, 1) := by decide +kernel
theorem dX6_wardenNumber_48 : decode cX6_wardenNumber 48 = .ok (.ireturn, 1) := by decide +kernel
theorem dX6_wardenNumber_49 : decode cX6_wardenNumber 49 = .ok (.aload_n 0, 1) := by decide +kernel
theorem dX6_wardenNumber_50 : decode cX6_wardenNumber 50 = .ok (.getfield 10, 3) := by decide +kernel
theorem dX6_wardenNumber_53 : decode cX6_wardenNumber 53 = .ok (.getfield 65, 3) := by decide +kernel
theorem dX6_wardenNumber_56 : decode cX6_wardenNumber 56 = .ok (.getfield 120, 3) := by decide +kernel
theorem dX6_wardenNumber_59 : decode cX6_wardenNumber 59 = .ok (.iload_n 1, 1) := by decide +kernel
theorem dX6_wardenNumber_60 : decode cX6_wardenNumber 60 = .ok (.iaload, 1) := by decide +kernel
theorem dX6_wardenNumber_61 : decode cX6_wardenNumber 61 = .ok (.ireturn, 1) := by decide +kernel
theorem dX6_wardenNumber_62 : decode cX6_wardenNumber 62 = .ok (.aload_n 0, 1) := by decide +kernel
theorem dX6_wardenNumber_63 : decode cX6_wardenNumber 63 = .ok (.getfield 10, 3) := by decide +kernel
theorem dX6_wardenNumber_66 : decode cX6_wardenNumber 66 = .ok (.iload_n 1, 1) := by decide +kernel
theorem dX6_wardenNumber_67 : decode cX6_wardenNumber 67 = .ok (.invokevirtual 196, 3) := by decide +kernel
theorem dX6_wardenNumber_70 : decode cX6_wardenNumber 70 = .ok (.ireturn, 1) := by decide +kernel
theorem dX6_wardenNumber_71 : decode cX6_wardenNumber 71 = .ok (.aload_n 0, 1) := by decide +kernel
theorem dX6_wardenNumber_72 : decode cX6_wardenNumber 72 = .ok (.getfield 10, 3) := by decide +kernel
theorem dX6_wardenNumber_75 : decode cX6_wardenNumber 75 = .ok (.getfield 65, 3) := by decide +kernel
theorem dX6_wardenNumber_78 : decode cX6_wardenNumber 78 = .ok (.getfield 281, 3) := by decide +kernel
theorem dX6_wardenNumber_81 : decode cX6_wardenNumber 81 = .ok (.iload_n 1, 1) := by decide +kernel
theorem dX6_wardenNumber_82 : decode cX6_wardenNumber 82 = .ok (.iaload, 1) := by decide +kernel
theorem dX6_wardenNumber_83 : decode cX6_wardenNumber 83 = .ok (.ireturn, 1) := by decide +kernel
theorem dX6_wardenNumber_84 : decode cX6_wardenNumber 84 = .ok (.aload_n 0, 1) := by decide +kernel
theorem dX6_wardenNumber_85 : decode cX6_wardenNumber 85 = .ok (.iload_n 1, 1) := by decide +kernel
theorem dX6_wardenNumber_86 : decode cX6_wardenNumber 86 = .ok (.invokevirtual 284, 3) := by decide +kernel
theorem dX6_wardenNumber_89 : decode cX6_wardenNumber 89 = .ok (.ireturn, 1) := by decide +kernel
theorem dX6_wardenNumber_90 : decode cX6_wardenNumber 90 = .ok (.aload_n 0, 1) := by decide +kernel
theorem dX6_wardenNumber_91 : decode cX6_wardenNumber 91 = .ok (.getfield 10, 3) := by decide +kernel
theorem dX6_wardenNumber_94 : decode cX6_wardenNumber 94 = .ok (.iload_n 1, 1) := by decide +kernel
theorem dX6_wardenNumber_95 : decode cX6_wardenNumber 95 = .ok (.invokevirtual 287, 3) := by decide +kernel
theorem dX6_wardenNumber_98 : decode cX6_wardenNumber 98 = .ok (.ifCond .eq 7, 3) := by decide +kernel
theorem dX6_wardenNumber_101 : decode cX6_wardenNumber 101 = .ok (.iconst 1, 1) := by decide +kernel
theorem dX6_wardenNumber_102 : decode cX6_wardenNumber 102 = .ok (.goto 4, 3) := by decide +kernel
theorem dX6_wardenNumber_105 : decode cX6_wardenNumber 105 = .ok (.iconst 0, 1) := by decide +kernel
theorem dX6_wardenNumber_106 : decode cX6_wardenNumber 106 = .ok (.aload_n 0, 1) := by decide +kernel
theorem dX6_wardenNumber_107 : decode cX6_wardenNumber 107 = .ok (.getfield 10, 3) := by decide +kernel
theorem dX6_wardenNumber_110 : decode cX6_wardenNumber 110 = .ok (.iload_n 1, 1) := by decide +kernel
theorem dX6_wardenNumber_111 : decode cX6_wardenNumber 111 = .ok (.invokestatic 290, 3) := by decide +kernel
theorem dX6_wardenNumber_114 : decode cX6_wardenNumber 114 = .ok (.invokevirtual 287, 3) := by decide +kernel
theorem dX6_wardenNumber_117 : decode cX6_wardenNumber 117 = .ok (.ifCond .eq 7, 3) := by decide +kernel
theorem dX6_wardenNumber_120 : decode cX6_wardenNumber 120 = .ok (.iconst 1, 1) := by decide +kernel
theorem dX6_wardenNumber_121 : decode cX6_wardenNumber 121 = .ok (.goto 4, 3) := by decide +kernel
theorem dX6_wardenNumber_124 : decode cX6_wardenNumber 124 = .ok (.iconst 0, 1) := by decide +kernel
theorem dX6_wardenNumber_125 : decode cX6_wardenNumber 125 = .ok (.iadd, 1) := by decide +kernel
theorem dX6_wardenNumber_126 : decode cX6_wardenNumber 126 = .ok (.ireturn, 1) := by decide +kernel
theorem dX6_townNumber_0 : decode cX6_townNumber 0 = .ok (.iload_n 1, 1) := by decide +kernel
theorem dX6_townNumber_1 : decode cX6_townNumber 1 = .ok (.tableswitch 87 0 5 #[39, 50, 58, 63, 68, 79], 39) := by decide +kernel
theorem dX6_townNumber_40 : decode cX6_townNumber 40 = .ok (.aload_n 0, 1) := by decide +kernel
theorem dX6_townNumber_41 : decode cX6_townNumber 41 = .ok (.getfield 10, 3) := by decide +kernel
theorem dX6_townNumber_44 : decode cX6_townNumber 44 = .ok (.getfield 55, 3) := by decide +kernel
theorem dX6_townNumber_47 : decode cX6_townNumber 47 = .ok (.getfield 293, 3) := by decide +kernel
theorem dX6_townNumber_50 : decode cX6_townNumber 50 = .ok (.ireturn, 1) := by decide +kernel
theorem dX6_townNumber_51 : decode cX6_townNumber 51 = .ok (.aload_n 0, 1) := by decide +kernel
theorem dX6_townNumber_52 : decode cX6_townNumber 52 = .ok (.getfield 10, 3) := by decide +kernel
theorem dX6_townNumber_55 : decode cX6_townNumber 55 = .ok (.getfield 83, 3) := by decide +kernel
theorem dX6_townNumber_58 : decode cX6_townNumber 58 = .ok (.ireturn, 1) := by decide +kernel
theorem dX6_townNumber_59 : decode cX6_townNumber 59 = .ok (.aload_n 0, 1) := by decide +kernel
theorem dX6_townNumber_60 : decode cX6_townNumber 60 = .ok (.invokevirtual 190, 3) := by decide +kernel
theorem dX6_townNumber_63 : decode cX6_townNumber 63 = .ok (.ireturn, 1) := by decide +kernel
theorem dX6_townNumber_64 : decode cX6_townNumber 64 = .ok (.aload_n 0, 1) := by decide +kernel
theorem dX6_townNumber_65 : decode cX6_townNumber 65 = .ok (.invokevirtual 296, 3) := by decide +kernel
theorem dX6_townNumber_68 : decode cX6_townNumber 68 = .ok (.ireturn, 1) := by decide +kernel
theorem dX6_townNumber_69 : decode cX6_townNumber 69 = .ok (.aload_n 0, 1) := by decide +kernel
theorem dX6_townNumber_70 : decode cX6_townNumber 70 = .ok (.getfield 10, 3) := by decide +kernel
theorem dX6_townNumber_73 : decode cX6_townNumber 73 = .ok (.getfield 65, 3) := by decide +kernel
theorem dX6_townNumber_76 : decode cX6_townNumber 76 = .ok (.invokevirtual 69, 3) := by decide +kernel
theorem dX6_townNumber_79 : decode cX6_townNumber 79 = .ok (.ireturn, 1) := by decide +kernel
theorem dX6_townNumber_80 : decode cX6_townNumber 80 = .ok (.aload_n 0, 1) := by decide +kernel
theorem dX6_townNumber_81 : decode cX6_townNumber 81 = .ok (.getfield 10, 3) := by decide +kernel
theorem dX6_townNumber_84 : decode cX6_townNumber 84 = .ok (.invokevirtual 299, 3) := by decide +kernel
theorem dX6_townNumber_87 : decode cX6_townNumber 87 = .ok (.ireturn, 1) := by decide +kernel
theorem dX6_townNumber_88 : decode cX6_townNumber 88 = .ok (.aload_n 0, 1) := by decide +kernel
theorem dX6_townNumber_89 : decode cX6_townNumber 89 = .ok (.getfield 10, 3) := by decide +kernel
theorem dX6_townNumber_92 : decode cX6_townNumber 92 = .ok (.getfield 205, 3) := by decide +kernel
theorem dX6_townNumber_95 : decode cX6_townNumber 95 = .ok (.ireturn, 1) := by decide +kernel
theorem dX6_sumNumber_0 : decode cX6_sumNumber 0 = .ok (.iload_n 1, 1) := by decide +kernel
theorem dX6_sumNumber_1 : decode cX6_sumNumber 1 = .ok (.tableswitch 118 7 12 #[39, 47, 61, 75, 89, 97], 39) := by decide +kernel
theorem dX6_sumNumber_40 : decode cX6_sumNumber 40 = .ok (.aload_n 0, 1) := by decide +kernel
theorem dX6_sumNumber_41 : decode cX6_sumNumber 41 = .ok (.getfield 10, 3) := by decide +kernel
theorem dX6_sumNumber_44 : decode cX6_sumNumber 44 = .ok (.getfield 208, 3) := by decide +kernel
theorem dX6_sumNumber_47 : decode cX6_sumNumber 47 = .ok (.ireturn, 1) := by decide +kernel
theorem dX6_sumNumber_48 : decode cX6_sumNumber 48 = .ok (.aload_n 0, 1) := by decide +kernel
theorem dX6_sumNumber_49 : decode cX6_sumNumber 49 = .ok (.getfield 10, 3) := by decide +kernel
theorem dX6_sumNumber_52 : decode cX6_sumNumber 52 = .ok (.getfield 55, 3) := by decide +kernel
theorem dX6_sumNumber_55 : decode cX6_sumNumber 55 = .ok (.getfield 275, 3) := by decide +kernel
theorem dX6_sumNumber_58 : decode cX6_sumNumber 58 = .ok (.invokestatic 302, 3) := by decide +kernel
theorem dX6_sumNumber_61 : decode cX6_sumNumber 61 = .ok (.ireturn, 1) := by decide +kernel
theorem dX6_sumNumber_62 : decode cX6_sumNumber 62 = .ok (.aload_n 0, 1) := by decide +kernel
theorem dX6_sumNumber_63 : decode cX6_sumNumber 63 = .ok (.getfield 10, 3) := by decide +kernel
theorem dX6_sumNumber_66 : decode cX6_sumNumber 66 = .ok (.getfield 55, 3) := by decide +kernel
theorem dX6_sumNumber_69 : decode cX6_sumNumber 69 = .ok (.getfield 306, 3) := by decide +kernel
theorem dX6_sumNumber_72 : decode cX6_sumNumber 72 = .ok (.invokestatic 302, 3) := by decide +kernel
theorem dX6_sumNumber_75 : decode cX6_sumNumber 75 = .ok (.ireturn, 1) := by decide +kernel
theorem dX6_sumNumber_76 : decode cX6_sumNumber 76 = .ok (.aload_n 0, 1) := by decide +kernel
theorem dX6_sumNumber_77 : decode cX6_sumNumber 77 = .ok (.getfield 10, 3) := by decide +kernel
theorem dX6_sumNumber_80 : decode cX6_sumNumber 80 = .ok (.getfield 55, 3) := by decide +kernel
theorem dX6_sumNumber_83 : decode cX6_sumNumber 83 = .ok (.getfield 309, 3) := by decide +kernel
theorem dX6_sumNumber_86 : decode cX6_sumNumber 86 = .ok (.invokestatic 302, 3) := by decide +kernel
theorem dX6_sumNumber_89 : decode cX6_sumNumber 89 = .ok (.ireturn, 1) := by decide +kernel
theorem dX6_sumNumber_90 : decode cX6_sumNumber 90 = .ok (.aload_n 0, 1) := by decide +kernel
theorem dX6_sumNumber_91 : decode cX6_sumNumber 91 = .ok (.getfield 10, 3) := by decide +kernel
theorem dX6_sumNumber_94 : decode cX6_sumNumber 94 = .ok (.invokevirtual 312, 3) := by decide +kernel
theorem dX6_sumNumber_97 : decode cX6_sumNumber 97 = .ok (.ireturn, 1) := by decide +kernel
theorem dX6_sumNumber_98 : decode cX6_sumNumber 98 = .ok (.aload_n 0, 1) := by decide +kernel
theorem dX6_sumNumber_99 : decode cX6_sumNumber 99 = .ok (.getfield 10, 3) := by decide +kernel
theorem dX6_sumNumber_102 : decode cX6_sumNumber 102 = .ok (.getfield 83, 3) := by decide +kernel
theorem dX6_sumNumber_105 : decode cX6_sumNumber 105 = .ok (.aload_n 0, 1) := by decide +kernel
theorem dX6_sumNumber_106 : decode cX6_sumNumber 106 = .ok (.getfield 10, 3) := by decide +kernel
theorem dX6_sumNumber_109 : decode cX6_sumNumber 109 = .ok (.getfield 55, 3) := by decide +kernel
theorem dX6_sumNumber_112 : decode cX6_sumNumber 112 = .ok (.getfield 293, 3) := by decide +kernel
theorem dX6_sumNumber_115 : decode cX6_sumNumber 115 = .ok (.invokestatic 193, 3) := by decide +kernel
theorem dX6_sumNumber_118 : decode cX6_sumNumber 118 = .ok (.ireturn, 1) := by decide +kernel
theorem dX6_sumNumber_119 : decode cX6_sumNumber 119 = .ok (.aload_n 0, 1) := by decide +kernel
theorem dX6_sumNumber_120 : decode cX6_sumNumber 120 = .ok (.getfield 26, 3) := by decide +kernel
theorem dX6_sumNumber_123 : decode cX6_sumNumber 123 = .ok (.getfield 165, 3) := by decide +kernel
theorem dX6_sumNumber_126 : decode cX6_sumNumber 126 = .ok (.ireturn, 1) := by decide +kernel
theorem dX6_placeOf_0 : decode cX6_placeOf 0 = .ok (.aload_n 0, 1) := by decide +kernel
theorem dX6_placeOf_1 : decode cX6_placeOf 1 = .ok (.getfield 40, 3) := by decide +kernel
theorem dX6_placeOf_4 : decode cX6_placeOf 4 = .ok (.aload_n 0, 1) := by decide +kernel
theorem dX6_placeOf_5 : decode cX6_placeOf 5 = .ok (.getfield 10, 3) := by decide +kernel
theorem dX6_placeOf_8 : decode cX6_placeOf 8 = .ok (.invokevirtual 315, 3) := by decide +kernel
theorem dX6_placeOf_11 : decode cX6_placeOf 11 = .ok (.aload_n 0, 1) := by decide +kernel
theorem dX6_placeOf_12 : decode cX6_placeOf 12 = .ok (.getfield 40, 3) := by decide +kernel
theorem dX6_placeOf_15 : decode cX6_placeOf 15 = .ok (.iload_n 1, 1) := by decide +kernel
theorem dX6_placeOf_16 : decode cX6_placeOf 16 = .ok (.invokevirtual 318, 3) := by decide +kernel
theorem dX6_placeOf_19 : decode cX6_placeOf 19 = .ok (.ireturn, 1) := by decide +kernel
theorem dX6_middleNow_0 : decode cX6_middleNow 0 = .ok (.aload_n 0, 1) := by decide +kernel
theorem dX6_middleNow_1 : decode cX6_middleNow 1 = .ok (.getfield 40, 3) := by decide +kernel
theorem dX6_middleNow_4 : decode cX6_middleNow 4 = .ok (.aload_n 0, 1) := by decide +kernel
theorem dX6_middleNow_5 : decode cX6_middleNow 5 = .ok (.getfield 10, 3) := by decide +kernel
theorem dX6_middleNow_8 : decode cX6_middleNow 8 = .ok (.invokevirtual 315, 3) := by decide +kernel
theorem dX6_middleNow_11 : decode cX6_middleNow 11 = .ok (.aload_n 0, 1) := by decide +kernel
theorem dX6_middleNow_12 : decode cX6_middleNow 12 = .ok (.getfield 40, 3) := by decide +kernel
theorem dX6_middleNow_15 : decode cX6_middleNow 15 = .ok (.invokevirtual 319, 3) := by decide +kernel
theorem dX6_middleNow_18 : decode cX6_middleNow 18 = .ok (.ireturn, 1) := by decide +kernel
theorem dX6_middleNowByAdding_0 : decode cX6_middleNowByAdding 0 = .ok (.aload_n 0, 1) := by decide +kernel
theorem dX6_middleNowByAdding_1 : decode cX6_middleNowByAdding 1 = .ok (.getfield 40, 3) := by decide +kernel
theorem dX6_middleNowByAdding_4 : decode cX6_middleNowByAdding 4 = .ok (.aload_n 0, 1) := by decide +kernel
theorem dX6_middleNowByAdding_5 : decode cX6_middleNowByAdding 5 = .ok (.getfield 10, 3) := by decide +kernel
theorem dX6_middleNowByAdding_8 : decode cX6_middleNowByAdding 8 = .ok (.invokevirtual 315, 3) := by decide +kernel
theorem dX6_middleNowByAdding_11 : decode cX6_middleNowByAdding 11 = .ok (.aload_n 0, 1) := by decide +kernel
theorem dX6_middleNowByAdding_12 : decode cX6_middleNowByAdding 12 = .ok (.getfield 40, 3) := by decide +kernel
theorem dX6_middleNowByAdding_15 : decode cX6_middleNowByAdding 15 = .ok (.invokevirtual 322, 3) := by decide +kernel
theorem dX6_middleNowByAdding_18 : decode cX6_middleNowByAdding 18 = .ok (.ireturn, 1) := by decide +kernel
theorem dX6_middleIf_0 : decode cX6_middleIf 0 = .ok (.aload_n 0, 1) := by decide +kernel
theorem dX6_middleIf_1 : decode cX6_middleIf 1 = .ok (.getfield 40, 3) := by decide +kernel
theorem dX6_middleIf_4 : decode cX6_middleIf 4 = .ok (.aload_n 0, 1) := by decide +kernel
theorem dX6_middleIf_5 : decode cX6_middleIf 5 = .ok (.getfield 10, 3) := by decide +kernel
theorem dX6_middleIf_8 : decode cX6_middleIf 8 = .ok (.invokevirtual 315, 3) := by decide +kernel
theorem dX6_middleIf_11 : decode cX6_middleIf 11 = .ok (.aload_n 0, 1) := by decide +kernel
theorem dX6_middleIf_12 : decode cX6_middleIf 12 = .ok (.getfield 40, 3) := by decide +kernel
theorem dX6_middleIf_15 : decode cX6_middleIf 15 = .ok (.getfield 325, 3) := by decide +kernel
theorem dX6_middleIf_18 : decode cX6_middleIf 18 = .ok (.iload_n 1, 1) := by decide +kernel
theorem dX6_middleIf_19 : decode cX6_middleIf 19 = .ok (.iload_n 2, 1) := by decide +kernel
theorem dX6_middleIf_20 : decode cX6_middleIf 20 = .ok (.iastore, 1) := by decide +kernel
theorem dX6_middleIf_21 : decode cX6_middleIf 21 = .ok (.aload_n 0, 1) := by decide +kernel
theorem dX6_middleIf_22 : decode cX6_middleIf 22 = .ok (.getfield 40, 3) := by decide +kernel
theorem dX6_middleIf_25 : decode cX6_middleIf 25 = .ok (.invokevirtual 319, 3) := by decide +kernel
theorem dX6_middleIf_28 : decode cX6_middleIf 28 = .ok (.ireturn, 1) := by decide +kernel
theorem dX6_holdVote_0 : decode cX6_holdVote 0 = .ok (.aload_n 0, 1) := by decide +kernel
theorem dX6_holdVote_1 : decode cX6_holdVote 1 = .ok (.getfield 10, 3) := by decide +kernel
theorem dX6_holdVote_4 : decode cX6_holdVote 4 = .ok (.aload_n 0, 1) := by decide +kernel
theorem dX6_holdVote_5 : decode cX6_holdVote 5 = .ok (.invokevirtual 190, 3) := by decide +kernel
theorem dX6_holdVote_8 : decode cX6_holdVote 8 = .ok (.invokevirtual 326, 3) := by decide +kernel
theorem dX6_holdVote_11 : decode cX6_holdVote 11 = .ok (.aload_n 0, 1) := by decide +kernel
theorem dX6_holdVote_12 : decode cX6_holdVote 12 = .ok (.getfield 10, 3) := by decide +kernel
theorem dX6_holdVote_15 : decode cX6_holdVote 15 = .ok (.aload_n 0, 1) := by decide +kernel
theorem dX6_holdVote_16 : decode cX6_holdVote 16 = .ok (.getfield 40, 3) := by decide +kernel
theorem dX6_holdVote_19 : decode cX6_holdVote 19 = .ok (.getfield 329, 3) := by decide +kernel
theorem dX6_holdVote_22 : decode cX6_holdVote 22 = .ok (.invokevirtual 332, 3) := by decide +kernel
theorem dX6_holdVote_25 : decode cX6_holdVote 25 = .ok (.return_, 1) := by decide +kernel
theorem dL_cell_0 : decode cL_cell 0 = .ok (.iload_n 1, 1) := by decide +kernel
theorem dL_cell_1 : decode cL_cell 1 = .ok (.aload_n 0, 1) := by decide +kernel
theorem dL_cell_2 : decode cL_cell 2 = .ok (.arraylength, 1) := by decide +kernel
theorem dL_cell_3 : decode cL_cell 3 = .ok (.if_icmp .ge 9, 3) := by decide +kernel
theorem dL_cell_6 : decode cL_cell 6 = .ok (.aload_n 0, 1) := by decide +kernel
theorem dL_cell_7 : decode cL_cell 7 = .ok (.iload_n 1, 1) := by decide +kernel
theorem dL_cell_8 : decode cL_cell 8 = .ok (.iaload, 1) := by decide +kernel
theorem dL_cell_9 : decode cL_cell 9 = .ok (.goto 15, 3) := by decide +kernel
theorem dL_cell_12 : decode cL_cell 12 = .ok (.sipush 7919, 3) := by decide +kernel
theorem dL_cell_15 : decode cL_cell 15 = .ok (.iload_n 1, 1) := by decide +kernel
theorem dL_cell_16 : decode cL_cell 16 = .ok (.iconst 3, 1) := by decide +kernel
theorem dL_cell_17 : decode cL_cell 17 = .ok (.iadd, 1) := by decide +kernel
theorem dL_cell_18 : decode cL_cell 18 = .ok (.imul, 1) := by decide +kernel
theorem dL_cell_19 : decode cL_cell 19 = .ok (.iload_n 1, 1) := by decide +kernel
theorem dL_cell_20 : decode cL_cell 20 = .ok (.bipush 11, 2) := by decide +kernel
theorem dL_cell_22 : decode cL_cell 22 = .ok (.iadd, 1) := by decide +kernel
theorem dL_cell_23 : decode cL_cell 23 = .ok (.imul, 1) := by decide +kernel
theorem dL_cell_24 : decode cL_cell 24 = .ok (.ireturn, 1) := by decide +kernel
theorem dL_low_0 : decode cL_low 0 = .ok (.iload_n 0, 1) := by decide +kernel
theorem dL_low_1 : decode cL_low 1 = .ok (.ldc 7, 2) := by decide +kernel
theorem dL_low_3 : decode cL_low 3 = .ok (.iand, 1) := by decide +kernel
theorem dL_low_4 : decode cL_low 4 = .ok (.iload_n 1, 1) := by decide +kernel
theorem dL_low_5 : decode cL_low 5 = .ok (.irem, 1) := by decide +kernel
theorem dL_low_6 : decode cL_low 6 = .ok (.ireturn, 1) := by decide +kernel
theorem dL_does_0 : decode cL_does 0 = .ok (.iload_n 1, 1) := by decide +kernel
theorem dL_does_1 : decode cL_does 1 = .ok (.iconst 4, 1) := by decide +kernel
theorem dL_does_2 : decode cL_does 2 = .ok (.ishr, 1) := by decide +kernel
theorem dL_does_3 : decode cL_does 3 = .ok (.bipush 7, 2) := by decide +kernel
theorem dL_does_5 : decode cL_does 5 = .ok (.invokestatic 8, 3) := by decide +kernel
theorem dL_does_8 : decode cL_does 8 = .ok (.istore_n 2, 1) := by decide +kernel
theorem dL_does_9 : decode cL_does 9 = .ok (.iload_n 1, 1) := by decide +kernel
theorem dL_does_10 : decode cL_does 10 = .ok (.bipush 15, 2) := by decide +kernel
theorem dL_does_12 : decode cL_does 12 = .ok (.iand, 1) := by decide +kernel
theorem dL_does_13 : decode cL_does 13 = .ok (.tableswitch 253 0 13 #[71, 71, 71, 100, 100, 100, 117, 122, 162, 162, 189, 189, 216, 248], 71) := by decide +kernel
theorem dL_does_84 : decode cL_does 84 = .ok (.aload_n 0, 1) := by decide +kernel
theorem dL_does_85 : decode cL_does 85 = .ok (.iconst 1, 1) := by decide +kernel
theorem dL_does_86 : decode cL_does 86 = .ok (.iload_n 1, 1) := by decide +kernel
theorem dL_does_87 : decode cL_does 87 = .ok (.bipush 7, 2) := by decide +kernel
theorem dL_does_89 : decode cL_does 89 = .ok (.ishr, 1) := by decide +kernel
theorem dL_does_90 : decode cL_does 90 = .ok (.iload_n 1, 1) := by decide +kernel
theorem dL_does_91 : decode cL_does 91 = .ok (.iconst 4, 1) := by decide +kernel
theorem dL_does_92 : decode cL_does 92 = .ok (.ishr, 1) := by decide +kernel
theorem dL_does_93 : decode cL_does 93 = .ok (.iconst 1, 1) := by decide +kernel
theorem dL_does_94 : decode cL_does 94 = .ok (.iand, 1) := by decide +kernel
theorem dL_does_95 : decode cL_does 95 = .ok (.ifCond .ne 8, 3) := by decide +kernel
theorem dL_does_98 : decode cL_does 98 = .ok (.bipush 6, 2) := by decide +kernel
theorem dL_does_100 : decode cL_does 100 = .ok (.goto 5, 3) := by decide +kernel
theorem dL_does_103 : decode cL_does 103 = .ok (.bipush 40, 2) := by decide +kernel
theorem dL_does_105 : decode cL_does 105 = .ok (.invokestatic 8, 3) := by decide +kernel
theorem dL_does_108 : decode cL_does 108 = .ok (.iadd, 1) := by decide +kernel
theorem dL_does_109 : decode cL_does 109 = .ok (.invokevirtual 14, 3) := by decide +kernel
theorem dL_does_112 : decode cL_does 112 = .ok (.ireturn, 1) := by decide +kernel
theorem dL_does_113 : decode cL_does 113 = .ok (.aload_n 0, 1) := by decide +kernel
theorem dL_does_114 : decode cL_does 114 = .ok (.iconst 4, 1) := by decide +kernel
theorem dL_does_115 : decode cL_does 115 = .ok (.invokevirtual 20, 3) := by decide +kernel
theorem dL_does_118 : decode cL_does 118 = .ok (.ifCond .ne 7, 3) := by decide +kernel
theorem dL_does_121 : decode cL_does 121 = .ok (.iconst 0, 1) := by decide +kernel
theorem dL_does_122 : decode cL_does 122 = .ok (.goto 7, 3) := by decide +kernel
theorem dL_does_125 : decode cL_does 125 = .ok (.aload_n 0, 1) := by decide +kernel
theorem dL_does_126 : decode cL_does 126 = .ok (.invokevirtual 23, 3) := by decide +kernel
theorem dL_does_129 : decode cL_does 129 = .ok (.ireturn, 1) := by decide +kernel
theorem dL_does_130 : decode cL_does 130 = .ok (.aload_n 0, 1) := by decide +kernel
theorem dL_does_131 : decode cL_does 131 = .ok (.invokevirtual 27, 3) := by decide +kernel
theorem dL_does_134 : decode cL_does 134 = .ok (.ireturn, 1) := by decide +kernel
theorem dL_does_135 : decode cL_does 135 = .ok (.aload_n 0, 1) := by decide +kernel
theorem dL_does_136 : decode cL_does 136 = .ok (.iload_n 2, 1) := by decide +kernel
theorem dL_does_137 : decode cL_does 137 = .ok (.iload_n 1, 1) := by decide +kernel
theorem dL_does_138 : decode cL_does 138 = .ok (.bipush 12, 2) := by decide +kernel
theorem dL_does_140 : decode cL_does 140 = .ok (.ishr, 1) := by decide +kernel
theorem dL_does_141 : decode cL_does 141 = .ok (.iconst 3, 1) := by decide +kernel
theorem dL_does_142 : decode cL_does 142 = .ok (.iand, 1) := by decide +kernel
theorem dL_does_143 : decode cL_does 143 = .ok (.ifCond .ne 18, 3) := by decide +kernel
theorem dL_does_146 : decode cL_does 146 = .ok (.ldc 30, 2) := by decide +kernel
theorem dL_does_148 : decode cL_does 148 = .ok (.iload_n 1, 1) := by decide +kernel
theorem dL_does_149 : decode cL_does 149 = .ok (.bipush 7, 2) := by decide +kernel
theorem dL_does_151 : decode cL_does 151 = .ok (.ishr, 1) := by decide +kernel
theorem dL_does_152 : decode cL_does 152 = .ok (.bipush 90, 2) := by decide +kernel
theorem dL_does_154 : decode cL_does 154 = .ok (.invokestatic 8, 3) := by decide +kernel
theorem dL_does_157 : decode cL_does 157 = .ok (.isub, 1) := by decide +kernel
theorem dL_does_158 : decode cL_does 158 = .ok (.goto 13, 3) := by decide +kernel
theorem dL_does_161 : decode cL_does 161 = .ok (.iload_n 1, 1) := by decide +kernel
theorem dL_does_162 : decode cL_does 162 = .ok (.bipush 7, 2) := by decide +kernel
theorem dL_does_164 : decode cL_does 164 = .ok (.ishr, 1) := by decide +kernel
theorem dL_does_165 : decode cL_does 165 = .ok (.sipush 400, 3) := by decide +kernel
theorem dL_does_168 : decode cL_does 168 = .ok (.invokestatic 8, 3) := by decide +kernel
theorem dL_does_171 : decode cL_does 171 = .ok (.invokevirtual 31, 3) := by decide +kernel
theorem dL_does_174 : decode cL_does 174 = .ok (.ireturn, 1) := by decide +kernel
theorem dL_does_175 : decode cL_does 175 = .ok (.aload_n 0, 1) := by decide +kernel
theorem dL_does_176 : decode cL_does 176 = .ok (.iload_n 2, 1) := by decide +kernel
theorem dL_does_177 : decode cL_does 177 = .ok (.iload_n 1, 1) := by decide +kernel
theorem dL_does_178 : decode cL_does 178 = .ok (.bipush 7, 2) := by decide +kernel
theorem dL_does_180 : decode cL_does 180 = .ok (.ishr, 1) := by decide +kernel
theorem dL_does_181 : decode cL_does 181 = .ok (.bipush 11, 2) := by decide +kernel
theorem dL_does_183 : decode cL_does 183 = .ok (.invokestatic 8, 3) := by decide +kernel
theorem dL_does_186 : decode cL_does 186 = .ok (.iconst 5, 1) := by decide +kernel
theorem dL_does_187 : decode cL_does 187 = .ok (.isub, 1) := by decide +kernel
theorem dL_does_188 : decode cL_does 188 = .ok (.invokevirtual 34, 3) := by decide +kernel
theorem dL_does_191 : decode cL_does 191 = .ok (.bipush (-5), 2) := by decide +kernel
theorem dL_does_193 : decode cL_does 193 = .ok (.if_icmp .ge 7, 3) := by decide +kernel
theorem dL_does_196 : decode cL_does 196 = .ok (.iconst (-1), 1) := by decide +kernel
theorem dL_does_197 : decode cL_does 197 = .ok (.goto 4, 3) := by decide +kernel
theorem dL_does_200 : decode cL_does 200 = .ok (.iconst 0, 1) := by decide +kernel
theorem dL_does_201 : decode cL_does 201 = .ok (.ireturn, 1) := by decide +kernel
theorem dL_does_202 : decode cL_does 202 = .ok (.aload_n 0, 1) := by decide +kernel
theorem dL_does_203 : decode cL_does 203 = .ok (.iload_n 2, 1) := by decide +kernel
theorem dL_does_204 : decode cL_does 204 = .ok (.iload_n 1, 1) := by decide +kernel
theorem dL_does_205 : decode cL_does 205 = .ok (.bipush 7, 2) := by decide +kernel
theorem dL_does_207 : decode cL_does 207 = .ok (.ishr, 1) := by decide +kernel
theorem dL_does_208 : decode cL_does 208 = .ok (.bipush 10, 2) := by decide +kernel
theorem dL_does_210 : decode cL_does 210 = .ok (.invokestatic 8, 3) := by decide +kernel
theorem dL_does_213 : decode cL_does 213 = .ok (.iload_n 1, 1) := by decide +kernel
theorem dL_does_214 : decode cL_does 214 = .ok (.bipush 8, 2) := by decide +kernel
theorem dL_does_216 : decode cL_does 216 = .ok (.ishr, 1) := by decide +kernel
theorem dL_does_217 : decode cL_does 217 = .ok (.bipush 121, 2) := by decide +kernel
theorem dL_does_219 : decode cL_does 219 = .ok (.invokestatic 8, 3) := by decide +kernel
theorem dL_does_222 : decode cL_does 222 = .ok (.bipush 60, 2) := by decide +kernel
theorem dL_does_224 : decode cL_does 224 = .ok (.isub, 1) := by decide +kernel
theorem dL_does_225 : decode cL_does 225 = .ok (.invokevirtual 37, 3) := by decide +kernel
theorem dL_does_228 : decode cL_does 228 = .ok (.ireturn, 1) := by decide +kernel
theorem dL_does_229 : decode cL_does 229 = .ok (.aload_n 0, 1) := by decide +kernel
theorem dL_does_230 : decode cL_does 230 = .ok (.iload_n 1, 1) := by decide +kernel
theorem dL_does_231 : decode cL_does 231 = .ok (.iconst 4, 1) := by decide +kernel
theorem dL_does_232 : decode cL_does 232 = .ok (.ishr, 1) := by decide +kernel
theorem dL_does_233 : decode cL_does 233 = .ok (.iconst 1, 1) := by decide +kernel
theorem dL_does_234 : decode cL_does 234 = .ok (.iand, 1) := by decide +kernel
theorem dL_does_235 : decode cL_does 235 = .ok (.iload_n 1, 1) := by decide +kernel
theorem dL_does_236 : decode cL_does 236 = .ok (.iconst 5, 1) := by decide +kernel
theorem dL_does_237 : decode cL_does 237 = .ok (.ishr, 1) := by decide +kernel
theorem dL_does_238 : decode cL_does 238 = .ok (.iload_n 1, 1) := by decide +kernel
theorem dL_does_239 : decode cL_does 239 = .ok (.bipush 10, 2) := by decide +kernel
theorem dL_does_241 : decode cL_does 241 = .ok (.ishr, 1) := by decide +kernel
theorem dL_does_242 : decode cL_does 242 = .ok (.iconst 1, 1) := by decide +kernel
theorem dL_does_243 : decode cL_does 243 = .ok (.iand, 1) := by decide +kernel
theorem dL_does_244 : decode cL_does 244 = .ok (.ifCond .ne 8, 3) := by decide +kernel
theorem dL_does_247 : decode cL_does 247 = .ok (.bipush 12, 2) := by decide +kernel
theorem dL_does_249 : decode cL_does 249 = .ok (.goto 5, 3) := by decide +kernel
theorem dL_does_252 : decode cL_does 252 = .ok (.bipush 100, 2) := by decide +kernel
theorem dL_does_254 : decode cL_does 254 = .ok (.invokestatic 8, 3) := by decide +kernel
theorem dL_does_257 : decode cL_does 257 = .ok (.invokevirtual 41, 3) := by decide +kernel
theorem dL_does_260 : decode cL_does 260 = .ok (.ireturn, 1) := by decide +kernel
theorem dL_does_261 : decode cL_does 261 = .ok (.aload_n 0, 1) := by decide +kernel
theorem dL_does_262 : decode cL_does 262 = .ok (.invokevirtual 44, 3) := by decide +kernel
theorem dL_does_265 : decode cL_does 265 = .ok (.ireturn, 1) := by decide +kernel
theorem dL_does_266 : decode cL_does 266 = .ok (.aload_n 0, 1) := by decide +kernel
theorem dL_does_267 : decode cL_does 267 = .ok (.bipush 13, 2) := by decide +kernel
theorem dL_does_269 : decode cL_does 269 = .ok (.invokevirtual 20, 3) := by decide +kernel
theorem dL_does_272 : decode cL_does 272 = .ok (.ifCond .ne 7, 3) := by decide +kernel
theorem dL_does_275 : decode cL_does 275 = .ok (.iconst 0, 1) := by decide +kernel
theorem dL_does_276 : decode cL_does 276 = .ok (.goto 7, 3) := by decide +kernel
theorem dL_does_279 : decode cL_does 279 = .ok (.aload_n 0, 1) := by decide +kernel
theorem dL_does_280 : decode cL_does 280 = .ok (.invokevirtual 47, 3) := by decide +kernel
theorem dL_does_283 : decode cL_does 283 = .ok (.ireturn, 1) := by decide +kernel
theorem dL_size_0 : decode cL_size 0 = .ok (.iload_n 0, 1) := by decide +kernel
theorem dL_size_1 : decode cL_size 1 = .ok (.ifCond .ge 8, 3) := by decide +kernel
theorem dL_size_4 : decode cL_size 4 = .ok (.iload_n 0, 1) := by decide +kernel
theorem dL_size_5 : decode cL_size 5 = .ok (.ineg, 1) := by decide +kernel
theorem dL_size_6 : decode cL_size 6 = .ok (.goto 4, 3) := by decide +kernel
theorem dL_size_9 : decode cL_size 9 = .ok (.iload_n 0, 1) := by decide +kernel
theorem dL_size_10 : decode cL_size 10 = .ok (.ireturn, 1) := by decide +kernel
theorem dL_areDialsSo_0 : decode cL_areDialsSo 0 = .ok (.iconst 0, 1) := by decide +kernel
theorem dL_areDialsSo_1 : decode cL_areDialsSo 1 = .ok (.istore_n 1, 1) := by decide +kernel
theorem dL_areDialsSo_2 : decode cL_areDialsSo 2 = .ok (.iconst 0, 1) := by decide +kernel
theorem dL_areDialsSo_3 : decode cL_areDialsSo 3 = .ok (.istore_n 2, 1) := by decide +kernel
theorem dL_areDialsSo_4 : decode cL_areDialsSo 4 = .ok (.iconst 0, 1) := by decide +kernel
theorem dL_areDialsSo_5 : decode cL_areDialsSo 5 = .ok (.istore_n 3, 1) := by decide +kernel
theorem dL_areDialsSo_6 : decode cL_areDialsSo 6 = .ok (.iconst 0, 1) := by decide +kernel
theorem dL_areDialsSo_7 : decode cL_areDialsSo 7 = .ok (.istore 4, 2) := by decide +kernel
theorem dL_areDialsSo_9 : decode cL_areDialsSo 9 = .ok (.iconst 0, 1) := by decide +kernel
theorem dL_areDialsSo_10 : decode cL_areDialsSo 10 = .ok (.istore 5, 2) := by decide +kernel
theorem dL_areDialsSo_12 : decode cL_areDialsSo 12 = .ok (.iconst 1, 1) := by decide +kernel
theorem dL_areDialsSo_13 : decode cL_areDialsSo 13 = .ok (.istore 6, 2) := by decide +kernel
theorem dL_areDialsSo_15 : decode cL_areDialsSo 15 = .ok (.iconst 0, 1) := by decide +kernel
theorem dL_areDialsSo_16 : decode cL_areDialsSo 16 = .ok (.istore 7, 2) := by decide +kernel
theorem dL_areDialsSo_18 : decode cL_areDialsSo 18 = .ok (.iload 7, 2) := by decide +kernel
theorem dL_areDialsSo_20 : decode cL_areDialsSo 20 = .ok (.bipush 7, 2) := by decide +kernel
theorem dL_areDialsSo_22 : decode cL_areDialsSo 22 = .ok (.if_icmp .ge 397, 3) := by decide +kernel
theorem dL_areDialsSo_25 : decode cL_areDialsSo 25 = .ok (.aload_n 0, 1) := by decide +kernel
theorem dL_areDialsSo_26 : decode cL_areDialsSo 26 = .ok (.iload 7, 2) := by decide +kernel
theorem dL_areDialsSo_28 : decode cL_areDialsSo 28 = .ok (.iconst 0, 1) := by decide +kernel
theorem dL_areDialsSo_29 : decode cL_areDialsSo 29 = .ok (.invokevirtual 50, 3) := by decide +kernel
theorem dL_areDialsSo_32 : decode cL_areDialsSo 32 = .ok (.istore 8, 2) := by decide +kernel
theorem dL_areDialsSo_34 : decode cL_areDialsSo 34 = .ok (.iload 8, 2) := by decide +kernel
theorem dL_areDialsSo_36 : decode cL_areDialsSo 36 = .ok (.aload_n 0, 1) := by decide +kernel
theorem dL_areDialsSo_37 : decode cL_areDialsSo 37 = .ok (.iconst 1, 1) := by decide +kernel
theorem dL_areDialsSo_38 : decode cL_areDialsSo 38 = .ok (.invokevirtual 20, 3) := by decide +kernel
theorem dL_areDialsSo_41 : decode cL_areDialsSo 41 = .ok (.isub, 1) := by decide +kernel
theorem dL_areDialsSo_42 : decode cL_areDialsSo 42 = .ok (.invokestatic 53, 3) := by decide +kernel
theorem dL_areDialsSo_45 : decode cL_areDialsSo 45 = .ok (.aload_n 0, 1) := by decide +kernel
theorem dL_areDialsSo_46 : decode cL_areDialsSo 46 = .ok (.iconst 1, 1) := by decide +kernel
theorem dL_areDialsSo_47 : decode cL_areDialsSo 47 = .ok (.invokevirtual 56, 3) := by decide +kernel
theorem dL_areDialsSo_50 : decode cL_areDialsSo 50 = .ok (.if_icmp .le 7, 3) := by decide +kernel
theorem dL_areDialsSo_53 : decode cL_areDialsSo 53 = .ok (.iconst 1, 1) := by decide +kernel
theorem dL_areDialsSo_54 : decode cL_areDialsSo 54 = .ok (.goto 4, 3) := by decide +kernel
theorem dL_areDialsSo_57 : decode cL_areDialsSo 57 = .ok (.iconst 0, 1) := by decide +kernel
theorem dL_areDialsSo_58 : decode cL_areDialsSo 58 = .ok (.istore 9, 2) := by decide +kernel
theorem dL_areDialsSo_60 : decode cL_areDialsSo 60 = .ok (.iload 8, 2) := by decide +kernel
theorem dL_areDialsSo_62 : decode cL_areDialsSo 62 = .ok (.aload_n 0, 1) := by decide +kernel
theorem dL_areDialsSo_63 : decode cL_areDialsSo 63 = .ok (.iload 7, 2) := by decide +kernel
theorem dL_areDialsSo_65 : decode cL_areDialsSo 65 = .ok (.iconst 1, 1) := by decide +kernel
theorem dL_areDialsSo_66 : decode cL_areDialsSo 66 = .ok (.invokevirtual 59, 3) := by decide +kernel
theorem dL_areDialsSo_69 : decode cL_areDialsSo 69 = .ok (.iadd, 1) := by decide +kernel
theorem dL_areDialsSo_70 : decode cL_areDialsSo 70 = .ok (.istore 10, 2) := by decide +kernel
theorem dL_areDialsSo_72 : decode cL_areDialsSo 72 = .ok (.iload 10, 2) := by decide +kernel
theorem dL_areDialsSo_74 : decode cL_areDialsSo 74 = .ok (.ifCond .ge 7, 3) := by decide +kernel
theorem dL_areDialsSo_77 : decode cL_areDialsSo 77 = .ok (.iconst 0, 1) := by decide +kernel
theorem dL_areDialsSo_78 : decode cL_areDialsSo 78 = .ok (.goto 17, 3) := by decide +kernel
theorem dL_areDialsSo_81 : decode cL_areDialsSo 81 = .ok (.iload 10, 2) := by decide +kernel
theorem dL_areDialsSo_83 : decode cL_areDialsSo 83 = .ok (.ldc 30, 2) := by decide +kernel
theorem dL_areDialsSo_85 : decode cL_areDialsSo 85 = .ok (.if_icmp .le 8, 3) := by decide +kernel
theorem dL_areDialsSo_88 : decode cL_areDialsSo 88 = .ok (.ldc 30, 2) := by decide +kernel
theorem dL_areDialsSo_90 : decode cL_areDialsSo 90 = .ok (.goto 5, 3) := by decide +kernel
theorem dL_areDialsSo_93 : decode cL_areDialsSo 93 = .ok (.iload 10, 2) := by decide +kernel
theorem dL_areDialsSo_95 : decode cL_areDialsSo 95 = .ok (.istore 10, 2) := by decide +kernel
theorem dL_areDialsSo_97 : decode cL_areDialsSo 97 = .ok (.iload_n 1, 1) := by decide +kernel
theorem dL_areDialsSo_98 : decode cL_areDialsSo 98 = .ok (.aload_n 0, 1) := by decide +kernel
theorem dL_areDialsSo_99 : decode cL_areDialsSo 99 = .ok (.iload 7, 2) := by decide +kernel
theorem dL_areDialsSo_101 : decode cL_areDialsSo 101 = .ok (.iconst 4, 1) := by decide +kernel
theorem dL_areDialsSo_102 : decode cL_areDialsSo 102 = .ok (.invokevirtual 50, 3) := by decide +kernel
theorem dL_areDialsSo_105 : decode cL_areDialsSo 105 = .ok (.iadd, 1) := by decide +kernel
theorem dL_areDialsSo_106 : decode cL_areDialsSo 106 = .ok (.istore_n 1, 1) := by decide +kernel
theorem dL_areDialsSo_107 : decode cL_areDialsSo 107 = .ok (.iload_n 2, 1) := by decide +kernel
theorem dL_areDialsSo_108 : decode cL_areDialsSo 108 = .ok (.iload 9, 2) := by decide +kernel
theorem dL_areDialsSo_110 : decode cL_areDialsSo 110 = .ok (.iadd, 1) := by decide +kernel
theorem dL_areDialsSo_111 : decode cL_areDialsSo 111 = .ok (.istore_n 2, 1) := by decide +kernel
theorem dL_areDialsSo_112 : decode cL_areDialsSo 112 = .ok (.iload_n 3, 1) := by decide +kernel
theorem dL_areDialsSo_113 : decode cL_areDialsSo 113 = .ok (.aload_n 0, 1) := by decide +kernel
theorem dL_areDialsSo_114 : decode cL_areDialsSo 114 = .ok (.iload 7, 2) := by decide +kernel
theorem dL_areDialsSo_116 : decode cL_areDialsSo 116 = .ok (.iconst 0, 1) := by decide +kernel
theorem dL_areDialsSo_117 : decode cL_areDialsSo 117 = .ok (.invokevirtual 59, 3) := by decide +kernel
theorem dL_areDialsSo_120 : decode cL_areDialsSo 120 = .ok (.iadd, 1) := by decide +kernel
theorem dL_areDialsSo_121 : decode cL_areDialsSo 121 = .ok (.istore_n 3, 1) := by decide +kernel
theorem dL_areDialsSo_122 : decode cL_areDialsSo 122 = .ok (.iload 4, 2) := by decide +kernel
theorem dL_areDialsSo_124 : decode cL_areDialsSo 124 = .ok (.aload_n 0, 1) := by decide +kernel
theorem dL_areDialsSo_125 : decode cL_areDialsSo 125 = .ok (.iload 7, 2) := by decide +kernel
theorem dL_areDialsSo_127 : decode cL_areDialsSo 127 = .ok (.iconst 5, 1) := by decide +kernel
theorem dL_areDialsSo_128 : decode cL_areDialsSo 128 = .ok (.invokevirtual 59, 3) := by decide +kernel
theorem dL_areDialsSo_131 : decode cL_areDialsSo 131 = .ok (.iadd, 1) := by decide +kernel
theorem dL_areDialsSo_132 : decode cL_areDialsSo 132 = .ok (.istore 4, 2) := by decide +kernel
theorem dL_areDialsSo_134 : decode cL_areDialsSo 134 = .ok (.iload 5, 2) := by decide +kernel
theorem dL_areDialsSo_136 : decode cL_areDialsSo 136 = .ok (.iconst 1, 1) := by decide +kernel
theorem dL_areDialsSo_137 : decode cL_areDialsSo 137 = .ok (.aload_n 0, 1) := by decide +kernel
theorem dL_areDialsSo_138 : decode cL_areDialsSo 138 = .ok (.iload 7, 2) := by decide +kernel
theorem dL_areDialsSo_140 : decode cL_areDialsSo 140 = .ok (.iconst 4, 1) := by decide +kernel
theorem dL_areDialsSo_141 : decode cL_areDialsSo 141 = .ok (.invokevirtual 59, 3) := by decide +kernel
theorem dL_areDialsSo_144 : decode cL_areDialsSo 144 = .ok (.ishl, 1) := by decide +kernel
theorem dL_areDialsSo_145 : decode cL_areDialsSo 145 = .ok (.ior, 1) := by decide +kernel
theorem dL_areDialsSo_146 : decode cL_areDialsSo 146 = .ok (.istore 5, 2) := by decide +kernel
theorem dL_areDialsSo_148 : decode cL_areDialsSo 148 = .ok (.aload_n 0, 1) := by decide +kernel
theorem dL_areDialsSo_149 : decode cL_areDialsSo 149 = .ok (.iload 7, 2) := by decide +kernel
theorem dL_areDialsSo_151 : decode cL_areDialsSo 151 = .ok (.iconst 2, 1) := by decide +kernel
theorem dL_areDialsSo_152 : decode cL_areDialsSo 152 = .ok (.invokevirtual 59, 3) := by decide +kernel
theorem dL_areDialsSo_155 : decode cL_areDialsSo 155 = .ok (.aload_n 0, 1) := by decide +kernel
theorem dL_areDialsSo_156 : decode cL_areDialsSo 156 = .ok (.iload 7, 2) := by decide +kernel
theorem dL_areDialsSo_158 : decode cL_areDialsSo 158 = .ok (.iconst 1, 1) := by decide +kernel
theorem dL_areDialsSo_159 : decode cL_areDialsSo 159 = .ok (.iadd, 1) := by decide +kernel
theorem dL_areDialsSo_160 : decode cL_areDialsSo 160 = .ok (.bipush 7, 2) := by decide +kernel
theorem dL_areDialsSo_162 : decode cL_areDialsSo 162 = .ok (.irem, 1) := by decide +kernel
theorem dL_areDialsSo_163 : decode cL_areDialsSo 163 = .ok (.iconst 2, 1) := by decide +kernel
theorem dL_areDialsSo_164 : decode cL_areDialsSo 164 = .ok (.invokevirtual 59, 3) := by decide +kernel
theorem dL_areDialsSo_167 : decode cL_areDialsSo 167 = .ok (.isub, 1) := by decide +kernel
theorem dL_areDialsSo_168 : decode cL_areDialsSo 168 = .ok (.invokestatic 53, 3) := by decide +kernel
theorem dL_areDialsSo_171 : decode cL_areDialsSo 171 = .ok (.aload_n 0, 1) := by decide +kernel
theorem dL_areDialsSo_172 : decode cL_areDialsSo 172 = .ok (.iconst 0, 1) := by decide +kernel
theorem dL_areDialsSo_173 : decode cL_areDialsSo 173 = .ok (.invokevirtual 56, 3) := by decide +kernel
theorem dL_areDialsSo_176 : decode cL_areDialsSo 176 = .ok (.if_icmp .le 7, 3) := by decide +kernel
theorem dL_areDialsSo_179 : decode cL_areDialsSo 179 = .ok (.iconst 1, 1) := by decide +kernel
theorem dL_areDialsSo_180 : decode cL_areDialsSo 180 = .ok (.goto 4, 3) := by decide +kernel
theorem dL_areDialsSo_183 : decode cL_areDialsSo 183 = .ok (.iconst 0, 1) := by decide +kernel
theorem dL_areDialsSo_184 : decode cL_areDialsSo 184 = .ok (.istore 11, 2) := by decide +kernel
theorem dL_areDialsSo_186 : decode cL_areDialsSo 186 = .ok (.iload 6, 2) := by decide +kernel
theorem dL_areDialsSo_188 : decode cL_areDialsSo 188 = .ok (.ifCond .eq 133, 3) := by decide +kernel
theorem dL_areDialsSo_191 : decode cL_areDialsSo 191 = .ok (.iload 8, 2) := by decide +kernel
theorem dL_areDialsSo_193 : decode cL_areDialsSo 193 = .ok (.aload_n 0, 1) := by decide +kernel
theorem dL_areDialsSo_194 : decode cL_areDialsSo 194 = .ok (.iload 7, 2) := by decide +kernel
theorem dL_areDialsSo_196 : decode cL_areDialsSo 196 = .ok (.iconst 1, 1) := by decide +kernel
theorem dL_areDialsSo_197 : decode cL_areDialsSo 197 = .ok (.invokevirtual 50, 3) := by decide +kernel
theorem dL_areDialsSo_200 : decode cL_areDialsSo 200 = .ok (.if_icmp .ne 121, 3) := by decide +kernel
theorem dL_areDialsSo_203 : decode cL_areDialsSo 203 = .ok (.iload 8, 2) := by decide +kernel
theorem dL_areDialsSo_205 : decode cL_areDialsSo 205 = .ok (.ifCond .lt 116, 3) := by decide +kernel
theorem dL_areDialsSo_208 : decode cL_areDialsSo 208 = .ok (.iload 8, 2) := by decide +kernel
theorem dL_areDialsSo_210 : decode cL_areDialsSo 210 = .ok (.ldc 30, 2) := by decide +kernel
theorem dL_areDialsSo_212 : decode cL_areDialsSo 212 = .ok (.if_icmp .gt 109, 3) := by decide +kernel
theorem dL_areDialsSo_215 : decode cL_areDialsSo 215 = .ok (.aload_n 0, 1) := by decide +kernel
theorem dL_areDialsSo_216 : decode cL_areDialsSo 216 = .ok (.iload 7, 2) := by decide +kernel
theorem dL_areDialsSo_218 : decode cL_areDialsSo 218 = .ok (.iconst 3, 1) := by decide +kernel
theorem dL_areDialsSo_219 : decode cL_areDialsSo 219 = .ok (.invokevirtual 50, 3) := by decide +kernel
theorem dL_areDialsSo_222 : decode cL_areDialsSo 222 = .ok (.iload 8, 2) := by decide +kernel
theorem dL_areDialsSo_224 : decode cL_areDialsSo 224 = .ok (.bipush 60, 2) := by decide +kernel
theorem dL_areDialsSo_226 : decode cL_areDialsSo 226 = .ok (.idiv, 1) := by decide +kernel
theorem dL_areDialsSo_227 : decode cL_areDialsSo 227 = .ok (.if_icmp .ne 94, 3) := by decide +kernel
theorem dL_areDialsSo_230 : decode cL_areDialsSo 230 = .ok (.aload_n 0, 1) := by decide +kernel
theorem dL_areDialsSo_231 : decode cL_areDialsSo 231 = .ok (.iload 7, 2) := by decide +kernel
theorem dL_areDialsSo_233 : decode cL_areDialsSo 233 = .ok (.iconst 5, 1) := by decide +kernel
theorem dL_areDialsSo_234 : decode cL_areDialsSo 234 = .ok (.invokevirtual 50, 3) := by decide +kernel
theorem dL_areDialsSo_237 : decode cL_areDialsSo 237 = .ok (.iload 8, 2) := by decide +kernel
theorem dL_areDialsSo_239 : decode cL_areDialsSo 239 = .ok (.aload_n 0, 1) := by decide +kernel
theorem dL_areDialsSo_240 : decode cL_areDialsSo 240 = .ok (.iconst 0, 1) := by decide +kernel
theorem dL_areDialsSo_241 : decode cL_areDialsSo 241 = .ok (.invokevirtual 20, 3) := by decide +kernel
theorem dL_areDialsSo_244 : decode cL_areDialsSo 244 = .ok (.isub, 1) := by decide +kernel
theorem dL_areDialsSo_245 : decode cL_areDialsSo 245 = .ok (.invokestatic 53, 3) := by decide +kernel
theorem dL_areDialsSo_248 : decode cL_areDialsSo 248 = .ok (.if_icmp .ne 73, 3) := by decide +kernel
theorem dL_areDialsSo_251 : decode cL_areDialsSo 251 = .ok (.aload_n 0, 1) := by decide +kernel
theorem dL_areDialsSo_252 : decode cL_areDialsSo 252 = .ok (.iload 7, 2) := by decide +kernel
theorem dL_areDialsSo_254 : decode cL_areDialsSo 254 = .ok (.bipush 6, 2) := by decide +kernel
theorem dL_areDialsSo_256 : decode cL_areDialsSo 256 = .ok (.invokevirtual 50, 3) := by decide +kernel
theorem dL_areDialsSo_259 : decode cL_areDialsSo 259 = .ok (.iload 9, 2) := by decide +kernel
theorem dL_areDialsSo_261 : decode cL_areDialsSo 261 = .ok (.if_icmp .ne 60, 3) := by decide +kernel
theorem dL_areDialsSo_264 : decode cL_areDialsSo 264 = .ok (.aload_n 0, 1) := by decide +kernel
theorem dL_areDialsSo_265 : decode cL_areDialsSo 265 = .ok (.iload 7, 2) := by decide +kernel
theorem dL_areDialsSo_267 : decode cL_areDialsSo 267 = .ok (.iconst 2, 1) := by decide +kernel
theorem dL_areDialsSo_268 : decode cL_areDialsSo 268 = .ok (.invokevirtual 59, 3) := by decide +kernel
theorem dL_areDialsSo_271 : decode cL_areDialsSo 271 = .ok (.iload 10, 2) := by decide +kernel
theorem dL_areDialsSo_273 : decode cL_areDialsSo 273 = .ok (.if_icmp .ne 48, 3) := by decide +kernel
theorem dL_areDialsSo_276 : decode cL_areDialsSo 276 = .ok (.aload_n 0, 1) := by decide +kernel
theorem dL_areDialsSo_277 : decode cL_areDialsSo 277 = .ok (.iload 7, 2) := by decide +kernel
theorem dL_areDialsSo_279 : decode cL_areDialsSo 279 = .ok (.iconst 0, 1) := by decide +kernel
theorem dL_areDialsSo_280 : decode cL_areDialsSo 280 = .ok (.invokevirtual 59, 3) := by decide +kernel
theorem dL_areDialsSo_283 : decode cL_areDialsSo 283 = .ok (.ifCond .lt 38, 3) := by decide +kernel
theorem dL_areDialsSo_286 : decode cL_areDialsSo 286 = .ok (.aload_n 0, 1) := by decide +kernel
theorem dL_areDialsSo_287 : decode cL_areDialsSo 287 = .ok (.iload 7, 2) := by decide +kernel
theorem dL_areDialsSo_289 : decode cL_areDialsSo 289 = .ok (.iconst 0, 1) := by decide +kernel
theorem dL_areDialsSo_290 : decode cL_areDialsSo 290 = .ok (.invokevirtual 59, 3) := by decide +kernel
theorem dL_areDialsSo_293 : decode cL_areDialsSo 293 = .ok (.bipush 10, 2) := by decide +kernel
theorem dL_areDialsSo_295 : decode cL_areDialsSo 295 = .ok (.if_icmp .ge 26, 3) := by decide +kernel
theorem dL_areDialsSo_298 : decode cL_areDialsSo 298 = .ok (.aload_n 0, 1) := by decide +kernel
theorem dL_areDialsSo_299 : decode cL_areDialsSo 299 = .ok (.iload 7, 2) := by decide +kernel
theorem dL_areDialsSo_301 : decode cL_areDialsSo 301 = .ok (.invokevirtual 62, 3) := by decide +kernel
theorem dL_areDialsSo_304 : decode cL_areDialsSo 304 = .ok (.ifCond .ne 7, 3) := by decide +kernel
theorem dL_areDialsSo_307 : decode cL_areDialsSo 307 = .ok (.iconst 1, 1) := by decide +kernel
theorem dL_areDialsSo_308 : decode cL_areDialsSo 308 = .ok (.goto 4, 3) := by decide +kernel
theorem dL_areDialsSo_311 : decode cL_areDialsSo 311 = .ok (.iconst 0, 1) := by decide +kernel
theorem dL_areDialsSo_312 : decode cL_areDialsSo 312 = .ok (.iload 11, 2) := by decide +kernel
theorem dL_areDialsSo_314 : decode cL_areDialsSo 314 = .ok (.if_icmp .ne 7, 3) := by decide +kernel
theorem dL_areDialsSo_317 : decode cL_areDialsSo 317 = .ok (.iconst 1, 1) := by decide +kernel
theorem dL_areDialsSo_318 : decode cL_areDialsSo 318 = .ok (.goto 4, 3) := by decide +kernel
theorem dL_areDialsSo_321 : decode cL_areDialsSo 321 = .ok (.iconst 0, 1) := by decide +kernel
theorem dL_areDialsSo_322 : decode cL_areDialsSo 322 = .ok (.istore 6, 2) := by decide +kernel
theorem dL_areDialsSo_324 : decode cL_areDialsSo 324 = .ok (.iconst 0, 1) := by decide +kernel
theorem dL_areDialsSo_325 : decode cL_areDialsSo 325 = .ok (.istore 12, 2) := by decide +kernel
theorem dL_areDialsSo_327 : decode cL_areDialsSo 327 = .ok (.iload 12, 2) := by decide +kernel
theorem dL_areDialsSo_329 : decode cL_areDialsSo 329 = .ok (.bipush 7, 2) := by decide +kernel
theorem dL_areDialsSo_331 : decode cL_areDialsSo 331 = .ok (.if_icmp .ge 82, 3) := by decide +kernel
theorem dL_areDialsSo_334 : decode cL_areDialsSo 334 = .ok (.iload 6, 2) := by decide +kernel
theorem dL_areDialsSo_336 : decode cL_areDialsSo 336 = .ok (.ifCond .eq 68, 3) := by decide +kernel
theorem dL_areDialsSo_339 : decode cL_areDialsSo 339 = .ok (.aload_n 0, 1) := by decide +kernel
theorem dL_areDialsSo_340 : decode cL_areDialsSo 340 = .ok (.iload 7, 2) := by decide +kernel
theorem dL_areDialsSo_342 : decode cL_areDialsSo 342 = .ok (.iconst 4, 1) := by decide +kernel
theorem dL_areDialsSo_343 : decode cL_areDialsSo 343 = .ok (.invokevirtual 59, 3) := by decide +kernel
theorem dL_areDialsSo_346 : decode cL_areDialsSo 346 = .ok (.aload_n 0, 1) := by decide +kernel
theorem dL_areDialsSo_347 : decode cL_areDialsSo 347 = .ok (.iload 12, 2) := by decide +kernel
theorem dL_areDialsSo_349 : decode cL_areDialsSo 349 = .ok (.iconst 4, 1) := by decide +kernel
theorem dL_areDialsSo_350 : decode cL_areDialsSo 350 = .ok (.invokevirtual 59, 3) := by decide +kernel
theorem dL_areDialsSo_353 : decode cL_areDialsSo 353 = .ok (.if_icmp .le 7, 3) := by decide +kernel
theorem dL_areDialsSo_356 : decode cL_areDialsSo 356 = .ok (.iconst 1, 1) := by decide +kernel
theorem dL_areDialsSo_357 : decode cL_areDialsSo 357 = .ok (.goto 4, 3) := by decide +kernel
theorem dL_areDialsSo_360 : decode cL_areDialsSo 360 = .ok (.iconst 0, 1) := by decide +kernel
theorem dL_areDialsSo_361 : decode cL_areDialsSo 361 = .ok (.iload 10, 2) := by decide +kernel
theorem dL_areDialsSo_363 : decode cL_areDialsSo 363 = .ok (.aload_n 0, 1) := by decide +kernel
theorem dL_areDialsSo_364 : decode cL_areDialsSo 364 = .ok (.iload 12, 2) := by decide +kernel
theorem dL_areDialsSo_366 : decode cL_areDialsSo 366 = .ok (.iconst 2, 1) := by decide +kernel
theorem dL_areDialsSo_367 : decode cL_areDialsSo 367 = .ok (.invokevirtual 59, 3) := by decide +kernel
theorem dL_areDialsSo_370 : decode cL_areDialsSo 370 = .ok (.if_icmp .gt 22, 3) := by decide +kernel
theorem dL_areDialsSo_373 : decode cL_areDialsSo 373 = .ok (.iload 10, 2) := by decide +kernel
theorem dL_areDialsSo_375 : decode cL_areDialsSo 375 = .ok (.aload_n 0, 1) := by decide +kernel
theorem dL_areDialsSo_376 : decode cL_areDialsSo 376 = .ok (.iload 12, 2) := by decide +kernel
theorem dL_areDialsSo_378 : decode cL_areDialsSo 378 = .ok (.iconst 2, 1) := by decide +kernel
theorem dL_areDialsSo_379 : decode cL_areDialsSo 379 = .ok (.invokevirtual 59, 3) := by decide +kernel
theorem dL_areDialsSo_382 : decode cL_areDialsSo 382 = .ok (.if_icmp .ne 14, 3) := by decide +kernel
theorem dL_areDialsSo_385 : decode cL_areDialsSo 385 = .ok (.iload 7, 2) := by decide +kernel
theorem dL_areDialsSo_387 : decode cL_areDialsSo 387 = .ok (.iload 12, 2) := by decide +kernel
theorem dL_areDialsSo_389 : decode cL_areDialsSo 389 = .ok (.if_icmp .le 7, 3) := by decide +kernel
theorem dL_areDialsSo_392 : decode cL_areDialsSo 392 = .ok (.iconst 1, 1) := by decide +kernel
theorem dL_areDialsSo_393 : decode cL_areDialsSo 393 = .ok (.goto 4, 3) := by decide +kernel
theorem dL_areDialsSo_396 : decode cL_areDialsSo 396 = .ok (.iconst 0, 1) := by decide +kernel
theorem dL_areDialsSo_397 : decode cL_areDialsSo 397 = .ok (.if_icmp .ne 7, 3) := by decide +kernel
theorem dL_areDialsSo_400 : decode cL_areDialsSo 400 = .ok (.iconst 1, 1) := by decide +kernel
theorem dL_areDialsSo_401 : decode cL_areDialsSo 401 = .ok (.goto 4, 3) := by decide +kernel
theorem dL_areDialsSo_404 : decode cL_areDialsSo 404 = .ok (.iconst 0, 1) := by decide +kernel
theorem dL_areDialsSo_405 : decode cL_areDialsSo 405 = .ok (.istore 6, 2) := by decide +kernel
theorem dL_areDialsSo_407 : decode cL_areDialsSo 407 = .ok (.iinc 12 1, 3) := by decide +kernel
theorem dL_areDialsSo_410 : decode cL_areDialsSo 410 = .ok (.goto (-83), 3) := by decide +kernel
theorem dL_areDialsSo_413 : decode cL_areDialsSo 413 = .ok (.iinc 7 1, 3) := by decide +kernel
theorem dL_areDialsSo_416 : decode cL_areDialsSo 416 = .ok (.goto (-398), 3) := by decide +kernel
theorem dL_areDialsSo_419 : decode cL_areDialsSo 419 = .ok (.iload 6, 2) := by decide +kernel
theorem dL_areDialsSo_421 : decode cL_areDialsSo 421 = .ok (.ifCond .eq 105, 3) := by decide +kernel
theorem dL_areDialsSo_424 : decode cL_areDialsSo 424 = .ok (.iload_n 1, 1) := by decide +kernel
theorem dL_areDialsSo_425 : decode cL_areDialsSo 425 = .ok (.aload_n 0, 1) := by decide +kernel
theorem dL_areDialsSo_426 : decode cL_areDialsSo 426 = .ok (.bipush 8, 2) := by decide +kernel
theorem dL_areDialsSo_428 : decode cL_areDialsSo 428 = .ok (.invokevirtual 20, 3) := by decide +kernel
theorem dL_areDialsSo_431 : decode cL_areDialsSo 431 = .ok (.if_icmp .ne 95, 3) := by decide +kernel
theorem dL_areDialsSo_434 : decode cL_areDialsSo 434 = .ok (.iload_n 2, 1) := by decide +kernel
theorem dL_areDialsSo_435 : decode cL_areDialsSo 435 = .ok (.aload_n 0, 1) := by decide +kernel
theorem dL_areDialsSo_436 : decode cL_areDialsSo 436 = .ok (.bipush 11, 2) := by decide +kernel
theorem dL_areDialsSo_438 : decode cL_areDialsSo 438 = .ok (.invokevirtual 20, 3) := by decide +kernel
theorem dL_areDialsSo_441 : decode cL_areDialsSo 441 = .ok (.if_icmp .ne 85, 3) := by decide +kernel
theorem dL_areDialsSo_444 : decode cL_areDialsSo 444 = .ok (.iload_n 3, 1) := by decide +kernel
theorem dL_areDialsSo_445 : decode cL_areDialsSo 445 = .ok (.aload_n 0, 1) := by decide +kernel
theorem dL_areDialsSo_446 : decode cL_areDialsSo 446 = .ok (.iconst 4, 1) := by decide +kernel
theorem dL_areDialsSo_447 : decode cL_areDialsSo 447 = .ok (.invokevirtual 20, 3) := by decide +kernel
theorem dL_areDialsSo_450 : decode cL_areDialsSo 450 = .ok (.if_icmp .ne 76, 3) := by decide +kernel
theorem dL_areDialsSo_453 : decode cL_areDialsSo 453 = .ok (.iload 4, 2) := by decide +kernel
theorem dL_areDialsSo_455 : decode cL_areDialsSo 455 = .ok (.iconst 2, 1) := by decide +kernel
theorem dL_areDialsSo_456 : decode cL_areDialsSo 456 = .ok (.aload_n 0, 1) := by decide +kernel
theorem dL_areDialsSo_457 : decode cL_areDialsSo 457 = .ok (.iconst 5, 1) := by decide +kernel
theorem dL_areDialsSo_458 : decode cL_areDialsSo 458 = .ok (.invokevirtual 20, 3) := by decide +kernel
theorem dL_areDialsSo_461 : decode cL_areDialsSo 461 = .ok (.imul, 1) := by decide +kernel
theorem dL_areDialsSo_462 : decode cL_areDialsSo 462 = .ok (.if_icmp .ne 64, 3) := by decide +kernel
theorem dL_areDialsSo_465 : decode cL_areDialsSo 465 = .ok (.iload 5, 2) := by decide +kernel
theorem dL_areDialsSo_467 : decode cL_areDialsSo 467 = .ok (.bipush 127, 2) := by decide +kernel
theorem dL_areDialsSo_469 : decode cL_areDialsSo 469 = .ok (.if_icmp .ne 57, 3) := by decide +kernel
theorem dL_areDialsSo_472 : decode cL_areDialsSo 472 = .ok (.aload_n 0, 1) := by decide +kernel
theorem dL_areDialsSo_473 : decode cL_areDialsSo 473 = .ok (.bipush 12, 2) := by decide +kernel
theorem dL_areDialsSo_475 : decode cL_areDialsSo 475 = .ok (.invokevirtual 20, 3) := by decide +kernel
theorem dL_areDialsSo_478 : decode cL_areDialsSo 478 = .ok (.aload_n 0, 1) := by decide +kernel
theorem dL_areDialsSo_479 : decode cL_areDialsSo 479 = .ok (.iconst 1, 1) := by decide +kernel
theorem dL_areDialsSo_480 : decode cL_areDialsSo 480 = .ok (.invokevirtual 20, 3) := by decide +kernel
theorem dL_areDialsSo_483 : decode cL_areDialsSo 483 = .ok (.aload_n 0, 1) := by decide +kernel
theorem dL_areDialsSo_484 : decode cL_areDialsSo 484 = .ok (.iconst 0, 1) := by decide +kernel
theorem dL_areDialsSo_485 : decode cL_areDialsSo 485 = .ok (.invokevirtual 20, 3) := by decide +kernel
theorem dL_areDialsSo_488 : decode cL_areDialsSo 488 = .ok (.isub, 1) := by decide +kernel
theorem dL_areDialsSo_489 : decode cL_areDialsSo 489 = .ok (.invokestatic 53, 3) := by decide +kernel
theorem dL_areDialsSo_492 : decode cL_areDialsSo 492 = .ok (.if_icmp .ne 34, 3) := by decide +kernel
theorem dL_areDialsSo_495 : decode cL_areDialsSo 495 = .ok (.aload_n 0, 1) := by decide +kernel
theorem dL_areDialsSo_496 : decode cL_areDialsSo 496 = .ok (.invokevirtual 65, 3) := by decide +kernel
theorem dL_areDialsSo_499 : decode cL_areDialsSo 499 = .ok (.dconst 0, 1) := by decide +kernel
theorem dL_areDialsSo_500 : decode cL_areDialsSo 500 = .ok (.dcmp .l, 1) := by decide +kernel
theorem dL_areDialsSo_501 : decode cL_areDialsSo 501 = .ok (.ifCond .lt 25, 3) := by decide +kernel
theorem dL_areDialsSo_504 : decode cL_areDialsSo 504 = .ok (.aload_n 0, 1) := by decide +kernel
theorem dL_areDialsSo_505 : decode cL_areDialsSo 505 = .ok (.invokevirtual 65, 3) := by decide +kernel
theorem dL_areDialsSo_508 : decode cL_areDialsSo 508 = .ok (.dconst 1, 1) := by decide +kernel
theorem dL_areDialsSo_509 : decode cL_areDialsSo 509 = .ok (.dcmp .g, 1) := by decide +kernel
theorem dL_areDialsSo_510 : decode cL_areDialsSo 510 = .ok (.ifCond .gt 16, 3) := by decide +kernel
theorem dL_areDialsSo_513 : decode cL_areDialsSo 513 = .ok (.aload_n 0, 1) := by decide +kernel
theorem dL_areDialsSo_514 : decode cL_areDialsSo 514 = .ok (.invokevirtual 69, 3) := by decide +kernel
theorem dL_areDialsSo_517 : decode cL_areDialsSo 517 = .ok (.fconst 0, 1) := by decide +kernel
theorem dL_areDialsSo_518 : decode cL_areDialsSo 518 = .ok (.fcmp .l, 1) := by decide +kernel
theorem dL_areDialsSo_519 : decode cL_areDialsSo 519 = .ok (.ifCond .lt 7, 3) := by decide +kernel
theorem dL_areDialsSo_522 : decode cL_areDialsSo 522 = .ok (.iconst 1, 1) := by decide +kernel
theorem dL_areDialsSo_523 : decode cL_areDialsSo 523 = .ok (.goto 4, 3) := by decide +kernel
theorem dL_areDialsSo_526 : decode cL_areDialsSo 526 = .ok (.iconst 0, 1) := by decide +kernel
theorem dL_areDialsSo_527 : decode cL_areDialsSo 527 = .ok (.ireturn, 1) := by decide +kernel
theorem dL_isMiddle_0 : decode cL_isMiddle 0 = .ok (.iconst 0, 1) := by decide +kernel
theorem dL_isMiddle_1 : decode cL_isMiddle 1 = .ok (.istore_n 3, 1) := by decide +kernel
theorem dL_isMiddle_2 : decode cL_isMiddle 2 = .ok (.iconst 0, 1) := by decide +kernel
theorem dL_isMiddle_3 : decode cL_isMiddle 3 = .ok (.istore 4, 2) := by decide +kernel
theorem dL_isMiddle_5 : decode cL_isMiddle 5 = .ok (.iconst 0, 1) := by decide +kernel
theorem dL_isMiddle_6 : decode cL_isMiddle 6 = .ok (.istore 5, 2) := by decide +kernel
theorem dL_isMiddle_8 : decode cL_isMiddle 8 = .ok (.iconst 0, 1) := by decide +kernel
theorem dL_isMiddle_9 : decode cL_isMiddle 9 = .ok (.istore 6, 2) := by decide +kernel
theorem dL_isMiddle_11 : decode cL_isMiddle 11 = .ok (.iconst 0, 1) := by decide +kernel
theorem dL_isMiddle_12 : decode cL_isMiddle 12 = .ok (.istore 7, 2) := by decide +kernel
theorem dL_isMiddle_14 : decode cL_isMiddle 14 = .ok (.iload 7, 2) := by decide +kernel
theorem dL_isMiddle_16 : decode cL_isMiddle 16 = .ok (.bipush 7, 2) := by decide +kernel
theorem dL_isMiddle_18 : decode cL_isMiddle 18 = .ok (.if_icmp .ge 99, 3) := by decide +kernel
theorem dL_isMiddle_21 : decode cL_isMiddle 21 = .ok (.iload 7, 2) := by decide +kernel
theorem dL_isMiddle_23 : decode cL_isMiddle 23 = .ok (.iload_n 2, 1) := by decide +kernel
theorem dL_isMiddle_24 : decode cL_isMiddle 24 = .ok (.if_icmp .ne 7, 3) := by decide +kernel
theorem dL_isMiddle_27 : decode cL_isMiddle 27 = .ok (.iconst 0, 1) := by decide +kernel
theorem dL_isMiddle_28 : decode cL_isMiddle 28 = .ok (.goto 10, 3) := by decide +kernel
theorem dL_isMiddle_31 : decode cL_isMiddle 31 = .ok (.aload_n 0, 1) := by decide +kernel
theorem dL_isMiddle_32 : decode cL_isMiddle 32 = .ok (.iload 7, 2) := by decide +kernel
theorem dL_isMiddle_34 : decode cL_isMiddle 34 = .ok (.iconst 0, 1) := by decide +kernel
theorem dL_isMiddle_35 : decode cL_isMiddle 35 = .ok (.invokevirtual 59, 3) := by decide +kernel
theorem dL_isMiddle_38 : decode cL_isMiddle 38 = .ok (.istore 8, 2) := by decide +kernel
theorem dL_isMiddle_40 : decode cL_isMiddle 40 = .ok (.aload_n 0, 1) := by decide +kernel
theorem dL_isMiddle_41 : decode cL_isMiddle 41 = .ok (.iload 7, 2) := by decide +kernel
theorem dL_isMiddle_43 : decode cL_isMiddle 43 = .ok (.iconst 2, 1) := by decide +kernel
theorem dL_isMiddle_44 : decode cL_isMiddle 44 = .ok (.invokevirtual 59, 3) := by decide +kernel
theorem dL_isMiddle_47 : decode cL_isMiddle 47 = .ok (.istore 9, 2) := by decide +kernel
theorem dL_isMiddle_49 : decode cL_isMiddle 49 = .ok (.iload 5, 2) := by decide +kernel
theorem dL_isMiddle_51 : decode cL_isMiddle 51 = .ok (.iload 8, 2) := by decide +kernel
theorem dL_isMiddle_53 : decode cL_isMiddle 53 = .ok (.iadd, 1) := by decide +kernel
theorem dL_isMiddle_54 : decode cL_isMiddle 54 = .ok (.istore 5, 2) := by decide +kernel
theorem dL_isMiddle_56 : decode cL_isMiddle 56 = .ok (.iload_n 3, 1) := by decide +kernel
theorem dL_isMiddle_57 : decode cL_isMiddle 57 = .ok (.iload 9, 2) := by decide +kernel
theorem dL_isMiddle_59 : decode cL_isMiddle 59 = .ok (.iload_n 1, 1) := by decide +kernel
theorem dL_isMiddle_60 : decode cL_isMiddle 60 = .ok (.if_icmp .gt 8, 3) := by decide +kernel
theorem dL_isMiddle_63 : decode cL_isMiddle 63 = .ok (.iload 8, 2) := by decide +kernel
theorem dL_isMiddle_65 : decode cL_isMiddle 65 = .ok (.goto 4, 3) := by decide +kernel
theorem dL_isMiddle_68 : decode cL_isMiddle 68 = .ok (.iconst 0, 1) := by decide +kernel
theorem dL_isMiddle_69 : decode cL_isMiddle 69 = .ok (.iadd, 1) := by decide +kernel
theorem dL_isMiddle_70 : decode cL_isMiddle 70 = .ok (.istore_n 3, 1) := by decide +kernel
theorem dL_isMiddle_71 : decode cL_isMiddle 71 = .ok (.iload 4, 2) := by decide +kernel
theorem dL_isMiddle_73 : decode cL_isMiddle 73 = .ok (.iload 9, 2) := by decide +kernel
theorem dL_isMiddle_75 : decode cL_isMiddle 75 = .ok (.iload_n 1, 1) := by decide +kernel
theorem dL_isMiddle_76 : decode cL_isMiddle 76 = .ok (.if_icmp .ge 8, 3) := by decide +kernel
theorem dL_isMiddle_79 : decode cL_isMiddle 79 = .ok (.iload 8, 2) := by decide +kernel
theorem dL_isMiddle_81 : decode cL_isMiddle 81 = .ok (.goto 4, 3) := by decide +kernel
theorem dL_isMiddle_84 : decode cL_isMiddle 84 = .ok (.iconst 0, 1) := by decide +kernel
theorem dL_isMiddle_85 : decode cL_isMiddle 85 = .ok (.iadd, 1) := by decide +kernel
theorem dL_isMiddle_86 : decode cL_isMiddle 86 = .ok (.istore 4, 2) := by decide +kernel
theorem dL_isMiddle_88 : decode cL_isMiddle 88 = .ok (.iload 6, 2) := by decide +kernel
theorem dL_isMiddle_90 : decode cL_isMiddle 90 = .ok (.ifCond .ne 14, 3) := by decide +kernel
theorem dL_isMiddle_93 : decode cL_isMiddle 93 = .ok (.iload 9, 2) := by decide +kernel
theorem dL_isMiddle_95 : decode cL_isMiddle 95 = .ok (.iload_n 1, 1) := by decide +kernel
theorem dL_isMiddle_96 : decode cL_isMiddle 96 = .ok (.if_icmp .ne 12, 3) := by decide +kernel
theorem dL_isMiddle_99 : decode cL_isMiddle 99 = .ok (.iload 8, 2) := by decide +kernel
theorem dL_isMiddle_101 : decode cL_isMiddle 101 = .ok (.ifCond .le 7, 3) := by decide +kernel
theorem dL_isMiddle_104 : decode cL_isMiddle 104 = .ok (.iconst 1, 1) := by decide +kernel
theorem dL_isMiddle_105 : decode cL_isMiddle 105 = .ok (.goto 4, 3) := by decide +kernel
theorem dL_isMiddle_108 : decode cL_isMiddle 108 = .ok (.iconst 0, 1) := by decide +kernel
theorem dL_isMiddle_109 : decode cL_isMiddle 109 = .ok (.istore 6, 2) := by decide +kernel
theorem dL_isMiddle_111 : decode cL_isMiddle 111 = .ok (.iinc 7 1, 3) := by decide +kernel
theorem dL_isMiddle_114 : decode cL_isMiddle 114 = .ok (.goto (-100), 3) := by decide +kernel
theorem dL_isMiddle_117 : decode cL_isMiddle 117 = .ok (.iload 5, 2) := by decide +kernel
theorem dL_isMiddle_119 : decode cL_isMiddle 119 = .ok (.ifCond .ne 16, 3) := by decide +kernel
theorem dL_isMiddle_122 : decode cL_isMiddle 122 = .ok (.iload_n 1, 1) := by decide +kernel
theorem dL_isMiddle_123 : decode cL_isMiddle 123 = .ok (.iconst (-1), 1) := by decide +kernel
theorem dL_isMiddle_124 : decode cL_isMiddle 124 = .ok (.if_icmp .ne 7, 3) := by decide +kernel
theorem dL_isMiddle_127 : decode cL_isMiddle 127 = .ok (.iconst 1, 1) := by decide +kernel
theorem dL_isMiddle_128 : decode cL_isMiddle 128 = .ok (.goto 34, 3) := by decide +kernel
theorem dL_isMiddle_131 : decode cL_isMiddle 131 = .ok (.iconst 0, 1) := by decide +kernel
theorem dL_isMiddle_132 : decode cL_isMiddle 132 = .ok (.goto 30, 3) := by decide +kernel
theorem dL_isMiddle_135 : decode cL_isMiddle 135 = .ok (.iload 6, 2) := by decide +kernel
theorem dL_isMiddle_137 : decode cL_isMiddle 137 = .ok (.ifCond .eq 24, 3) := by decide +kernel
theorem dL_isMiddle_140 : decode cL_isMiddle 140 = .ok (.iconst 2, 1) := by decide +kernel
theorem dL_isMiddle_141 : decode cL_isMiddle 141 = .ok (.iload_n 3, 1) := by decide +kernel
theorem dL_isMiddle_142 : decode cL_isMiddle 142 = .ok (.imul, 1) := by decide +kernel
theorem dL_isMiddle_143 : decode cL_isMiddle 143 = .ok (.iload 5, 2) := by decide +kernel
theorem dL_isMiddle_145 : decode cL_isMiddle 145 = .ok (.if_icmp .lt 16, 3) := by decide +kernel
theorem dL_isMiddle_148 : decode cL_isMiddle 148 = .ok (.iconst 2, 1) := by decide +kernel
theorem dL_isMiddle_149 : decode cL_isMiddle 149 = .ok (.iload 4, 2) := by decide +kernel
theorem dL_isMiddle_151 : decode cL_isMiddle 151 = .ok (.imul, 1) := by decide +kernel
theorem dL_isMiddle_152 : decode cL_isMiddle 152 = .ok (.iload 5, 2) := by decide +kernel
theorem dL_isMiddle_154 : decode cL_isMiddle 154 = .ok (.if_icmp .ge 7, 3) := by decide +kernel
theorem dL_isMiddle_157 : decode cL_isMiddle 157 = .ok (.iconst 1, 1) := by decide +kernel
theorem dL_isMiddle_158 : decode cL_isMiddle 158 = .ok (.goto 4, 3) := by decide +kernel
theorem dL_isMiddle_161 : decode cL_isMiddle 161 = .ok (.iconst 0, 1) := by decide +kernel
theorem dL_isMiddle_162 : decode cL_isMiddle 162 = .ok (.ireturn, 1) := by decide +kernel
theorem dL_areMiddlesSo_0 : decode cL_areMiddlesSo 0 = .ok (.aload_n 0, 1) := by decide +kernel
theorem dL_areMiddlesSo_1 : decode cL_areMiddlesSo 1 = .ok (.iconst 2, 1) := by decide +kernel
theorem dL_areMiddlesSo_2 : decode cL_areMiddlesSo 2 = .ok (.invokevirtual 20, 3) := by decide +kernel
theorem dL_areMiddlesSo_5 : decode cL_areMiddlesSo 5 = .ok (.istore_n 1, 1) := by decide +kernel
theorem dL_areMiddlesSo_6 : decode cL_areMiddlesSo 6 = .ok (.aload_n 0, 1) := by decide +kernel
theorem dL_areMiddlesSo_7 : decode cL_areMiddlesSo 7 = .ok (.invokevirtual 73, 3) := by decide +kernel
theorem dL_areMiddlesSo_10 : decode cL_areMiddlesSo 10 = .ok (.istore_n 2, 1) := by decide +kernel
theorem dL_areMiddlesSo_11 : decode cL_areMiddlesSo 11 = .ok (.iconst (-1), 1) := by decide +kernel
theorem dL_areMiddlesSo_12 : decode cL_areMiddlesSo 12 = .ok (.istore_n 3, 1) := by decide +kernel
theorem dL_areMiddlesSo_13 : decode cL_areMiddlesSo 13 = .ok (.iconst (-1), 1) := by decide +kernel
theorem dL_areMiddlesSo_14 : decode cL_areMiddlesSo 14 = .ok (.istore 4, 2) := by decide +kernel
theorem dL_areMiddlesSo_16 : decode cL_areMiddlesSo 16 = .ok (.iload_n 1, 1) := by decide +kernel
theorem dL_areMiddlesSo_17 : decode cL_areMiddlesSo 17 = .ok (.aload_n 0, 1) := by decide +kernel
theorem dL_areMiddlesSo_18 : decode cL_areMiddlesSo 18 = .ok (.iconst 3, 1) := by decide +kernel
theorem dL_areMiddlesSo_19 : decode cL_areMiddlesSo 19 = .ok (.invokevirtual 20, 3) := by decide +kernel
theorem dL_areMiddlesSo_22 : decode cL_areMiddlesSo 22 = .ok (.if_icmp .ne 17, 3) := by decide +kernel
theorem dL_areMiddlesSo_25 : decode cL_areMiddlesSo 25 = .ok (.aload_n 0, 1) := by decide +kernel
theorem dL_areMiddlesSo_26 : decode cL_areMiddlesSo 26 = .ok (.iload_n 1, 1) := by decide +kernel
theorem dL_areMiddlesSo_27 : decode cL_areMiddlesSo 27 = .ok (.bipush 9, 2) := by decide +kernel
theorem dL_areMiddlesSo_29 : decode cL_areMiddlesSo 29 = .ok (.invokestatic 76, 3) := by decide +kernel
theorem dL_areMiddlesSo_32 : decode cL_areMiddlesSo 32 = .ok (.ifCond .eq 7, 3) := by decide +kernel
theorem dL_areMiddlesSo_35 : decode cL_areMiddlesSo 35 = .ok (.iconst 1, 1) := by decide +kernel
theorem dL_areMiddlesSo_36 : decode cL_areMiddlesSo 36 = .ok (.goto 4, 3) := by decide +kernel
theorem dL_areMiddlesSo_39 : decode cL_areMiddlesSo 39 = .ok (.iconst 0, 1) := by decide +kernel
theorem dL_areMiddlesSo_40 : decode cL_areMiddlesSo 40 = .ok (.istore 5, 2) := by decide +kernel
theorem dL_areMiddlesSo_42 : decode cL_areMiddlesSo 42 = .ok (.iconst 0, 1) := by decide +kernel
theorem dL_areMiddlesSo_43 : decode cL_areMiddlesSo 43 = .ok (.istore 6, 2) := by decide +kernel
theorem dL_areMiddlesSo_45 : decode cL_areMiddlesSo 45 = .ok (.iload 6, 2) := by decide +kernel
theorem dL_areMiddlesSo_47 : decode cL_areMiddlesSo 47 = .ok (.bipush 7, 2) := by decide +kernel
theorem dL_areMiddlesSo_49 : decode cL_areMiddlesSo 49 = .ok (.if_icmp .ge 74, 3) := by decide +kernel
theorem dL_areMiddlesSo_52 : decode cL_areMiddlesSo 52 = .ok (.aload_n 0, 1) := by decide +kernel
theorem dL_areMiddlesSo_53 : decode cL_areMiddlesSo 53 = .ok (.iload 6, 2) := by decide +kernel
theorem dL_areMiddlesSo_55 : decode cL_areMiddlesSo 55 = .ok (.invokevirtual 80, 3) := by decide +kernel
theorem dL_areMiddlesSo_58 : decode cL_areMiddlesSo 58 = .ok (.istore 7, 2) := by decide +kernel
theorem dL_areMiddlesSo_60 : decode cL_areMiddlesSo 60 = .ok (.iload 5, 2) := by decide +kernel
theorem dL_areMiddlesSo_62 : decode cL_areMiddlesSo 62 = .ok (.ifCond .eq 18, 3) := by decide +kernel
theorem dL_areMiddlesSo_65 : decode cL_areMiddlesSo 65 = .ok (.aload_n 0, 1) := by decide +kernel
theorem dL_areMiddlesSo_66 : decode cL_areMiddlesSo 66 = .ok (.iload 7, 2) := by decide +kernel
theorem dL_areMiddlesSo_68 : decode cL_areMiddlesSo 68 = .ok (.iload 6, 2) := by decide +kernel
theorem dL_areMiddlesSo_70 : decode cL_areMiddlesSo 70 = .ok (.invokestatic 76, 3) := by decide +kernel
theorem dL_areMiddlesSo_73 : decode cL_areMiddlesSo 73 = .ok (.ifCond .eq 7, 3) := by decide +kernel
theorem dL_areMiddlesSo_76 : decode cL_areMiddlesSo 76 = .ok (.iconst 1, 1) := by decide +kernel
theorem dL_areMiddlesSo_77 : decode cL_areMiddlesSo 77 = .ok (.goto 4, 3) := by decide +kernel
theorem dL_areMiddlesSo_80 : decode cL_areMiddlesSo 80 = .ok (.iconst 0, 1) := by decide +kernel
theorem dL_areMiddlesSo_81 : decode cL_areMiddlesSo 81 = .ok (.istore 5, 2) := by decide +kernel
theorem dL_areMiddlesSo_83 : decode cL_areMiddlesSo 83 = .ok (.iload_n 1, 1) := by decide +kernel
theorem dL_areMiddlesSo_84 : decode cL_areMiddlesSo 84 = .ok (.iconst (-1), 1) := by decide +kernel
theorem dL_areMiddlesSo_85 : decode cL_areMiddlesSo 85 = .ok (.if_icmp .eq 32, 3) := by decide +kernel
theorem dL_areMiddlesSo_88 : decode cL_areMiddlesSo 88 = .ok (.iload 7, 2) := by decide +kernel
theorem dL_areMiddlesSo_90 : decode cL_areMiddlesSo 90 = .ok (.iconst (-1), 1) := by decide +kernel
theorem dL_areMiddlesSo_91 : decode cL_areMiddlesSo 91 = .ok (.if_icmp .eq 26, 3) := by decide +kernel
theorem dL_areMiddlesSo_94 : decode cL_areMiddlesSo 94 = .ok (.iload 7, 2) := by decide +kernel
theorem dL_areMiddlesSo_96 : decode cL_areMiddlesSo 96 = .ok (.iload_n 1, 1) := by decide +kernel
theorem dL_areMiddlesSo_97 : decode cL_areMiddlesSo 97 = .ok (.isub, 1) := by decide +kernel
theorem dL_areMiddlesSo_98 : decode cL_areMiddlesSo 98 = .ok (.invokestatic 53, 3) := by decide +kernel
theorem dL_areMiddlesSo_101 : decode cL_areMiddlesSo 101 = .ok (.iload_n 3, 1) := by decide +kernel
theorem dL_areMiddlesSo_102 : decode cL_areMiddlesSo 102 = .ok (.if_icmp .le 15, 3) := by decide +kernel
theorem dL_areMiddlesSo_105 : decode cL_areMiddlesSo 105 = .ok (.iload 6, 2) := by decide +kernel
theorem dL_areMiddlesSo_107 : decode cL_areMiddlesSo 107 = .ok (.istore 4, 2) := by decide +kernel
theorem dL_areMiddlesSo_109 : decode cL_areMiddlesSo 109 = .ok (.iload 7, 2) := by decide +kernel
theorem dL_areMiddlesSo_111 : decode cL_areMiddlesSo 111 = .ok (.iload_n 1, 1) := by decide +kernel
theorem dL_areMiddlesSo_112 : decode cL_areMiddlesSo 112 = .ok (.isub, 1) := by decide +kernel
theorem dL_areMiddlesSo_113 : decode cL_areMiddlesSo 113 = .ok (.invokestatic 53, 3) := by decide +kernel
theorem dL_areMiddlesSo_116 : decode cL_areMiddlesSo 116 = .ok (.istore_n 3, 1) := by decide +kernel
theorem dL_areMiddlesSo_117 : decode cL_areMiddlesSo 117 = .ok (.iinc 6 1, 3) := by decide +kernel
theorem dL_areMiddlesSo_120 : decode cL_areMiddlesSo 120 = .ok (.goto (-75), 3) := by decide +kernel
theorem dL_areMiddlesSo_123 : decode cL_areMiddlesSo 123 = .ok (.iload 5, 2) := by decide +kernel
theorem dL_areMiddlesSo_125 : decode cL_areMiddlesSo 125 = .ok (.ifCond .eq 13, 3) := by decide +kernel
theorem dL_areMiddlesSo_128 : decode cL_areMiddlesSo 128 = .ok (.iload_n 2, 1) := by decide +kernel
theorem dL_areMiddlesSo_129 : decode cL_areMiddlesSo 129 = .ok (.iload 4, 2) := by decide +kernel
theorem dL_areMiddlesSo_131 : decode cL_areMiddlesSo 131 = .ok (.if_icmp .ne 7, 3) := by decide +kernel
theorem dL_areMiddlesSo_134 : decode cL_areMiddlesSo 134 = .ok (.iconst 1, 1) := by decide +kernel
theorem dL_areMiddlesSo_135 : decode cL_areMiddlesSo 135 = .ok (.goto 4, 3) := by decide +kernel
theorem dL_areMiddlesSo_138 : decode cL_areMiddlesSo 138 = .ok (.iconst 0, 1) := by decide +kernel
theorem dL_areMiddlesSo_139 : decode cL_areMiddlesSo 139 = .ok (.ireturn, 1) := by decide +kernel
theorem dL_isVoteSo_0 : decode cL_isVoteSo 0 = .ok (.aload_n 0, 1) := by decide +kernel
theorem dL_isVoteSo_1 : decode cL_isVoteSo 1 = .ok (.iconst 4, 1) := by decide +kernel
theorem dL_isVoteSo_2 : decode cL_isVoteSo 2 = .ok (.invokevirtual 20, 3) := by decide +kernel
theorem dL_isVoteSo_5 : decode cL_isVoteSo 5 = .ok (.ifCond .ne 5, 3) := by decide +kernel
theorem dL_isVoteSo_8 : decode cL_isVoteSo 8 = .ok (.iconst 1, 1) := by decide +kernel
theorem dL_isVoteSo_9 : decode cL_isVoteSo 9 = .ok (.ireturn, 1) := by decide +kernel
theorem dL_isVoteSo_10 : decode cL_isVoteSo 10 = .ok (.aload_n 0, 1) := by decide +kernel
theorem dL_isVoteSo_11 : decode cL_isVoteSo 11 = .ok (.iconst 2, 1) := by decide +kernel
theorem dL_isVoteSo_12 : decode cL_isVoteSo 12 = .ok (.invokevirtual 20, 3) := by decide +kernel
theorem dL_isVoteSo_15 : decode cL_isVoteSo 15 = .ok (.istore_n 1, 1) := by decide +kernel
theorem dL_isVoteSo_16 : decode cL_isVoteSo 16 = .ok (.aload_n 0, 1) := by decide +kernel
theorem dL_isVoteSo_17 : decode cL_isVoteSo 17 = .ok (.iconst 1, 1) := by decide +kernel
theorem dL_isVoteSo_18 : decode cL_isVoteSo 18 = .ok (.invokevirtual 20, 3) := by decide +kernel
theorem dL_isVoteSo_21 : decode cL_isVoteSo 21 = .ok (.istore_n 2, 1) := by decide +kernel
theorem dL_isVoteSo_22 : decode cL_isVoteSo 22 = .ok (.aload_n 0, 1) := by decide +kernel
theorem dL_isVoteSo_23 : decode cL_isVoteSo 23 = .ok (.bipush 7, 2) := by decide +kernel
theorem dL_isVoteSo_25 : decode cL_isVoteSo 25 = .ok (.invokevirtual 20, 3) := by decide +kernel
theorem dL_isVoteSo_28 : decode cL_isVoteSo 28 = .ok (.istore_n 3, 1) := by decide +kernel
theorem dL_isVoteSo_29 : decode cL_isVoteSo 29 = .ok (.aload_n 0, 1) := by decide +kernel
theorem dL_isVoteSo_30 : decode cL_isVoteSo 30 = .ok (.iconst 5, 1) := by decide +kernel
theorem dL_isVoteSo_31 : decode cL_isVoteSo 31 = .ok (.invokevirtual 20, 3) := by decide +kernel
theorem dL_isVoteSo_34 : decode cL_isVoteSo 34 = .ok (.istore 4, 2) := by decide +kernel
theorem dL_isVoteSo_36 : decode cL_isVoteSo 36 = .ok (.aload_n 0, 1) := by decide +kernel
theorem dL_isVoteSo_37 : decode cL_isVoteSo 37 = .ok (.iconst 4, 1) := by decide +kernel
theorem dL_isVoteSo_38 : decode cL_isVoteSo 38 = .ok (.invokevirtual 20, 3) := by decide +kernel
theorem dL_isVoteSo_41 : decode cL_isVoteSo 41 = .ok (.istore 5, 2) := by decide +kernel
theorem dL_isVoteSo_43 : decode cL_isVoteSo 43 = .ok (.iconst 0, 1) := by decide +kernel
theorem dL_isVoteSo_44 : decode cL_isVoteSo 44 = .ok (.istore 6, 2) := by decide +kernel
theorem dL_isVoteSo_46 : decode cL_isVoteSo 46 = .ok (.iconst 0, 1) := by decide +kernel
theorem dL_isVoteSo_47 : decode cL_isVoteSo 47 = .ok (.istore 7, 2) := by decide +kernel
theorem dL_isVoteSo_49 : decode cL_isVoteSo 49 = .ok (.iload 7, 2) := by decide +kernel
theorem dL_isVoteSo_51 : decode cL_isVoteSo 51 = .ok (.bipush 7, 2) := by decide +kernel
theorem dL_isVoteSo_53 : decode cL_isVoteSo 53 = .ok (.if_icmp .ge 21, 3) := by decide +kernel
theorem dL_isVoteSo_56 : decode cL_isVoteSo 56 = .ok (.iload 6, 2) := by decide +kernel
theorem dL_isVoteSo_58 : decode cL_isVoteSo 58 = .ok (.aload_n 0, 1) := by decide +kernel
theorem dL_isVoteSo_59 : decode cL_isVoteSo 59 = .ok (.iload 7, 2) := by decide +kernel
theorem dL_isVoteSo_61 : decode cL_isVoteSo 61 = .ok (.iconst 3, 1) := by decide +kernel
theorem dL_isVoteSo_62 : decode cL_isVoteSo 62 = .ok (.invokevirtual 59, 3) := by decide +kernel
theorem dL_isVoteSo_65 : decode cL_isVoteSo 65 = .ok (.iadd, 1) := by decide +kernel
theorem dL_isVoteSo_66 : decode cL_isVoteSo 66 = .ok (.istore 6, 2) := by decide +kernel
theorem dL_isVoteSo_68 : decode cL_isVoteSo 68 = .ok (.iinc 7 1, 3) := by decide +kernel
theorem dL_isVoteSo_71 : decode cL_isVoteSo 71 = .ok (.goto (-22), 3) := by decide +kernel
theorem dL_isVoteSo_74 : decode cL_isVoteSo 74 = .ok (.aload_n 0, 1) := by decide +kernel
theorem dL_isVoteSo_75 : decode cL_isVoteSo 75 = .ok (.invokevirtual 23, 3) := by decide +kernel
theorem dL_isVoteSo_78 : decode cL_isVoteSo 78 = .ok (.istore 7, 2) := by decide +kernel
theorem dL_isVoteSo_80 : decode cL_isVoteSo 80 = .ok (.iconst 0, 1) := by decide +kernel
theorem dL_isVoteSo_81 : decode cL_isVoteSo 81 = .ok (.istore 8, 2) := by decide +kernel
theorem dL_isVoteSo_83 : decode cL_isVoteSo 83 = .ok (.iconst 0, 1) := by decide +kernel
theorem dL_isVoteSo_84 : decode cL_isVoteSo 84 = .ok (.istore 9, 2) := by decide +kernel
theorem dL_isVoteSo_86 : decode cL_isVoteSo 86 = .ok (.iload 9, 2) := by decide +kernel
theorem dL_isVoteSo_88 : decode cL_isVoteSo 88 = .ok (.bipush 7, 2) := by decide +kernel
theorem dL_isVoteSo_90 : decode cL_isVoteSo 90 = .ok (.if_icmp .ge 21, 3) := by decide +kernel
theorem dL_isVoteSo_93 : decode cL_isVoteSo 93 = .ok (.iload 8, 2) := by decide +kernel
theorem dL_isVoteSo_95 : decode cL_isVoteSo 95 = .ok (.aload_n 0, 1) := by decide +kernel
theorem dL_isVoteSo_96 : decode cL_isVoteSo 96 = .ok (.iload 9, 2) := by decide +kernel
theorem dL_isVoteSo_98 : decode cL_isVoteSo 98 = .ok (.iconst 3, 1) := by decide +kernel
theorem dL_isVoteSo_99 : decode cL_isVoteSo 99 = .ok (.invokevirtual 59, 3) := by decide +kernel
theorem dL_isVoteSo_102 : decode cL_isVoteSo 102 = .ok (.iadd, 1) := by decide +kernel
theorem dL_isVoteSo_103 : decode cL_isVoteSo 103 = .ok (.istore 8, 2) := by decide +kernel
theorem dL_isVoteSo_105 : decode cL_isVoteSo 105 = .ok (.iinc 9 1, 3) := by decide +kernel
theorem dL_isVoteSo_108 : decode cL_isVoteSo 108 = .ok (.goto (-22), 3) := by decide +kernel
theorem dL_isVoteSo_111 : decode cL_isVoteSo 111 = .ok (.iload 7, 2) := by decide +kernel
theorem dL_isVoteSo_113 : decode cL_isVoteSo 113 = .ok (.iload_n 1, 1) := by decide +kernel
theorem dL_isVoteSo_114 : decode cL_isVoteSo 114 = .ok (.iload_n 2, 1) := by decide +kernel
theorem dL_isVoteSo_115 : decode cL_isVoteSo 115 = .ok (.if_icmp .le 7, 3) := by decide +kernel
theorem dL_isVoteSo_118 : decode cL_isVoteSo 118 = .ok (.iload_n 1, 1) := by decide +kernel
theorem dL_isVoteSo_119 : decode cL_isVoteSo 119 = .ok (.goto 4, 3) := by decide +kernel
theorem dL_isVoteSo_122 : decode cL_isVoteSo 122 = .ok (.iload_n 2, 1) := by decide +kernel
theorem dL_isVoteSo_123 : decode cL_isVoteSo 123 = .ok (.if_icmp .ne 64, 3) := by decide +kernel
theorem dL_isVoteSo_126 : decode cL_isVoteSo 126 = .ok (.aload_n 0, 1) := by decide +kernel
theorem dL_isVoteSo_127 : decode cL_isVoteSo 127 = .ok (.iconst 1, 1) := by decide +kernel
theorem dL_isVoteSo_128 : decode cL_isVoteSo 128 = .ok (.invokevirtual 20, 3) := by decide +kernel
theorem dL_isVoteSo_131 : decode cL_isVoteSo 131 = .ok (.iload 7, 2) := by decide +kernel
theorem dL_isVoteSo_133 : decode cL_isVoteSo 133 = .ok (.if_icmp .ne 54, 3) := by decide +kernel
theorem dL_isVoteSo_136 : decode cL_isVoteSo 136 = .ok (.aload_n 0, 1) := by decide +kernel
theorem dL_isVoteSo_137 : decode cL_isVoteSo 137 = .ok (.bipush 7, 2) := by decide +kernel
theorem dL_isVoteSo_139 : decode cL_isVoteSo 139 = .ok (.invokevirtual 20, 3) := by decide +kernel
theorem dL_isVoteSo_142 : decode cL_isVoteSo 142 = .ok (.iload_n 3, 1) := by decide +kernel
theorem dL_isVoteSo_143 : decode cL_isVoteSo 143 = .ok (.iload_n 1, 1) := by decide +kernel
theorem dL_isVoteSo_144 : decode cL_isVoteSo 144 = .ok (.iload_n 2, 1) := by decide +kernel
theorem dL_isVoteSo_145 : decode cL_isVoteSo 145 = .ok (.if_icmp .le 7, 3) := by decide +kernel
theorem dL_isVoteSo_148 : decode cL_isVoteSo 148 = .ok (.iconst 0, 1) := by decide +kernel
theorem dL_isVoteSo_149 : decode cL_isVoteSo 149 = .ok (.goto 4, 3) := by decide +kernel
theorem dL_isVoteSo_152 : decode cL_isVoteSo 152 = .ok (.iconst 1, 1) := by decide +kernel
theorem dL_isVoteSo_153 : decode cL_isVoteSo 153 = .ok (.iadd, 1) := by decide +kernel
theorem dL_isVoteSo_154 : decode cL_isVoteSo 154 = .ok (.if_icmp .ne 33, 3) := by decide +kernel
theorem dL_isVoteSo_157 : decode cL_isVoteSo 157 = .ok (.iload 5, 2) := by decide +kernel
theorem dL_isVoteSo_159 : decode cL_isVoteSo 159 = .ok (.aload_n 0, 1) := by decide +kernel
theorem dL_isVoteSo_160 : decode cL_isVoteSo 160 = .ok (.iconst 4, 1) := by decide +kernel
theorem dL_isVoteSo_161 : decode cL_isVoteSo 161 = .ok (.invokevirtual 20, 3) := by decide +kernel
theorem dL_isVoteSo_164 : decode cL_isVoteSo 164 = .ok (.isub, 1) := by decide +kernel
theorem dL_isVoteSo_165 : decode cL_isVoteSo 165 = .ok (.iload 8, 2) := by decide +kernel
theorem dL_isVoteSo_167 : decode cL_isVoteSo 167 = .ok (.iload 6, 2) := by decide +kernel
theorem dL_isVoteSo_169 : decode cL_isVoteSo 169 = .ok (.isub, 1) := by decide +kernel
theorem dL_isVoteSo_170 : decode cL_isVoteSo 170 = .ok (.if_icmp .ne 17, 3) := by decide +kernel
theorem dL_isVoteSo_173 : decode cL_isVoteSo 173 = .ok (.iload 8, 2) := by decide +kernel
theorem dL_isVoteSo_175 : decode cL_isVoteSo 175 = .ok (.iload 6, 2) := by decide +kernel
theorem dL_isVoteSo_177 : decode cL_isVoteSo 177 = .ok (.isub, 1) := by decide +kernel
theorem dL_isVoteSo_178 : decode cL_isVoteSo 178 = .ok (.iload 4, 2) := by decide +kernel
theorem dL_isVoteSo_180 : decode cL_isVoteSo 180 = .ok (.if_icmp .gt 7, 3) := by decide +kernel
theorem dL_isVoteSo_183 : decode cL_isVoteSo 183 = .ok (.iconst 1, 1) := by decide +kernel
theorem dL_isVoteSo_184 : decode cL_isVoteSo 184 = .ok (.goto 4, 3) := by decide +kernel
theorem dL_isVoteSo_187 : decode cL_isVoteSo 187 = .ok (.iconst 0, 1) := by decide +kernel
theorem dL_isVoteSo_188 : decode cL_isVoteSo 188 = .ok (.istore 9, 2) := by decide +kernel
theorem dL_isVoteSo_190 : decode cL_isVoteSo 190 = .ok (.aload_n 0, 1) := by decide +kernel
theorem dL_isVoteSo_191 : decode cL_isVoteSo 191 = .ok (.invokevirtual 47, 3) := by decide +kernel
theorem dL_isVoteSo_194 : decode cL_isVoteSo 194 = .ok (.istore 10, 2) := by decide +kernel
theorem dL_isVoteSo_196 : decode cL_isVoteSo 196 = .ok (.iload 9, 2) := by decide +kernel
theorem dL_isVoteSo_198 : decode cL_isVoteSo 198 = .ok (.ifCond .eq 31, 3) := by decide +kernel
theorem dL_isVoteSo_201 : decode cL_isVoteSo 201 = .ok (.iload 10, 2) := by decide +kernel
theorem dL_isVoteSo_203 : decode cL_isVoteSo 203 = .ok (.ifCond .lt 26, 3) := by decide +kernel
theorem dL_isVoteSo_206 : decode cL_isVoteSo 206 = .ok (.aload_n 0, 1) := by decide +kernel
theorem dL_isVoteSo_207 : decode cL_isVoteSo 207 = .ok (.iconst 1, 1) := by decide +kernel
theorem dL_isVoteSo_208 : decode cL_isVoteSo 208 = .ok (.invokevirtual 20, 3) := by decide +kernel
theorem dL_isVoteSo_211 : decode cL_isVoteSo 211 = .ok (.iload_n 2, 1) := by decide +kernel
theorem dL_isVoteSo_212 : decode cL_isVoteSo 212 = .ok (.if_icmp .ne 17, 3) := by decide +kernel
theorem dL_isVoteSo_215 : decode cL_isVoteSo 215 = .ok (.aload_n 0, 1) := by decide +kernel
theorem dL_isVoteSo_216 : decode cL_isVoteSo 216 = .ok (.iconst 4, 1) := by decide +kernel
theorem dL_isVoteSo_217 : decode cL_isVoteSo 217 = .ok (.invokevirtual 20, 3) := by decide +kernel
theorem dL_isVoteSo_220 : decode cL_isVoteSo 220 = .ok (.iload 5, 2) := by decide +kernel
theorem dL_isVoteSo_222 : decode cL_isVoteSo 222 = .ok (.if_icmp .ne 7, 3) := by decide +kernel
theorem dL_isVoteSo_225 : decode cL_isVoteSo 225 = .ok (.iconst 1, 1) := by decide +kernel
theorem dL_isVoteSo_226 : decode cL_isVoteSo 226 = .ok (.goto 4, 3) := by decide +kernel
theorem dL_isVoteSo_229 : decode cL_isVoteSo 229 = .ok (.iconst 0, 1) := by decide +kernel
theorem dL_isVoteSo_230 : decode cL_isVoteSo 230 = .ok (.ireturn, 1) := by decide +kernel
theorem dL_isCorrectSo_0 : decode cL_isCorrectSo 0 = .ok (.iconst 0, 1) := by decide +kernel
theorem dL_isCorrectSo_1 : decode cL_isCorrectSo 1 = .ok (.istore_n 1, 1) := by decide +kernel
theorem dL_isCorrectSo_2 : decode cL_isCorrectSo 2 = .ok (.iconst 0, 1) := by decide +kernel
theorem dL_isCorrectSo_3 : decode cL_isCorrectSo 3 = .ok (.istore_n 2, 1) := by decide +kernel
theorem dL_isCorrectSo_4 : decode cL_isCorrectSo 4 = .ok (.iload_n 2, 1) := by decide +kernel
theorem dL_isCorrectSo_5 : decode cL_isCorrectSo 5 = .ok (.bipush 7, 2) := by decide +kernel
theorem dL_isCorrectSo_7 : decode cL_isCorrectSo 7 = .ok (.if_icmp .ge 43, 3) := by decide +kernel
theorem dL_isCorrectSo_10 : decode cL_isCorrectSo 10 = .ok (.aload_n 0, 1) := by decide +kernel
theorem dL_isCorrectSo_11 : decode cL_isCorrectSo 11 = .ok (.iload_n 2, 1) := by decide +kernel
theorem dL_isCorrectSo_12 : decode cL_isCorrectSo 12 = .ok (.iconst 0, 1) := by decide +kernel
theorem dL_isCorrectSo_13 : decode cL_isCorrectSo 13 = .ok (.invokevirtual 50, 3) := by decide +kernel
theorem dL_isCorrectSo_16 : decode cL_isCorrectSo 16 = .ok (.aload_n 0, 1) := by decide +kernel
theorem dL_isCorrectSo_17 : decode cL_isCorrectSo 17 = .ok (.iconst 1, 1) := by decide +kernel
theorem dL_isCorrectSo_18 : decode cL_isCorrectSo 18 = .ok (.invokevirtual 20, 3) := by decide +kernel
theorem dL_isCorrectSo_21 : decode cL_isCorrectSo 21 = .ok (.isub, 1) := by decide +kernel
theorem dL_isCorrectSo_22 : decode cL_isCorrectSo 22 = .ok (.invokestatic 53, 3) := by decide +kernel
theorem dL_isCorrectSo_25 : decode cL_isCorrectSo 25 = .ok (.aload_n 0, 1) := by decide +kernel
theorem dL_isCorrectSo_26 : decode cL_isCorrectSo 26 = .ok (.iconst 1, 1) := by decide +kernel
theorem dL_isCorrectSo_27 : decode cL_isCorrectSo 27 = .ok (.invokevirtual 56, 3) := by decide +kernel
theorem dL_isCorrectSo_30 : decode cL_isCorrectSo 30 = .ok (.isub, 1) := by decide +kernel
theorem dL_isCorrectSo_31 : decode cL_isCorrectSo 31 = .ok (.istore_n 3, 1) := by decide +kernel
theorem dL_isCorrectSo_32 : decode cL_isCorrectSo 32 = .ok (.iload_n 1, 1) := by decide +kernel
theorem dL_isCorrectSo_33 : decode cL_isCorrectSo 33 = .ok (.iload_n 3, 1) := by decide +kernel
theorem dL_isCorrectSo_34 : decode cL_isCorrectSo 34 = .ok (.ifCond .le 7, 3) := by decide +kernel
theorem dL_isCorrectSo_37 : decode cL_isCorrectSo 37 = .ok (.iload_n 3, 1) := by decide +kernel
theorem dL_isCorrectSo_38 : decode cL_isCorrectSo 38 = .ok (.goto 4, 3) := by decide +kernel
theorem dL_isCorrectSo_41 : decode cL_isCorrectSo 41 = .ok (.iconst 0, 1) := by decide +kernel
theorem dL_isCorrectSo_42 : decode cL_isCorrectSo 42 = .ok (.iadd, 1) := by decide +kernel
theorem dL_isCorrectSo_43 : decode cL_isCorrectSo 43 = .ok (.istore_n 1, 1) := by decide +kernel
theorem dL_isCorrectSo_44 : decode cL_isCorrectSo 44 = .ok (.iinc 2 1, 3) := by decide +kernel
theorem dL_isCorrectSo_47 : decode cL_isCorrectSo 47 = .ok (.goto (-43), 3) := by decide +kernel
theorem dL_isCorrectSo_50 : decode cL_isCorrectSo 50 = .ok (.aload_n 0, 1) := by decide +kernel
theorem dL_isCorrectSo_51 : decode cL_isCorrectSo 51 = .ok (.bipush 9, 2) := by decide +kernel
theorem dL_isCorrectSo_53 : decode cL_isCorrectSo 53 = .ok (.invokevirtual 20, 3) := by decide +kernel
theorem dL_isCorrectSo_56 : decode cL_isCorrectSo 56 = .ok (.istore_n 2, 1) := by decide +kernel
theorem dL_isCorrectSo_57 : decode cL_isCorrectSo 57 = .ok (.aload_n 0, 1) := by decide +kernel
theorem dL_isCorrectSo_58 : decode cL_isCorrectSo 58 = .ok (.bipush 10, 2) := by decide +kernel
theorem dL_isCorrectSo_60 : decode cL_isCorrectSo 60 = .ok (.invokevirtual 20, 3) := by decide +kernel
theorem dL_isCorrectSo_63 : decode cL_isCorrectSo 63 = .ok (.istore_n 3, 1) := by decide +kernel
theorem dL_isCorrectSo_64 : decode cL_isCorrectSo 64 = .ok (.aload_n 0, 1) := by decide +kernel
theorem dL_isCorrectSo_65 : decode cL_isCorrectSo 65 = .ok (.invokevirtual 27, 3) := by decide +kernel
theorem dL_isCorrectSo_68 : decode cL_isCorrectSo 68 = .ok (.istore 4, 2) := by decide +kernel
theorem dL_isCorrectSo_70 : decode cL_isCorrectSo 70 = .ok (.iload 4, 2) := by decide +kernel
theorem dL_isCorrectSo_72 : decode cL_isCorrectSo 72 = .ok (.iload_n 1, 1) := by decide +kernel
theorem dL_isCorrectSo_73 : decode cL_isCorrectSo 73 = .ok (.if_icmp .ne 45, 3) := by decide +kernel
theorem dL_isCorrectSo_76 : decode cL_isCorrectSo 76 = .ok (.aload_n 0, 1) := by decide +kernel
theorem dL_isCorrectSo_77 : decode cL_isCorrectSo 77 = .ok (.bipush 9, 2) := by decide +kernel
theorem dL_isCorrectSo_79 : decode cL_isCorrectSo 79 = .ok (.invokevirtual 20, 3) := by decide +kernel
theorem dL_isCorrectSo_82 : decode cL_isCorrectSo 82 = .ok (.aload_n 0, 1) := by decide +kernel
theorem dL_isCorrectSo_83 : decode cL_isCorrectSo 83 = .ok (.bipush 10, 2) := by decide +kernel
theorem dL_isCorrectSo_85 : decode cL_isCorrectSo 85 = .ok (.invokevirtual 20, 3) := by decide +kernel
theorem dL_isCorrectSo_88 : decode cL_isCorrectSo 88 = .ok (.iadd, 1) := by decide +kernel
theorem dL_isCorrectSo_89 : decode cL_isCorrectSo 89 = .ok (.iload_n 2, 1) := by decide +kernel
theorem dL_isCorrectSo_90 : decode cL_isCorrectSo 90 = .ok (.iload_n 3, 1) := by decide +kernel
theorem dL_isCorrectSo_91 : decode cL_isCorrectSo 91 = .ok (.iadd, 1) := by decide +kernel
theorem dL_isCorrectSo_92 : decode cL_isCorrectSo 92 = .ok (.iload 4, 2) := by decide +kernel
theorem dL_isCorrectSo_94 : decode cL_isCorrectSo 94 = .ok (.iadd, 1) := by decide +kernel
theorem dL_isCorrectSo_95 : decode cL_isCorrectSo 95 = .ok (.if_icmp .ne 23, 3) := by decide +kernel
theorem dL_isCorrectSo_98 : decode cL_isCorrectSo 98 = .ok (.aload_n 0, 1) := by decide +kernel
theorem dL_isCorrectSo_99 : decode cL_isCorrectSo 99 = .ok (.bipush 11, 2) := by decide +kernel
theorem dL_isCorrectSo_101 : decode cL_isCorrectSo 101 = .ok (.invokevirtual 20, 3) := by decide +kernel
theorem dL_isCorrectSo_104 : decode cL_isCorrectSo 104 = .ok (.ifCond .ne 14, 3) := by decide +kernel
theorem dL_isCorrectSo_107 : decode cL_isCorrectSo 107 = .ok (.aload_n 0, 1) := by decide +kernel
theorem dL_isCorrectSo_108 : decode cL_isCorrectSo 108 = .ok (.invokevirtual 27, 3) := by decide +kernel
theorem dL_isCorrectSo_111 : decode cL_isCorrectSo 111 = .ok (.ifCond .ne 7, 3) := by decide +kernel
theorem dL_isCorrectSo_114 : decode cL_isCorrectSo 114 = .ok (.iconst 1, 1) := by decide +kernel
theorem dL_isCorrectSo_115 : decode cL_isCorrectSo 115 = .ok (.goto 4, 3) := by decide +kernel
theorem dL_isCorrectSo_118 : decode cL_isCorrectSo 118 = .ok (.iconst 0, 1) := by decide +kernel
theorem dL_isCorrectSo_119 : decode cL_isCorrectSo 119 = .ok (.istore 5, 2) := by decide +kernel
theorem dL_isCorrectSo_121 : decode cL_isCorrectSo 121 = .ok (.aload_n 0, 1) := by decide +kernel
theorem dL_isCorrectSo_122 : decode cL_isCorrectSo 122 = .ok (.invokevirtual 47, 3) := by decide +kernel
theorem dL_isCorrectSo_125 : decode cL_isCorrectSo 125 = .ok (.istore 6, 2) := by decide +kernel
theorem dL_isCorrectSo_127 : decode cL_isCorrectSo 127 = .ok (.aload_n 0, 1) := by decide +kernel
theorem dL_isCorrectSo_128 : decode cL_isCorrectSo 128 = .ok (.invokevirtual 47, 3) := by decide +kernel
theorem dL_isCorrectSo_131 : decode cL_isCorrectSo 131 = .ok (.istore 6, 2) := by decide +kernel
theorem dL_isCorrectSo_133 : decode cL_isCorrectSo 133 = .ok (.iload 5, 2) := by decide +kernel
theorem dL_isCorrectSo_135 : decode cL_isCorrectSo 135 = .ok (.ifCond .eq 32, 3) := by decide +kernel
theorem dL_isCorrectSo_138 : decode cL_isCorrectSo 138 = .ok (.iload 6, 2) := by decide +kernel
theorem dL_isCorrectSo_140 : decode cL_isCorrectSo 140 = .ok (.ifCond .lt 27, 3) := by decide +kernel
theorem dL_isCorrectSo_143 : decode cL_isCorrectSo 143 = .ok (.aload_n 0, 1) := by decide +kernel
theorem dL_isCorrectSo_144 : decode cL_isCorrectSo 144 = .ok (.bipush 9, 2) := by decide +kernel
theorem dL_isCorrectSo_146 : decode cL_isCorrectSo 146 = .ok (.invokevirtual 20, 3) := by decide +kernel
theorem dL_isCorrectSo_149 : decode cL_isCorrectSo 149 = .ok (.iload_n 2, 1) := by decide +kernel
theorem dL_isCorrectSo_150 : decode cL_isCorrectSo 150 = .ok (.if_icmp .ne 17, 3) := by decide +kernel
theorem dL_isCorrectSo_153 : decode cL_isCorrectSo 153 = .ok (.aload_n 0, 1) := by decide +kernel
theorem dL_isCorrectSo_154 : decode cL_isCorrectSo 154 = .ok (.bipush 10, 2) := by decide +kernel
theorem dL_isCorrectSo_156 : decode cL_isCorrectSo 156 = .ok (.invokevirtual 20, 3) := by decide +kernel
theorem dL_isCorrectSo_159 : decode cL_isCorrectSo 159 = .ok (.iload_n 3, 1) := by decide +kernel
theorem dL_isCorrectSo_160 : decode cL_isCorrectSo 160 = .ok (.if_icmp .ne 7, 3) := by decide +kernel
theorem dL_isCorrectSo_163 : decode cL_isCorrectSo 163 = .ok (.iconst 1, 1) := by decide +kernel
theorem dL_isCorrectSo_164 : decode cL_isCorrectSo 164 = .ok (.goto 4, 3) := by decide +kernel
theorem dL_isCorrectSo_167 : decode cL_isCorrectSo 167 = .ok (.iconst 0, 1) := by decide +kernel
theorem dL_isCorrectSo_168 : decode cL_isCorrectSo 168 = .ok (.ireturn, 1) := by decide +kernel
theorem dL_isLaterSo_0 : decode cL_isLaterSo 0 = .ok (.aload_n 0, 1) := by decide +kernel
theorem dL_isLaterSo_1 : decode cL_isLaterSo 1 = .ok (.iload_n 1, 1) := by decide +kernel
theorem dL_isLaterSo_2 : decode cL_isLaterSo 2 = .ok (.invokevirtual 83, 3) := by decide +kernel
theorem dL_isLaterSo_5 : decode cL_isLaterSo 5 = .ok (.istore_n 2, 1) := by decide +kernel
theorem dL_isLaterSo_6 : decode cL_isLaterSo 6 = .ok (.aload_n 0, 1) := by decide +kernel
theorem dL_isLaterSo_7 : decode cL_isLaterSo 7 = .ok (.iload_n 1, 1) := by decide +kernel
theorem dL_isLaterSo_8 : decode cL_isLaterSo 8 = .ok (.invokevirtual 62, 3) := by decide +kernel
theorem dL_isLaterSo_11 : decode cL_isLaterSo 11 = .ok (.istore_n 3, 1) := by decide +kernel
theorem dL_isLaterSo_12 : decode cL_isLaterSo 12 = .ok (.aload_n 0, 1) := by decide +kernel
theorem dL_isLaterSo_13 : decode cL_isLaterSo 13 = .ok (.iload_n 1, 1) := by decide +kernel
theorem dL_isLaterSo_14 : decode cL_isLaterSo 14 = .ok (.iconst 4, 1) := by decide +kernel
theorem dL_isLaterSo_15 : decode cL_isLaterSo 15 = .ok (.invokevirtual 50, 3) := by decide +kernel
theorem dL_isLaterSo_18 : decode cL_isLaterSo 18 = .ok (.istore 4, 2) := by decide +kernel
theorem dL_isLaterSo_20 : decode cL_isLaterSo 20 = .ok (.aload_n 0, 1) := by decide +kernel
theorem dL_isLaterSo_21 : decode cL_isLaterSo 21 = .ok (.iload_n 1, 1) := by decide +kernel
theorem dL_isLaterSo_22 : decode cL_isLaterSo 22 = .ok (.invokevirtual 86, 3) := by decide +kernel
theorem dL_isLaterSo_25 : decode cL_isLaterSo 25 = .ok (.istore 5, 2) := by decide +kernel
theorem dL_isLaterSo_27 : decode cL_isLaterSo 27 = .ok (.iload_n 2, 1) := by decide +kernel
theorem dL_isLaterSo_28 : decode cL_isLaterSo 28 = .ok (.iconst (-1), 1) := by decide +kernel
theorem dL_isLaterSo_29 : decode cL_isLaterSo 29 = .ok (.if_icmp .eq 14, 3) := by decide +kernel
theorem dL_isLaterSo_32 : decode cL_isLaterSo 32 = .ok (.iload_n 2, 1) := by decide +kernel
theorem dL_isLaterSo_33 : decode cL_isLaterSo 33 = .ok (.ifCond .le 14, 3) := by decide +kernel
theorem dL_isLaterSo_36 : decode cL_isLaterSo 36 = .ok (.iload_n 2, 1) := by decide +kernel
theorem dL_isLaterSo_37 : decode cL_isLaterSo 37 = .ok (.sipush 200, 3) := by decide +kernel
theorem dL_isLaterSo_40 : decode cL_isLaterSo 40 = .ok (.if_icmp .gt 7, 3) := by decide +kernel
theorem dL_isLaterSo_43 : decode cL_isLaterSo 43 = .ok (.iconst 1, 1) := by decide +kernel
theorem dL_isLaterSo_44 : decode cL_isLaterSo 44 = .ok (.goto 4, 3) := by decide +kernel
theorem dL_isLaterSo_47 : decode cL_isLaterSo 47 = .ok (.iconst 0, 1) := by decide +kernel
theorem dL_isLaterSo_48 : decode cL_isLaterSo 48 = .ok (.istore 6, 2) := by decide +kernel
theorem dL_isLaterSo_50 : decode cL_isLaterSo 50 = .ok (.iload_n 2, 1) := by decide +kernel
theorem dL_isLaterSo_51 : decode cL_isLaterSo 51 = .ok (.ifCond .le 139, 3) := by decide +kernel
theorem dL_isLaterSo_54 : decode cL_isLaterSo 54 = .ok (.iload_n 2, 1) := by decide +kernel
theorem dL_isLaterSo_55 : decode cL_isLaterSo 55 = .ok (.bipush 100, 2) := by decide +kernel
theorem dL_isLaterSo_57 : decode cL_isLaterSo 57 = .ok (.if_icmp .ge 133, 3) := by decide +kernel
theorem dL_isLaterSo_60 : decode cL_isLaterSo 60 = .ok (.iload_n 2, 1) := by decide +kernel
theorem dL_isLaterSo_61 : decode cL_isLaterSo 61 = .ok (.iconst 1, 1) := by decide +kernel
theorem dL_isLaterSo_62 : decode cL_isLaterSo 62 = .ok (.if_icmp .ne 7, 3) := by decide +kernel
theorem dL_isLaterSo_65 : decode cL_isLaterSo 65 = .ok (.iconst 0, 1) := by decide +kernel
theorem dL_isLaterSo_66 : decode cL_isLaterSo 66 = .ok (.goto 10, 3) := by decide +kernel
theorem dL_isLaterSo_69 : decode cL_isLaterSo 69 = .ok (.aload_n 0, 1) := by decide +kernel
theorem dL_isLaterSo_70 : decode cL_isLaterSo 70 = .ok (.iload_n 2, 1) := by decide +kernel
theorem dL_isLaterSo_71 : decode cL_isLaterSo 71 = .ok (.iconst 1, 1) := by decide +kernel
theorem dL_isLaterSo_72 : decode cL_isLaterSo 72 = .ok (.isub, 1) := by decide +kernel
theorem dL_isLaterSo_73 : decode cL_isLaterSo 73 = .ok (.invokevirtual 14, 3) := by decide +kernel
theorem dL_isLaterSo_76 : decode cL_isLaterSo 76 = .ok (.istore 7, 2) := by decide +kernel
theorem dL_isLaterSo_78 : decode cL_isLaterSo 78 = .ok (.iload 6, 2) := by decide +kernel
theorem dL_isLaterSo_80 : decode cL_isLaterSo 80 = .ok (.ifCond .eq 23, 3) := by decide +kernel
theorem dL_isLaterSo_83 : decode cL_isLaterSo 83 = .ok (.iload 7, 2) := by decide +kernel
theorem dL_isLaterSo_85 : decode cL_isLaterSo 85 = .ok (.ifCond .lt 18, 3) := by decide +kernel
theorem dL_isLaterSo_88 : decode cL_isLaterSo 88 = .ok (.aload_n 0, 1) := by decide +kernel
theorem dL_isLaterSo_89 : decode cL_isLaterSo 89 = .ok (.iload_n 1, 1) := by decide +kernel
theorem dL_isLaterSo_90 : decode cL_isLaterSo 90 = .ok (.iconst 4, 1) := by decide +kernel
theorem dL_isLaterSo_91 : decode cL_isLaterSo 91 = .ok (.invokevirtual 50, 3) := by decide +kernel
theorem dL_isLaterSo_94 : decode cL_isLaterSo 94 = .ok (.iload 4, 2) := by decide +kernel
theorem dL_isLaterSo_96 : decode cL_isLaterSo 96 = .ok (.if_icmp .ne 7, 3) := by decide +kernel
theorem dL_isLaterSo_99 : decode cL_isLaterSo 99 = .ok (.iconst 1, 1) := by decide +kernel
theorem dL_isLaterSo_100 : decode cL_isLaterSo 100 = .ok (.goto 4, 3) := by decide +kernel
theorem dL_isLaterSo_103 : decode cL_isLaterSo 103 = .ok (.iconst 0, 1) := by decide +kernel
theorem dL_isLaterSo_104 : decode cL_isLaterSo 104 = .ok (.istore 6, 2) := by decide +kernel
theorem dL_isLaterSo_106 : decode cL_isLaterSo 106 = .ok (.aload_n 0, 1) := by decide +kernel
theorem dL_isLaterSo_107 : decode cL_isLaterSo 107 = .ok (.iconst 1, 1) := by decide +kernel
theorem dL_isLaterSo_108 : decode cL_isLaterSo 108 = .ok (.invokevirtual 14, 3) := by decide +kernel
theorem dL_isLaterSo_111 : decode cL_isLaterSo 111 = .ok (.istore 7, 2) := by decide +kernel
theorem dL_isLaterSo_113 : decode cL_isLaterSo 113 = .ok (.iload 6, 2) := by decide +kernel
theorem dL_isLaterSo_115 : decode cL_isLaterSo 115 = .ok (.ifCond .eq 23, 3) := by decide +kernel
theorem dL_isLaterSo_118 : decode cL_isLaterSo 118 = .ok (.iload 7, 2) := by decide +kernel
theorem dL_isLaterSo_120 : decode cL_isLaterSo 120 = .ok (.ifCond .le 18, 3) := by decide +kernel
theorem dL_isLaterSo_123 : decode cL_isLaterSo 123 = .ok (.aload_n 0, 1) := by decide +kernel
theorem dL_isLaterSo_124 : decode cL_isLaterSo 124 = .ok (.iload_n 1, 1) := by decide +kernel
theorem dL_isLaterSo_125 : decode cL_isLaterSo 125 = .ok (.iconst 4, 1) := by decide +kernel
theorem dL_isLaterSo_126 : decode cL_isLaterSo 126 = .ok (.invokevirtual 50, 3) := by decide +kernel
theorem dL_isLaterSo_129 : decode cL_isLaterSo 129 = .ok (.iload 4, 2) := by decide +kernel
theorem dL_isLaterSo_131 : decode cL_isLaterSo 131 = .ok (.if_icmp .le 7, 3) := by decide +kernel
theorem dL_isLaterSo_134 : decode cL_isLaterSo 134 = .ok (.iconst 1, 1) := by decide +kernel
theorem dL_isLaterSo_135 : decode cL_isLaterSo 135 = .ok (.goto 4, 3) := by decide +kernel
theorem dL_isLaterSo_138 : decode cL_isLaterSo 138 = .ok (.iconst 0, 1) := by decide +kernel
theorem dL_isLaterSo_139 : decode cL_isLaterSo 139 = .ok (.istore 6, 2) := by decide +kernel
theorem dL_isLaterSo_141 : decode cL_isLaterSo 141 = .ok (.aload_n 0, 1) := by decide +kernel
theorem dL_isLaterSo_142 : decode cL_isLaterSo 142 = .ok (.invokevirtual 47, 3) := by decide +kernel
theorem dL_isLaterSo_145 : decode cL_isLaterSo 145 = .ok (.istore 8, 2) := by decide +kernel
theorem dL_isLaterSo_147 : decode cL_isLaterSo 147 = .ok (.iload_n 2, 1) := by decide +kernel
theorem dL_isLaterSo_148 : decode cL_isLaterSo 148 = .ok (.iconst 1, 1) := by decide +kernel
theorem dL_isLaterSo_149 : decode cL_isLaterSo 149 = .ok (.if_icmp .ne 7, 3) := by decide +kernel
theorem dL_isLaterSo_152 : decode cL_isLaterSo 152 = .ok (.iconst 0, 1) := by decide +kernel
theorem dL_isLaterSo_153 : decode cL_isLaterSo 153 = .ok (.goto 7, 3) := by decide +kernel
theorem dL_isLaterSo_156 : decode cL_isLaterSo 156 = .ok (.aload_n 0, 1) := by decide +kernel
theorem dL_isLaterSo_157 : decode cL_isLaterSo 157 = .ok (.invokevirtual 47, 3) := by decide +kernel
theorem dL_isLaterSo_160 : decode cL_isLaterSo 160 = .ok (.istore 8, 2) := by decide +kernel
theorem dL_isLaterSo_162 : decode cL_isLaterSo 162 = .ok (.iload 6, 2) := by decide +kernel
theorem dL_isLaterSo_164 : decode cL_isLaterSo 164 = .ok (.ifCond .eq 23, 3) := by decide +kernel
theorem dL_isLaterSo_167 : decode cL_isLaterSo 167 = .ok (.iload 8, 2) := by decide +kernel
theorem dL_isLaterSo_169 : decode cL_isLaterSo 169 = .ok (.ifCond .lt 18, 3) := by decide +kernel
theorem dL_isLaterSo_172 : decode cL_isLaterSo 172 = .ok (.aload_n 0, 1) := by decide +kernel
theorem dL_isLaterSo_173 : decode cL_isLaterSo 173 = .ok (.iload_n 1, 1) := by decide +kernel
theorem dL_isLaterSo_174 : decode cL_isLaterSo 174 = .ok (.iconst 4, 1) := by decide +kernel
theorem dL_isLaterSo_175 : decode cL_isLaterSo 175 = .ok (.invokevirtual 50, 3) := by decide +kernel
theorem dL_isLaterSo_178 : decode cL_isLaterSo 178 = .ok (.iload 4, 2) := by decide +kernel
theorem dL_isLaterSo_180 : decode cL_isLaterSo 180 = .ok (.if_icmp .ne 7, 3) := by decide +kernel
theorem dL_isLaterSo_183 : decode cL_isLaterSo 183 = .ok (.iconst 1, 1) := by decide +kernel
theorem dL_isLaterSo_184 : decode cL_isLaterSo 184 = .ok (.goto 4, 3) := by decide +kernel
theorem dL_isLaterSo_187 : decode cL_isLaterSo 187 = .ok (.iconst 0, 1) := by decide +kernel
theorem dL_isLaterSo_188 : decode cL_isLaterSo 188 = .ok (.istore 6, 2) := by decide +kernel
theorem dL_isLaterSo_190 : decode cL_isLaterSo 190 = .ok (.iload_n 3, 1) := by decide +kernel
theorem dL_isLaterSo_191 : decode cL_isLaterSo 191 = .ok (.ifCond .le 73, 3) := by decide +kernel
theorem dL_isLaterSo_194 : decode cL_isLaterSo 194 = .ok (.iload_n 3, 1) := by decide +kernel
theorem dL_isLaterSo_195 : decode cL_isLaterSo 195 = .ok (.bipush 100, 2) := by decide +kernel
theorem dL_isLaterSo_197 : decode cL_isLaterSo 197 = .ok (.if_icmp .ge 67, 3) := by decide +kernel
theorem dL_isLaterSo_200 : decode cL_isLaterSo 200 = .ok (.aload_n 0, 1) := by decide +kernel
theorem dL_isLaterSo_201 : decode cL_isLaterSo 201 = .ok (.iload_n 3, 1) := by decide +kernel
theorem dL_isLaterSo_202 : decode cL_isLaterSo 202 = .ok (.invokevirtual 14, 3) := by decide +kernel
theorem dL_isLaterSo_205 : decode cL_isLaterSo 205 = .ok (.istore 7, 2) := by decide +kernel
theorem dL_isLaterSo_207 : decode cL_isLaterSo 207 = .ok (.iload 6, 2) := by decide +kernel
theorem dL_isLaterSo_209 : decode cL_isLaterSo 209 = .ok (.ifCond .eq 20, 3) := by decide +kernel
theorem dL_isLaterSo_212 : decode cL_isLaterSo 212 = .ok (.iload 7, 2) := by decide +kernel
theorem dL_isLaterSo_214 : decode cL_isLaterSo 214 = .ok (.ifCond .lt 15, 3) := by decide +kernel
theorem dL_isLaterSo_217 : decode cL_isLaterSo 217 = .ok (.aload_n 0, 1) := by decide +kernel
theorem dL_isLaterSo_218 : decode cL_isLaterSo 218 = .ok (.iload_n 1, 1) := by decide +kernel
theorem dL_isLaterSo_219 : decode cL_isLaterSo 219 = .ok (.invokevirtual 62, 3) := by decide +kernel
theorem dL_isLaterSo_222 : decode cL_isLaterSo 222 = .ok (.ifCond .ne 7, 3) := by decide +kernel
theorem dL_isLaterSo_225 : decode cL_isLaterSo 225 = .ok (.iconst 1, 1) := by decide +kernel
theorem dL_isLaterSo_226 : decode cL_isLaterSo 226 = .ok (.goto 4, 3) := by decide +kernel
theorem dL_isLaterSo_229 : decode cL_isLaterSo 229 = .ok (.iconst 0, 1) := by decide +kernel
theorem dL_isLaterSo_230 : decode cL_isLaterSo 230 = .ok (.istore 6, 2) := by decide +kernel
theorem dL_isLaterSo_232 : decode cL_isLaterSo 232 = .ok (.aload_n 0, 1) := by decide +kernel
theorem dL_isLaterSo_233 : decode cL_isLaterSo 233 = .ok (.invokevirtual 47, 3) := by decide +kernel
theorem dL_isLaterSo_236 : decode cL_isLaterSo 236 = .ok (.istore 8, 2) := by decide +kernel
theorem dL_isLaterSo_238 : decode cL_isLaterSo 238 = .ok (.iload 6, 2) := by decide +kernel
theorem dL_isLaterSo_240 : decode cL_isLaterSo 240 = .ok (.ifCond .eq 21, 3) := by decide +kernel
theorem dL_isLaterSo_243 : decode cL_isLaterSo 243 = .ok (.iload 8, 2) := by decide +kernel
theorem dL_isLaterSo_245 : decode cL_isLaterSo 245 = .ok (.ifCond .lt 16, 3) := by decide +kernel
theorem dL_isLaterSo_248 : decode cL_isLaterSo 248 = .ok (.aload_n 0, 1) := by decide +kernel
theorem dL_isLaterSo_249 : decode cL_isLaterSo 249 = .ok (.iload_n 1, 1) := by decide +kernel
theorem dL_isLaterSo_250 : decode cL_isLaterSo 250 = .ok (.invokevirtual 62, 3) := by decide +kernel
theorem dL_isLaterSo_253 : decode cL_isLaterSo 253 = .ok (.iload_n 3, 1) := by decide +kernel
theorem dL_isLaterSo_254 : decode cL_isLaterSo 254 = .ok (.if_icmp .ne 7, 3) := by decide +kernel
theorem dL_isLaterSo_257 : decode cL_isLaterSo 257 = .ok (.iconst 1, 1) := by decide +kernel
theorem dL_isLaterSo_258 : decode cL_isLaterSo 258 = .ok (.goto 4, 3) := by decide +kernel
theorem dL_isLaterSo_261 : decode cL_isLaterSo 261 = .ok (.iconst 0, 1) := by decide +kernel
theorem dL_isLaterSo_262 : decode cL_isLaterSo 262 = .ok (.istore 6, 2) := by decide +kernel
theorem dL_isLaterSo_264 : decode cL_isLaterSo 264 = .ok (.iconst 1, 1) := by decide +kernel
theorem dL_isLaterSo_265 : decode cL_isLaterSo 265 = .ok (.istore 7, 2) := by decide +kernel
theorem dL_isLaterSo_267 : decode cL_isLaterSo 267 = .ok (.iload 7, 2) := by decide +kernel
theorem dL_isLaterSo_269 : decode cL_isLaterSo 269 = .ok (.bipush 9, 2) := by decide +kernel
theorem dL_isLaterSo_271 : decode cL_isLaterSo 271 = .ok (.if_icmp .gt 110, 3) := by decide +kernel
theorem dL_isLaterSo_274 : decode cL_isLaterSo 274 = .ok (.iload 5, 2) := by decide +kernel
theorem dL_isLaterSo_276 : decode cL_isLaterSo 276 = .ok (.ifCond .lt 10, 3) := by decide +kernel
theorem dL_isLaterSo_279 : decode cL_isLaterSo 279 = .ok (.iload 7, 2) := by decide +kernel
theorem dL_isLaterSo_281 : decode cL_isLaterSo 281 = .ok (.iload 5, 2) := by decide +kernel
theorem dL_isLaterSo_283 : decode cL_isLaterSo 283 = .ok (.if_icmp .gt 98, 3) := by decide +kernel
theorem dL_isLaterSo_286 : decode cL_isLaterSo 286 = .ok (.aload_n 0, 1) := by decide +kernel
theorem dL_isLaterSo_287 : decode cL_isLaterSo 287 = .ok (.iload_n 1, 1) := by decide +kernel
theorem dL_isLaterSo_288 : decode cL_isLaterSo 288 = .ok (.iload 7, 2) := by decide +kernel
theorem dL_isLaterSo_290 : decode cL_isLaterSo 290 = .ok (.aload_n 0, 1) := by decide +kernel
theorem dL_isLaterSo_291 : decode cL_isLaterSo 291 = .ok (.iload_n 1, 1) := by decide +kernel
theorem dL_isLaterSo_292 : decode cL_isLaterSo 292 = .ok (.iconst 1, 1) := by decide +kernel
theorem dL_isLaterSo_293 : decode cL_isLaterSo 293 = .ok (.invokevirtual 59, 3) := by decide +kernel
theorem dL_isLaterSo_296 : decode cL_isLaterSo 296 = .ok (.invokevirtual 37, 3) := by decide +kernel
theorem dL_isLaterSo_299 : decode cL_isLaterSo 299 = .ok (.istore 8, 2) := by decide +kernel
theorem dL_isLaterSo_301 : decode cL_isLaterSo 301 = .ok (.iload 6, 2) := by decide +kernel
theorem dL_isLaterSo_303 : decode cL_isLaterSo 303 = .ok (.ifCond .eq 46, 3) := by decide +kernel
theorem dL_isLaterSo_306 : decode cL_isLaterSo 306 = .ok (.iload 8, 2) := by decide +kernel
theorem dL_isLaterSo_308 : decode cL_isLaterSo 308 = .ok (.ifCond .lt 41, 3) := by decide +kernel
theorem dL_isLaterSo_311 : decode cL_isLaterSo 311 = .ok (.aload_n 0, 1) := by decide +kernel
theorem dL_isLaterSo_312 : decode cL_isLaterSo 312 = .ok (.iconst 2, 1) := by decide +kernel
theorem dL_isLaterSo_313 : decode cL_isLaterSo 313 = .ok (.invokevirtual 20, 3) := by decide +kernel
theorem dL_isLaterSo_316 : decode cL_isLaterSo 316 = .ok (.aload_n 0, 1) := by decide +kernel
theorem dL_isLaterSo_317 : decode cL_isLaterSo 317 = .ok (.iload_n 1, 1) := by decide +kernel
theorem dL_isLaterSo_318 : decode cL_isLaterSo 318 = .ok (.iconst 2, 1) := by decide +kernel
theorem dL_isLaterSo_319 : decode cL_isLaterSo 319 = .ok (.invokevirtual 59, 3) := by decide +kernel
theorem dL_isLaterSo_322 : decode cL_isLaterSo 322 = .ok (.if_icmp .ne 7, 3) := by decide +kernel
theorem dL_isLaterSo_325 : decode cL_isLaterSo 325 = .ok (.iconst 1, 1) := by decide +kernel
theorem dL_isLaterSo_326 : decode cL_isLaterSo 326 = .ok (.goto 4, 3) := by decide +kernel
theorem dL_isLaterSo_329 : decode cL_isLaterSo 329 = .ok (.iconst 0, 1) := by decide +kernel
theorem dL_isLaterSo_330 : decode cL_isLaterSo 330 = .ok (.iload 7, 2) := by decide +kernel
theorem dL_isLaterSo_332 : decode cL_isLaterSo 332 = .ok (.iload 5, 2) := by decide +kernel
theorem dL_isLaterSo_334 : decode cL_isLaterSo 334 = .ok (.if_icmp .ne 7, 3) := by decide +kernel
theorem dL_isLaterSo_337 : decode cL_isLaterSo 337 = .ok (.iconst 1, 1) := by decide +kernel
theorem dL_isLaterSo_338 : decode cL_isLaterSo 338 = .ok (.goto 4, 3) := by decide +kernel
theorem dL_isLaterSo_341 : decode cL_isLaterSo 341 = .ok (.iconst 0, 1) := by decide +kernel
theorem dL_isLaterSo_342 : decode cL_isLaterSo 342 = .ok (.if_icmp .ne 7, 3) := by decide +kernel
theorem dL_isLaterSo_345 : decode cL_isLaterSo 345 = .ok (.iconst 1, 1) := by decide +kernel
theorem dL_isLaterSo_346 : decode cL_isLaterSo 346 = .ok (.goto 4, 3) := by decide +kernel
theorem dL_isLaterSo_349 : decode cL_isLaterSo 349 = .ok (.iconst 0, 1) := by decide +kernel
theorem dL_isLaterSo_350 : decode cL_isLaterSo 350 = .ok (.istore 6, 2) := by decide +kernel
theorem dL_isLaterSo_352 : decode cL_isLaterSo 352 = .ok (.aload_n 0, 1) := by decide +kernel
theorem dL_isLaterSo_353 : decode cL_isLaterSo 353 = .ok (.invokevirtual 47, 3) := by decide +kernel
theorem dL_isLaterSo_356 : decode cL_isLaterSo 356 = .ok (.istore 9, 2) := by decide +kernel
theorem dL_isLaterSo_358 : decode cL_isLaterSo 358 = .ok (.iload 6, 2) := by decide +kernel
theorem dL_isLaterSo_360 : decode cL_isLaterSo 360 = .ok (.ifCond .eq 12, 3) := by decide +kernel
theorem dL_isLaterSo_363 : decode cL_isLaterSo 363 = .ok (.iload 9, 2) := by decide +kernel
theorem dL_isLaterSo_365 : decode cL_isLaterSo 365 = .ok (.ifCond .lt 7, 3) := by decide +kernel
theorem dL_isLaterSo_368 : decode cL_isLaterSo 368 = .ok (.iconst 1, 1) := by decide +kernel
theorem dL_isLaterSo_369 : decode cL_isLaterSo 369 = .ok (.goto 4, 3) := by decide +kernel
theorem dL_isLaterSo_372 : decode cL_isLaterSo 372 = .ok (.iconst 0, 1) := by decide +kernel
theorem dL_isLaterSo_373 : decode cL_isLaterSo 373 = .ok (.istore 6, 2) := by decide +kernel
theorem dL_isLaterSo_375 : decode cL_isLaterSo 375 = .ok (.iinc 7 1, 3) := by decide +kernel
theorem dL_isLaterSo_378 : decode cL_isLaterSo 378 = .ok (.goto (-111), 3) := by decide +kernel
theorem dL_isLaterSo_381 : decode cL_isLaterSo 381 = .ok (.iload 6, 2) := by decide +kernel
theorem dL_isLaterSo_383 : decode cL_isLaterSo 383 = .ok (.ireturn, 1) := by decide +kernel
theorem dL_law_0 : decode cL_law 0 = .ok (.new 15, 3) := by decide +kernel
theorem dL_law_3 : decode cL_law 3 = .ok (.dup, 1) := by decide +kernel
theorem dL_law_4 : decode cL_law 4 = .ok (.invokespecial 89, 3) := by decide +kernel
theorem dL_law_7 : decode cL_law 7 = .ok (.astore_n 1, 1) := by decide +kernel
theorem dL_law_8 : decode cL_law 8 = .ok (.iconst 0, 1) := by decide +kernel
theorem dL_law_9 : decode cL_law 9 = .ok (.istore_n 2, 1) := by decide +kernel
theorem dL_law_10 : decode cL_law 10 = .ok (.iconst 0, 1) := by decide +kernel
theorem dL_law_11 : decode cL_law 11 = .ok (.istore_n 3, 1) := by decide +kernel
theorem dL_law_12 : decode cL_law 12 = .ok (.iload_n 3, 1) := by decide +kernel
theorem dL_law_13 : decode cL_law 13 = .ok (.bipush 48, 2) := by decide +kernel
theorem dL_law_15 : decode cL_law 15 = .ok (.if_icmp .ge 121, 3) := by decide +kernel
theorem dL_law_18 : decode cL_law 18 = .ok (.aload_n 0, 1) := by decide +kernel
theorem dL_law_19 : decode cL_law 19 = .ok (.iload_n 3, 1) := by decide +kernel
theorem dL_law_20 : decode cL_law 20 = .ok (.invokestatic 90, 3) := by decide +kernel
theorem dL_law_23 : decode cL_law 23 = .ok (.istore 4, 2) := by decide +kernel
theorem dL_law_25 : decode cL_law 25 = .ok (.iload 4, 2) := by decide +kernel
theorem dL_law_27 : decode cL_law 27 = .ok (.bipush 15, 2) := by decide +kernel
theorem dL_law_29 : decode cL_law 29 = .ok (.iand, 1) := by decide +kernel
theorem dL_law_30 : decode cL_law 30 = .ok (.bipush 13, 2) := by decide +kernel
theorem dL_law_32 : decode cL_law 32 = .ok (.if_icmp .le 7, 3) := by decide +kernel
theorem dL_law_35 : decode cL_law 35 = .ok (.iconst 1, 1) := by decide +kernel
theorem dL_law_36 : decode cL_law 36 = .ok (.goto 4, 3) := by decide +kernel
theorem dL_law_39 : decode cL_law 39 = .ok (.iconst 0, 1) := by decide +kernel
theorem dL_law_40 : decode cL_law 40 = .ok (.istore 5, 2) := by decide +kernel
theorem dL_law_42 : decode cL_law 42 = .ok (.aload_n 1, 1) := by decide +kernel
theorem dL_law_43 : decode cL_law 43 = .ok (.iload 4, 2) := by decide +kernel
theorem dL_law_45 : decode cL_law 45 = .ok (.invokestatic 94, 3) := by decide +kernel
theorem dL_law_48 : decode cL_law 48 = .ok (.ifCond .lt 74, 3) := by decide +kernel
theorem dL_law_51 : decode cL_law 51 = .ok (.iload 5, 2) := by decide +kernel
theorem dL_law_53 : decode cL_law 53 = .ok (.ifCond .ne 12, 3) := by decide +kernel
theorem dL_law_56 : decode cL_law 56 = .ok (.aload_n 1, 1) := by decide +kernel
theorem dL_law_57 : decode cL_law 57 = .ok (.iconst 1, 1) := by decide +kernel
theorem dL_law_58 : decode cL_law 58 = .ok (.invokevirtual 20, 3) := by decide +kernel
theorem dL_law_61 : decode cL_law 61 = .ok (.iload_n 2, 1) := by decide +kernel
theorem dL_law_62 : decode cL_law 62 = .ok (.if_icmp .lt 60, 3) := by decide +kernel
theorem dL_law_65 : decode cL_law 65 = .ok (.aload_n 1, 1) := by decide +kernel
theorem dL_law_66 : decode cL_law 66 = .ok (.invokestatic 98, 3) := by decide +kernel
theorem dL_law_69 : decode cL_law 69 = .ok (.ifCond .eq 53, 3) := by decide +kernel
theorem dL_law_72 : decode cL_law 72 = .ok (.aload_n 1, 1) := by decide +kernel
theorem dL_law_73 : decode cL_law 73 = .ok (.invokestatic 102, 3) := by decide +kernel
theorem dL_law_76 : decode cL_law 76 = .ok (.ifCond .eq 46, 3) := by decide +kernel
theorem dL_law_79 : decode cL_law 79 = .ok (.aload_n 1, 1) := by decide +kernel
theorem dL_law_80 : decode cL_law 80 = .ok (.invokestatic 105, 3) := by decide +kernel
theorem dL_law_83 : decode cL_law 83 = .ok (.ifCond .eq 39, 3) := by decide +kernel
theorem dL_law_86 : decode cL_law 86 = .ok (.iload_n 3, 1) := by decide +kernel
theorem dL_law_87 : decode cL_law 87 = .ok (.iconst 3, 1) := by decide +kernel
theorem dL_law_88 : decode cL_law 88 = .ok (.irem, 1) := by decide +kernel
theorem dL_law_89 : decode cL_law 89 = .ok (.ifCond .ne 10, 3) := by decide +kernel
theorem dL_law_92 : decode cL_law 92 = .ok (.aload_n 1, 1) := by decide +kernel
theorem dL_law_93 : decode cL_law 93 = .ok (.invokestatic 108, 3) := by decide +kernel
theorem dL_law_96 : decode cL_law 96 = .ok (.ifCond .eq 26, 3) := by decide +kernel
theorem dL_law_99 : decode cL_law 99 = .ok (.iload_n 3, 1) := by decide +kernel
theorem dL_law_100 : decode cL_law 100 = .ok (.iconst 3, 1) := by decide +kernel
theorem dL_law_101 : decode cL_law 101 = .ok (.irem, 1) := by decide +kernel
theorem dL_law_102 : decode cL_law 102 = .ok (.iconst 1, 1) := by decide +kernel
theorem dL_law_103 : decode cL_law 103 = .ok (.if_icmp .ne 21, 3) := by decide +kernel
theorem dL_law_106 : decode cL_law 106 = .ok (.aload_n 1, 1) := by decide +kernel
theorem dL_law_107 : decode cL_law 107 = .ok (.iload 4, 2) := by decide +kernel
theorem dL_law_109 : decode cL_law 109 = .ok (.iconst 5, 1) := by decide +kernel
theorem dL_law_110 : decode cL_law 110 = .ok (.ishr, 1) := by decide +kernel
theorem dL_law_111 : decode cL_law 111 = .ok (.bipush 7, 2) := by decide +kernel
theorem dL_law_113 : decode cL_law 113 = .ok (.invokestatic 8, 3) := by decide +kernel
theorem dL_law_116 : decode cL_law 116 = .ok (.invokestatic 111, 3) := by decide +kernel
theorem dL_law_119 : decode cL_law 119 = .ok (.ifCond .ne 5, 3) := by decide +kernel
theorem dL_law_122 : decode cL_law 122 = .ok (.iconst 0, 1) := by decide +kernel
theorem dL_law_123 : decode cL_law 123 = .ok (.ireturn, 1) := by decide +kernel
theorem dL_law_124 : decode cL_law 124 = .ok (.aload_n 1, 1) := by decide +kernel
theorem dL_law_125 : decode cL_law 125 = .ok (.iconst 1, 1) := by decide +kernel
theorem dL_law_126 : decode cL_law 126 = .ok (.invokevirtual 20, 3) := by decide +kernel
theorem dL_law_129 : decode cL_law 129 = .ok (.istore_n 2, 1) := by decide +kernel
theorem dL_law_130 : decode cL_law 130 = .ok (.iinc 3 1, 3) := by decide +kernel
theorem dL_law_133 : decode cL_law 133 = .ok (.goto (-121), 3) := by decide +kernel
theorem dL_law_136 : decode cL_law 136 = .ok (.iconst 1, 1) := by decide +kernel
theorem dL_law_137 : decode cL_law 137 = .ok (.ireturn, 1) := by decide +kernel
