theorem dX0_init_0 : decode cX0_init 0 = .ok (.aload_n 0, 1) := by decide +kernel
theorem dX0_init_1 : decode cX0_init 1 = .ok (.invokespecial 3, 3) := by decide +kernel
theorem dX0_init_4 : decode cX0_init 4 = .ok (.aload_n 0, 1) := by decide +kernel
theorem dX0_init_5 : decode cX0_init 5 = .ok (.bipush 7, 2) := by decide +kernel
theorem dX0_init_7 : decode cX0_init 7 = .ok (.newarray .int, 2) := by decide +kernel
theorem dX0_init_9 : decode cX0_init 9 = .ok (.putfield 9, 3) := by decide +kernel
theorem dX0_init_12 : decode cX0_init 12 = .ok (.aload_n 0, 1) := by decide +kernel
theorem dX0_init_13 : decode cX0_init 13 = .ok (.bipush 7, 2) := by decide +kernel
theorem dX0_init_15 : decode cX0_init 15 = .ok (.newarray .int, 2) := by decide +kernel
theorem dX0_init_17 : decode cX0_init 17 = .ok (.putfield 15, 3) := by decide +kernel
theorem dX0_init_20 : decode cX0_init 20 = .ok (.aload_n 0, 1) := by decide +kernel
theorem dX0_init_21 : decode cX0_init 21 = .ok (.bipush 7, 2) := by decide +kernel
theorem dX0_init_23 : decode cX0_init 23 = .ok (.newarray .int, 2) := by decide +kernel
theorem dX0_init_25 : decode cX0_init 25 = .ok (.putfield 18, 3) := by decide +kernel
theorem dX0_init_28 : decode cX0_init 28 = .ok (.aload_n 0, 1) := by decide +kernel
theorem dX0_init_29 : decode cX0_init 29 = .ok (.bipush 7, 2) := by decide +kernel
theorem dX0_init_31 : decode cX0_init 31 = .ok (.newarray .int, 2) := by decide +kernel
theorem dX0_init_33 : decode cX0_init 33 = .ok (.putfield 21, 3) := by decide +kernel
theorem dX0_init_36 : decode cX0_init 36 = .ok (.aload_n 0, 1) := by decide +kernel
theorem dX0_init_37 : decode cX0_init 37 = .ok (.bipush 7, 2) := by decide +kernel
theorem dX0_init_39 : decode cX0_init 39 = .ok (.newarray .int, 2) := by decide +kernel
theorem dX0_init_41 : decode cX0_init 41 = .ok (.putfield 24, 3) := by decide +kernel
theorem dX0_init_44 : decode cX0_init 44 = .ok (.aload_n 0, 1) := by decide +kernel
theorem dX0_init_45 : decode cX0_init 45 = .ok (.bipush 7, 2) := by decide +kernel
theorem dX0_init_47 : decode cX0_init 47 = .ok (.newarray .int, 2) := by decide +kernel
theorem dX0_init_49 : decode cX0_init 49 = .ok (.putfield 27, 3) := by decide +kernel
theorem dX0_init_52 : decode cX0_init 52 = .ok (.return_, 1) := by decide +kernel
theorem dX0_copyFrom_0 : decode cX0_copyFrom 0 = .ok (.aload_n 0, 1) := by decide +kernel
theorem dX0_copyFrom_1 : decode cX0_copyFrom 1 = .ok (.aload_n 1, 1) := by decide +kernel
theorem dX0_copyFrom_2 : decode cX0_copyFrom 2 = .ok (.getfield 30, 3) := by decide +kernel
theorem dX0_copyFrom_5 : decode cX0_copyFrom 5 = .ok (.putfield 30, 3) := by decide +kernel
theorem dX0_copyFrom_8 : decode cX0_copyFrom 8 = .ok (.aload_n 1, 1) := by decide +kernel
theorem dX0_copyFrom_9 : decode cX0_copyFrom 9 = .ok (.getfield 9, 3) := by decide +kernel
theorem dX0_copyFrom_12 : decode cX0_copyFrom 12 = .ok (.aload_n 0, 1) := by decide +kernel
theorem dX0_copyFrom_13 : decode cX0_copyFrom 13 = .ok (.getfield 9, 3) := by decide +kernel
theorem dX0_copyFrom_16 : decode cX0_copyFrom 16 = .ok (.invokestatic 34, 3) := by decide +kernel
theorem dX0_copyFrom_19 : decode cX0_copyFrom 19 = .ok (.aload_n 1, 1) := by decide +kernel
theorem dX0_copyFrom_20 : decode cX0_copyFrom 20 = .ok (.getfield 15, 3) := by decide +kernel
theorem dX0_copyFrom_23 : decode cX0_copyFrom 23 = .ok (.aload_n 0, 1) := by decide +kernel
theorem dX0_copyFrom_24 : decode cX0_copyFrom 24 = .ok (.getfield 15, 3) := by decide +kernel
theorem dX0_copyFrom_27 : decode cX0_copyFrom 27 = .ok (.invokestatic 34, 3) := by decide +kernel
theorem dX0_copyFrom_30 : decode cX0_copyFrom 30 = .ok (.aload_n 1, 1) := by decide +kernel
theorem dX0_copyFrom_31 : decode cX0_copyFrom 31 = .ok (.getfield 18, 3) := by decide +kernel
theorem dX0_copyFrom_34 : decode cX0_copyFrom 34 = .ok (.aload_n 0, 1) := by decide +kernel
theorem dX0_copyFrom_35 : decode cX0_copyFrom 35 = .ok (.getfield 18, 3) := by decide +kernel
theorem dX0_copyFrom_38 : decode cX0_copyFrom 38 = .ok (.invokestatic 34, 3) := by decide +kernel
theorem dX0_copyFrom_41 : decode cX0_copyFrom 41 = .ok (.aload_n 1, 1) := by decide +kernel
theorem dX0_copyFrom_42 : decode cX0_copyFrom 42 = .ok (.getfield 21, 3) := by decide +kernel
theorem dX0_copyFrom_45 : decode cX0_copyFrom 45 = .ok (.aload_n 0, 1) := by decide +kernel
theorem dX0_copyFrom_46 : decode cX0_copyFrom 46 = .ok (.getfield 21, 3) := by decide +kernel
theorem dX0_copyFrom_49 : decode cX0_copyFrom 49 = .ok (.invokestatic 34, 3) := by decide +kernel
theorem dX0_copyFrom_52 : decode cX0_copyFrom 52 = .ok (.aload_n 1, 1) := by decide +kernel
theorem dX0_copyFrom_53 : decode cX0_copyFrom 53 = .ok (.getfield 24, 3) := by decide +kernel
theorem dX0_copyFrom_56 : decode cX0_copyFrom 56 = .ok (.aload_n 0, 1) := by decide +kernel
theorem dX0_copyFrom_57 : decode cX0_copyFrom 57 = .ok (.getfield 24, 3) := by decide +kernel
theorem dX0_copyFrom_60 : decode cX0_copyFrom 60 = .ok (.invokestatic 34, 3) := by decide +kernel
theorem dX0_copyFrom_63 : decode cX0_copyFrom 63 = .ok (.aload_n 1, 1) := by decide +kernel
theorem dX0_copyFrom_64 : decode cX0_copyFrom 64 = .ok (.getfield 27, 3) := by decide +kernel
theorem dX0_copyFrom_67 : decode cX0_copyFrom 67 = .ok (.aload_n 0, 1) := by decide +kernel
theorem dX0_copyFrom_68 : decode cX0_copyFrom 68 = .ok (.getfield 27, 3) := by decide +kernel
theorem dX0_copyFrom_71 : decode cX0_copyFrom 71 = .ok (.invokestatic 34, 3) := by decide +kernel
theorem dX0_copyFrom_74 : decode cX0_copyFrom 74 = .ok (.return_, 1) := by decide +kernel
theorem dX0_passTicks_0 : decode cX0_passTicks 0 = .ok (.iconst 0, 1) := by decide +kernel
theorem dX0_passTicks_1 : decode cX0_passTicks 1 = .ok (.istore_n 2, 1) := by decide +kernel
theorem dX0_passTicks_2 : decode cX0_passTicks 2 = .ok (.iconst 0, 1) := by decide +kernel
theorem dX0_passTicks_3 : decode cX0_passTicks 3 = .ok (.istore_n 3, 1) := by decide +kernel
theorem dX0_passTicks_4 : decode cX0_passTicks 4 = .ok (.iload_n 3, 1) := by decide +kernel
theorem dX0_passTicks_5 : decode cX0_passTicks 5 = .ok (.iload_n 1, 1) := by decide +kernel
theorem dX0_passTicks_6 : decode cX0_passTicks 6 = .ok (.if_icmp .ge 45, 3) := by decide +kernel
theorem dX0_passTicks_9 : decode cX0_passTicks 9 = .ok (.aload_n 0, 1) := by decide +kernel
theorem dX0_passTicks_10 : decode cX0_passTicks 10 = .ok (.dup, 1) := by decide +kernel
theorem dX0_passTicks_11 : decode cX0_passTicks 11 = .ok (.getfield 30, 3) := by decide +kernel
theorem dX0_passTicks_14 : decode cX0_passTicks 14 = .ok (.bipush 10, 2) := by decide +kernel
theorem dX0_passTicks_16 : decode cX0_passTicks 16 = .ok (.iadd, 1) := by decide +kernel
theorem dX0_passTicks_17 : decode cX0_passTicks 17 = .ok (.putfield 30, 3) := by decide +kernel
theorem dX0_passTicks_20 : decode cX0_passTicks 20 = .ok (.iconst 0, 1) := by decide +kernel
theorem dX0_passTicks_21 : decode cX0_passTicks 21 = .ok (.istore 4, 2) := by decide +kernel
theorem dX0_passTicks_23 : decode cX0_passTicks 23 = .ok (.iload 4, 2) := by decide +kernel
theorem dX0_passTicks_25 : decode cX0_passTicks 25 = .ok (.bipush 7, 2) := by decide +kernel
theorem dX0_passTicks_27 : decode cX0_passTicks 27 = .ok (.if_icmp .ge 18, 3) := by decide +kernel
theorem dX0_passTicks_30 : decode cX0_passTicks 30 = .ok (.iload_n 2, 1) := by decide +kernel
theorem dX0_passTicks_31 : decode cX0_passTicks 31 = .ok (.aload_n 0, 1) := by decide +kernel
theorem dX0_passTicks_32 : decode cX0_passTicks 32 = .ok (.iload 4, 2) := by decide +kernel
theorem dX0_passTicks_34 : decode cX0_passTicks 34 = .ok (.invokevirtual 38, 3) := by decide +kernel
theorem dX0_passTicks_37 : decode cX0_passTicks 37 = .ok (.iadd, 1) := by decide +kernel
theorem dX0_passTicks_38 : decode cX0_passTicks 38 = .ok (.istore_n 2, 1) := by decide +kernel
theorem dX0_passTicks_39 : decode cX0_passTicks 39 = .ok (.iinc 4 1, 3) := by decide +kernel
theorem dX0_passTicks_42 : decode cX0_passTicks 42 = .ok (.goto (-19), 3) := by decide +kernel
theorem dX0_passTicks_45 : decode cX0_passTicks 45 = .ok (.iinc 3 1, 3) := by decide +kernel
theorem dX0_passTicks_48 : decode cX0_passTicks 48 = .ok (.goto (-44), 3) := by decide +kernel
theorem dX0_passTicks_51 : decode cX0_passTicks 51 = .ok (.iload_n 2, 1) := by decide +kernel
theorem dX0_passTicks_52 : decode cX0_passTicks 52 = .ok (.ireturn, 1) := by decide +kernel
theorem dX0_passTick_0 : decode cX0_passTick 0 = .ok (.aload_n 0, 1) := by decide +kernel
theorem dX0_passTick_1 : decode cX0_passTick 1 = .ok (.getfield 9, 3) := by decide +kernel
theorem dX0_passTick_4 : decode cX0_passTick 4 = .ok (.iload_n 1, 1) := by decide +kernel
theorem dX0_passTick_5 : decode cX0_passTick 5 = .ok (.iaload, 1) := by decide +kernel
theorem dX0_passTick_6 : decode cX0_passTick 6 = .ok (.istore_n 2, 1) := by decide +kernel
theorem dX0_passTick_7 : decode cX0_passTick 7 = .ok (.aload_n 0, 1) := by decide +kernel
theorem dX0_passTick_8 : decode cX0_passTick 8 = .ok (.iload_n 1, 1) := by decide +kernel
theorem dX0_passTick_9 : decode cX0_passTick 9 = .ok (.iload_n 2, 1) := by decide +kernel
theorem dX0_passTick_10 : decode cX0_passTick 10 = .ok (.invokevirtual 42, 3) := by decide +kernel
theorem dX0_passTick_13 : decode cX0_passTick 13 = .ok (.istore_n 3, 1) := by decide +kernel
theorem dX0_passTick_14 : decode cX0_passTick 14 = .ok (.aload_n 0, 1) := by decide +kernel
theorem dX0_passTick_15 : decode cX0_passTick 15 = .ok (.getfield 9, 3) := by decide +kernel
theorem dX0_passTick_18 : decode cX0_passTick 18 = .ok (.iload_n 1, 1) := by decide +kernel
theorem dX0_passTick_19 : decode cX0_passTick 19 = .ok (.iload_n 3, 1) := by decide +kernel
theorem dX0_passTick_20 : decode cX0_passTick 20 = .ok (.iastore, 1) := by decide +kernel
theorem dX0_passTick_21 : decode cX0_passTick 21 = .ok (.aload_n 0, 1) := by decide +kernel
theorem dX0_passTick_22 : decode cX0_passTick 22 = .ok (.getfield 18, 3) := by decide +kernel
theorem dX0_passTick_25 : decode cX0_passTick 25 = .ok (.iload_n 1, 1) := by decide +kernel
theorem dX0_passTick_26 : decode cX0_passTick 26 = .ok (.dup2, 1) := by decide +kernel
theorem dX0_passTick_27 : decode cX0_passTick 27 = .ok (.iaload, 1) := by decide +kernel
theorem dX0_passTick_28 : decode cX0_passTick 28 = .ok (.iload_n 3, 1) := by decide +kernel
theorem dX0_passTick_29 : decode cX0_passTick 29 = .ok (.iload_n 2, 1) := by decide +kernel
theorem dX0_passTick_30 : decode cX0_passTick 30 = .ok (.isub, 1) := by decide +kernel
theorem dX0_passTick_31 : decode cX0_passTick 31 = .ok (.iadd, 1) := by decide +kernel
theorem dX0_passTick_32 : decode cX0_passTick 32 = .ok (.iastore, 1) := by decide +kernel
theorem dX0_passTick_33 : decode cX0_passTick 33 = .ok (.aload_n 0, 1) := by decide +kernel
theorem dX0_passTick_34 : decode cX0_passTick 34 = .ok (.iload_n 1, 1) := by decide +kernel
theorem dX0_passTick_35 : decode cX0_passTick 35 = .ok (.iload_n 2, 1) := by decide +kernel
theorem dX0_passTick_36 : decode cX0_passTick 36 = .ok (.iload_n 3, 1) := by decide +kernel
theorem dX0_passTick_37 : decode cX0_passTick 37 = .ok (.invokevirtual 46, 3) := by decide +kernel
theorem dX0_passTick_40 : decode cX0_passTick 40 = .ok (.ireturn, 1) := by decide +kernel
theorem dX0_afterTick_0 : decode cX0_afterTick 0 = .ok (.iload_n 2, 1) := by decide +kernel
theorem dX0_afterTick_1 : decode cX0_afterTick 1 = .ok (.bipush 10, 2) := by decide +kernel
theorem dX0_afterTick_3 : decode cX0_afterTick 3 = .ok (.iadd, 1) := by decide +kernel
theorem dX0_afterTick_4 : decode cX0_afterTick 4 = .ok (.aload_n 0, 1) := by decide +kernel
theorem dX0_afterTick_5 : decode cX0_afterTick 5 = .ok (.getfield 15, 3) := by decide +kernel
theorem dX0_afterTick_8 : decode cX0_afterTick 8 = .ok (.iload_n 1, 1) := by decide +kernel
theorem dX0_afterTick_9 : decode cX0_afterTick 9 = .ok (.iaload, 1) := by decide +kernel
theorem dX0_afterTick_10 : decode cX0_afterTick 10 = .ok (.iadd, 1) := by decide +kernel
theorem dX0_afterTick_11 : decode cX0_afterTick 11 = .ok (.istore_n 3, 1) := by decide +kernel
theorem dX0_afterTick_12 : decode cX0_afterTick 12 = .ok (.iload_n 3, 1) := by decide +kernel
theorem dX0_afterTick_13 : decode cX0_afterTick 13 = .ok (.ldc 50, 2) := by decide +kernel
theorem dX0_afterTick_15 : decode cX0_afterTick 15 = .ok (.if_icmp .le 8, 3) := by decide +kernel
theorem dX0_afterTick_18 : decode cX0_afterTick 18 = .ok (.ldc 50, 2) := by decide +kernel
theorem dX0_afterTick_20 : decode cX0_afterTick 20 = .ok (.goto 4, 3) := by decide +kernel
theorem dX0_afterTick_23 : decode cX0_afterTick 23 = .ok (.iload_n 3, 1) := by decide +kernel
theorem dX0_afterTick_24 : decode cX0_afterTick 24 = .ok (.ireturn, 1) := by decide +kernel
theorem dX0_ring_0 : decode cX0_ring 0 = .ok (.iload_n 3, 1) := by decide +kernel
theorem dX0_ring_1 : decode cX0_ring 1 = .ok (.bipush 60, 2) := by decide +kernel
theorem dX0_ring_3 : decode cX0_ring 3 = .ok (.idiv, 1) := by decide +kernel
theorem dX0_ring_4 : decode cX0_ring 4 = .ok (.iload_n 2, 1) := by decide +kernel
theorem dX0_ring_5 : decode cX0_ring 5 = .ok (.bipush 60, 2) := by decide +kernel
theorem dX0_ring_7 : decode cX0_ring 7 = .ok (.idiv, 1) := by decide +kernel
theorem dX0_ring_8 : decode cX0_ring 8 = .ok (.isub, 1) := by decide +kernel
theorem dX0_ring_9 : decode cX0_ring 9 = .ok (.istore 4, 2) := by decide +kernel
theorem dX0_ring_11 : decode cX0_ring 11 = .ok (.aload_n 0, 1) := by decide +kernel
theorem dX0_ring_12 : decode cX0_ring 12 = .ok (.getfield 27, 3) := by decide +kernel
theorem dX0_ring_15 : decode cX0_ring 15 = .ok (.iload_n 1, 1) := by decide +kernel
theorem dX0_ring_16 : decode cX0_ring 16 = .ok (.dup2, 1) := by decide +kernel
theorem dX0_ring_17 : decode cX0_ring 17 = .ok (.iaload, 1) := by decide +kernel
theorem dX0_ring_18 : decode cX0_ring 18 = .ok (.iload 4, 2) := by decide +kernel
theorem dX0_ring_20 : decode cX0_ring 20 = .ok (.iadd, 1) := by decide +kernel
theorem dX0_ring_21 : decode cX0_ring 21 = .ok (.iastore, 1) := by decide +kernel
theorem dX0_ring_22 : decode cX0_ring 22 = .ok (.iload 4, 2) := by decide +kernel
theorem dX0_ring_24 : decode cX0_ring 24 = .ok (.ireturn, 1) := by decide +kernel
theorem dX0_moveTo_0 : decode cX0_moveTo 0 = .ok (.aload_n 0, 1) := by decide +kernel
theorem dX0_moveTo_1 : decode cX0_moveTo 1 = .ok (.getfield 9, 3) := by decide +kernel
theorem dX0_moveTo_4 : decode cX0_moveTo 4 = .ok (.iload_n 1, 1) := by decide +kernel
theorem dX0_moveTo_5 : decode cX0_moveTo 5 = .ok (.iaload, 1) := by decide +kernel
theorem dX0_moveTo_6 : decode cX0_moveTo 6 = .ok (.istore_n 3, 1) := by decide +kernel
theorem dX0_moveTo_7 : decode cX0_moveTo 7 = .ok (.aload_n 0, 1) := by decide +kernel
theorem dX0_moveTo_8 : decode cX0_moveTo 8 = .ok (.getfield 9, 3) := by decide +kernel
theorem dX0_moveTo_11 : decode cX0_moveTo 11 = .ok (.iload_n 1, 1) := by decide +kernel
theorem dX0_moveTo_12 : decode cX0_moveTo 12 = .ok (.iload_n 2, 1) := by decide +kernel
theorem dX0_moveTo_13 : decode cX0_moveTo 13 = .ok (.iastore, 1) := by decide +kernel
theorem dX0_moveTo_14 : decode cX0_moveTo 14 = .ok (.iload_n 2, 1) := by decide +kernel
theorem dX0_moveTo_15 : decode cX0_moveTo 15 = .ok (.iload_n 3, 1) := by decide +kernel
theorem dX0_moveTo_16 : decode cX0_moveTo 16 = .ok (.if_icmp .ge 19, 3) := by decide +kernel
theorem dX0_moveTo_19 : decode cX0_moveTo 19 = .ok (.aload_n 0, 1) := by decide +kernel
theorem dX0_moveTo_20 : decode cX0_moveTo 20 = .ok (.getfield 24, 3) := by decide +kernel
theorem dX0_moveTo_23 : decode cX0_moveTo 23 = .ok (.iload_n 1, 1) := by decide +kernel
theorem dX0_moveTo_24 : decode cX0_moveTo 24 = .ok (.dup2, 1) := by decide +kernel
theorem dX0_moveTo_25 : decode cX0_moveTo 25 = .ok (.iaload, 1) := by decide +kernel
theorem dX0_moveTo_26 : decode cX0_moveTo 26 = .ok (.iload_n 3, 1) := by decide +kernel
theorem dX0_moveTo_27 : decode cX0_moveTo 27 = .ok (.iload_n 2, 1) := by decide +kernel
theorem dX0_moveTo_28 : decode cX0_moveTo 28 = .ok (.isub, 1) := by decide +kernel
theorem dX0_moveTo_29 : decode cX0_moveTo 29 = .ok (.iadd, 1) := by decide +kernel
theorem dX0_moveTo_30 : decode cX0_moveTo 30 = .ok (.iastore, 1) := by decide +kernel
theorem dX0_moveTo_31 : decode cX0_moveTo 31 = .ok (.iload_n 3, 1) := by decide +kernel
theorem dX0_moveTo_32 : decode cX0_moveTo 32 = .ok (.iload_n 2, 1) := by decide +kernel
theorem dX0_moveTo_33 : decode cX0_moveTo 33 = .ok (.isub, 1) := by decide +kernel
theorem dX0_moveTo_34 : decode cX0_moveTo 34 = .ok (.ireturn, 1) := by decide +kernel
theorem dX0_moveTo_35 : decode cX0_moveTo 35 = .ok (.aload_n 0, 1) := by decide +kernel
theorem dX0_moveTo_36 : decode cX0_moveTo 36 = .ok (.getfield 21, 3) := by decide +kernel
theorem dX0_moveTo_39 : decode cX0_moveTo 39 = .ok (.iload_n 1, 1) := by decide +kernel
theorem dX0_moveTo_40 : decode cX0_moveTo 40 = .ok (.dup2, 1) := by decide +kernel
theorem dX0_moveTo_41 : decode cX0_moveTo 41 = .ok (.iaload, 1) := by decide +kernel
theorem dX0_moveTo_42 : decode cX0_moveTo 42 = .ok (.iload_n 2, 1) := by decide +kernel
theorem dX0_moveTo_43 : decode cX0_moveTo 43 = .ok (.iload_n 3, 1) := by decide +kernel
theorem dX0_moveTo_44 : decode cX0_moveTo 44 = .ok (.isub, 1) := by decide +kernel
theorem dX0_moveTo_45 : decode cX0_moveTo 45 = .ok (.iadd, 1) := by decide +kernel
theorem dX0_moveTo_46 : decode cX0_moveTo 46 = .ok (.iastore, 1) := by decide +kernel
theorem dX0_moveTo_47 : decode cX0_moveTo 47 = .ok (.aload_n 0, 1) := by decide +kernel
theorem dX0_moveTo_48 : decode cX0_moveTo 48 = .ok (.iload_n 1, 1) := by decide +kernel
theorem dX0_moveTo_49 : decode cX0_moveTo 49 = .ok (.iload_n 3, 1) := by decide +kernel
theorem dX0_moveTo_50 : decode cX0_moveTo 50 = .ok (.iload_n 2, 1) := by decide +kernel
theorem dX0_moveTo_51 : decode cX0_moveTo 51 = .ok (.invokevirtual 46, 3) := by decide +kernel
theorem dX0_moveTo_54 : decode cX0_moveTo 54 = .ok (.pop, 1) := by decide +kernel
theorem dX0_moveTo_55 : decode cX0_moveTo 55 = .ok (.iload_n 2, 1) := by decide +kernel
theorem dX0_moveTo_56 : decode cX0_moveTo 56 = .ok (.iload_n 3, 1) := by decide +kernel
theorem dX0_moveTo_57 : decode cX0_moveTo 57 = .ok (.isub, 1) := by decide +kernel
theorem dX0_moveTo_58 : decode cX0_moveTo 58 = .ok (.ireturn, 1) := by decide +kernel
theorem dX0_changeDrift_0 : decode cX0_changeDrift 0 = .ok (.iload_n 1, 1) := by decide +kernel
theorem dX0_changeDrift_1 : decode cX0_changeDrift 1 = .ok (.ifCond .lt 16, 3) := by decide +kernel
theorem dX0_changeDrift_4 : decode cX0_changeDrift 4 = .ok (.iload_n 1, 1) := by decide +kernel
theorem dX0_changeDrift_5 : decode cX0_changeDrift 5 = .ok (.bipush 7, 2) := by decide +kernel
theorem dX0_changeDrift_7 : decode cX0_changeDrift 7 = .ok (.if_icmp .ge 10, 3) := by decide +kernel
theorem dX0_changeDrift_10 : decode cX0_changeDrift 10 = .ok (.aload_n 0, 1) := by decide +kernel
theorem dX0_changeDrift_11 : decode cX0_changeDrift 11 = .ok (.getfield 15, 3) := by decide +kernel
theorem dX0_changeDrift_14 : decode cX0_changeDrift 14 = .ok (.iload_n 1, 1) := by decide +kernel
theorem dX0_changeDrift_15 : decode cX0_changeDrift 15 = .ok (.iload_n 2, 1) := by decide +kernel
theorem dX0_changeDrift_16 : decode cX0_changeDrift 16 = .ok (.iastore, 1) := by decide +kernel
theorem dX0_changeDrift_17 : decode cX0_changeDrift 17 = .ok (.return_, 1) := by decide +kernel
theorem dX0_accountOf_0 : decode cX0_accountOf 0 = .ok (.aload_n 0, 1) := by decide +kernel
theorem dX0_accountOf_1 : decode cX0_accountOf 1 = .ok (.getfield 18, 3) := by decide +kernel
theorem dX0_accountOf_4 : decode cX0_accountOf 4 = .ok (.iload_n 1, 1) := by decide +kernel
theorem dX0_accountOf_5 : decode cX0_accountOf 5 = .ok (.iaload, 1) := by decide +kernel
theorem dX0_accountOf_6 : decode cX0_accountOf 6 = .ok (.aload_n 0, 1) := by decide +kernel
theorem dX0_accountOf_7 : decode cX0_accountOf 7 = .ok (.getfield 21, 3) := by decide +kernel
theorem dX0_accountOf_10 : decode cX0_accountOf 10 = .ok (.iload_n 1, 1) := by decide +kernel
theorem dX0_accountOf_11 : decode cX0_accountOf 11 = .ok (.iaload, 1) := by decide +kernel
theorem dX0_accountOf_12 : decode cX0_accountOf 12 = .ok (.iadd, 1) := by decide +kernel
theorem dX0_accountOf_13 : decode cX0_accountOf 13 = .ok (.aload_n 0, 1) := by decide +kernel
theorem dX0_accountOf_14 : decode cX0_accountOf 14 = .ok (.getfield 24, 3) := by decide +kernel
theorem dX0_accountOf_17 : decode cX0_accountOf 17 = .ok (.iload_n 1, 1) := by decide +kernel
theorem dX0_accountOf_18 : decode cX0_accountOf 18 = .ok (.iaload, 1) := by decide +kernel
theorem dX0_accountOf_19 : decode cX0_accountOf 19 = .ok (.isub, 1) := by decide +kernel
theorem dX0_accountOf_20 : decode cX0_accountOf 20 = .ok (.ireturn, 1) := by decide +kernel
theorem dX0_errorOf_0 : decode cX0_errorOf 0 = .ok (.aload_n 0, 1) := by decide +kernel
theorem dX0_errorOf_1 : decode cX0_errorOf 1 = .ok (.getfield 9, 3) := by decide +kernel
theorem dX0_errorOf_4 : decode cX0_errorOf 4 = .ok (.iload_n 1, 1) := by decide +kernel
theorem dX0_errorOf_5 : decode cX0_errorOf 5 = .ok (.iaload, 1) := by decide +kernel
theorem dX0_errorOf_6 : decode cX0_errorOf 6 = .ok (.aload_n 0, 1) := by decide +kernel
theorem dX0_errorOf_7 : decode cX0_errorOf 7 = .ok (.getfield 30, 3) := by decide +kernel
theorem dX0_errorOf_10 : decode cX0_errorOf 10 = .ok (.invokestatic 51, 3) := by decide +kernel
theorem dX0_errorOf_13 : decode cX0_errorOf 13 = .ok (.ireturn, 1) := by decide +kernel
theorem dX0_ticksToRing_0 : decode cX0_ticksToRing 0 = .ok (.aload_n 0, 1) := by decide +kernel
theorem dX0_ticksToRing_1 : decode cX0_ticksToRing 1 = .ok (.getfield 9, 3) := by decide +kernel
theorem dX0_ticksToRing_4 : decode cX0_ticksToRing 4 = .ok (.iload_n 1, 1) := by decide +kernel
theorem dX0_ticksToRing_5 : decode cX0_ticksToRing 5 = .ok (.iaload, 1) := by decide +kernel
theorem dX0_ticksToRing_6 : decode cX0_ticksToRing 6 = .ok (.bipush 60, 2) := by decide +kernel
theorem dX0_ticksToRing_8 : decode cX0_ticksToRing 8 = .ok (.idiv, 1) := by decide +kernel
theorem dX0_ticksToRing_9 : decode cX0_ticksToRing 9 = .ok (.istore_n 2, 1) := by decide +kernel
theorem dX0_ticksToRing_10 : decode cX0_ticksToRing 10 = .ok (.aload_n 0, 1) := by decide +kernel
theorem dX0_ticksToRing_11 : decode cX0_ticksToRing 11 = .ok (.getfield 9, 3) := by decide +kernel
theorem dX0_ticksToRing_14 : decode cX0_ticksToRing 14 = .ok (.iload_n 1, 1) := by decide +kernel
theorem dX0_ticksToRing_15 : decode cX0_ticksToRing 15 = .ok (.iaload, 1) := by decide +kernel
theorem dX0_ticksToRing_16 : decode cX0_ticksToRing 16 = .ok (.istore_n 3, 1) := by decide +kernel
theorem dX0_ticksToRing_17 : decode cX0_ticksToRing 17 = .ok (.iconst 1, 1) := by decide +kernel
theorem dX0_ticksToRing_18 : decode cX0_ticksToRing 18 = .ok (.istore 4, 2) := by decide +kernel
theorem dX0_ticksToRing_20 : decode cX0_ticksToRing 20 = .ok (.iload 4, 2) := by decide +kernel
theorem dX0_ticksToRing_22 : decode cX0_ticksToRing 22 = .ok (.sipush 200, 3) := by decide +kernel
theorem dX0_ticksToRing_25 : decode cX0_ticksToRing 25 = .ok (.if_icmp .gt 27, 3) := by decide +kernel
theorem dX0_ticksToRing_28 : decode cX0_ticksToRing 28 = .ok (.aload_n 0, 1) := by decide +kernel
theorem dX0_ticksToRing_29 : decode cX0_ticksToRing 29 = .ok (.iload_n 1, 1) := by decide +kernel
theorem dX0_ticksToRing_30 : decode cX0_ticksToRing 30 = .ok (.iload_n 3, 1) := by decide +kernel
theorem dX0_ticksToRing_31 : decode cX0_ticksToRing 31 = .ok (.invokevirtual 42, 3) := by decide +kernel
theorem dX0_ticksToRing_34 : decode cX0_ticksToRing 34 = .ok (.istore_n 3, 1) := by decide +kernel
theorem dX0_ticksToRing_35 : decode cX0_ticksToRing 35 = .ok (.iload_n 3, 1) := by decide +kernel
theorem dX0_ticksToRing_36 : decode cX0_ticksToRing 36 = .ok (.bipush 60, 2) := by decide +kernel
theorem dX0_ticksToRing_38 : decode cX0_ticksToRing 38 = .ok (.idiv, 1) := by decide +kernel
theorem dX0_ticksToRing_39 : decode cX0_ticksToRing 39 = .ok (.iload_n 2, 1) := by decide +kernel
theorem dX0_ticksToRing_40 : decode cX0_ticksToRing 40 = .ok (.if_icmp .le 6, 3) := by decide +kernel
theorem dX0_ticksToRing_43 : decode cX0_ticksToRing 43 = .ok (.iload 4, 2) := by decide +kernel
theorem dX0_ticksToRing_45 : decode cX0_ticksToRing 45 = .ok (.ireturn, 1) := by decide +kernel
theorem dX0_ticksToRing_46 : decode cX0_ticksToRing 46 = .ok (.iinc 4 1, 3) := by decide +kernel
theorem dX0_ticksToRing_49 : decode cX0_ticksToRing 49 = .ok (.goto (-29), 3) := by decide +kernel
theorem dX0_ticksToRing_52 : decode cX0_ticksToRing 52 = .ok (.iconst (-1), 1) := by decide +kernel
theorem dX0_ticksToRing_53 : decode cX0_ticksToRing 53 = .ok (.ireturn, 1) := by decide +kernel
theorem dX1_init_0 : decode cX1_init 0 = .ok (.aload_n 0, 1) := by decide +kernel
theorem dX1_init_1 : decode cX1_init 1 = .ok (.invokespecial 3, 3) := by decide +kernel
theorem dX1_init_4 : decode cX1_init 4 = .ok (.aload_n 0, 1) := by decide +kernel
theorem dX1_init_5 : decode cX1_init 5 = .ok (.bipush 6, 2) := by decide +kernel
theorem dX1_init_7 : decode cX1_init 7 = .ok (.anewarray 9, 3) := by decide +kernel
theorem dX1_init_10 : decode cX1_init 10 = .ok (.putfield 11, 3) := by decide +kernel
theorem dX1_init_13 : decode cX1_init 13 = .ok (.iconst 0, 1) := by decide +kernel
theorem dX1_init_14 : decode cX1_init 14 = .ok (.istore_n 1, 1) := by decide +kernel
theorem dX1_init_15 : decode cX1_init 15 = .ok (.iload_n 1, 1) := by decide +kernel
theorem dX1_init_16 : decode cX1_init 16 = .ok (.bipush 6, 2) := by decide +kernel
theorem dX1_init_18 : decode cX1_init 18 = .ok (.if_icmp .ge 22, 3) := by decide +kernel
theorem dX1_init_21 : decode cX1_init 21 = .ok (.aload_n 0, 1) := by decide +kernel
theorem dX1_init_22 : decode cX1_init 22 = .ok (.getfield 11, 3) := by decide +kernel
theorem dX1_init_25 : decode cX1_init 25 = .ok (.iload_n 1, 1) := by decide +kernel
theorem dX1_init_26 : decode cX1_init 26 = .ok (.new 9, 3) := by decide +kernel
theorem dX1_init_29 : decode cX1_init 29 = .ok (.dup, 1) := by decide +kernel
theorem dX1_init_30 : decode cX1_init 30 = .ok (.invokespecial 17, 3) := by decide +kernel
theorem dX1_init_33 : decode cX1_init 33 = .ok (.aastore, 1) := by decide +kernel
theorem dX1_init_34 : decode cX1_init 34 = .ok (.iinc 1 1, 3) := by decide +kernel
theorem dX1_init_37 : decode cX1_init 37 = .ok (.goto (-22), 3) := by decide +kernel
theorem dX1_init_40 : decode cX1_init 40 = .ok (.return_, 1) := by decide +kernel
theorem dX1_save_0 : decode cX1_save 0 = .ok (.aload_n 0, 1) := by decide +kernel
theorem dX1_save_1 : decode cX1_save 1 = .ok (.getfield 18, 3) := by decide +kernel
theorem dX1_save_4 : decode cX1_save 4 = .ok (.bipush 6, 2) := by decide +kernel
theorem dX1_save_6 : decode cX1_save 6 = .ok (.if_icmp .lt 7, 3) := by decide +kernel
theorem dX1_save_9 : decode cX1_save 9 = .ok (.aload_n 0, 1) := by decide +kernel
theorem dX1_save_10 : decode cX1_save 10 = .ok (.invokevirtual 22, 3) := by decide +kernel
theorem dX1_save_13 : decode cX1_save 13 = .ok (.aload_n 0, 1) := by decide +kernel
theorem dX1_save_14 : decode cX1_save 14 = .ok (.aload_n 0, 1) := by decide +kernel
theorem dX1_save_15 : decode cX1_save 15 = .ok (.getfield 18, 3) := by decide +kernel
theorem dX1_save_18 : decode cX1_save 18 = .ok (.invokevirtual 25, 3) := by decide +kernel
theorem dX1_save_21 : decode cX1_save 21 = .ok (.astore_n 2, 1) := by decide +kernel
theorem dX1_save_22 : decode cX1_save 22 = .ok (.aload_n 2, 1) := by decide +kernel
theorem dX1_save_23 : decode cX1_save 23 = .ok (.ifnull 18, 3) := by decide +kernel
theorem dX1_save_26 : decode cX1_save 26 = .ok (.aload_n 2, 1) := by decide +kernel
theorem dX1_save_27 : decode cX1_save 27 = .ok (.aload_n 1, 1) := by decide +kernel
theorem dX1_save_28 : decode cX1_save 28 = .ok (.invokevirtual 29, 3) := by decide +kernel
theorem dX1_save_31 : decode cX1_save 31 = .ok (.aload_n 0, 1) := by decide +kernel
theorem dX1_save_32 : decode cX1_save 32 = .ok (.dup, 1) := by decide +kernel
theorem dX1_save_33 : decode cX1_save 33 = .ok (.getfield 18, 3) := by decide +kernel
theorem dX1_save_36 : decode cX1_save 36 = .ok (.iconst 1, 1) := by decide +kernel
theorem dX1_save_37 : decode cX1_save 37 = .ok (.iadd, 1) := by decide +kernel
theorem dX1_save_38 : decode cX1_save 38 = .ok (.putfield 18, 3) := by decide +kernel
theorem dX1_save_41 : decode cX1_save 41 = .ok (.return_, 1) := by decide +kernel
theorem dX1_stateAt_0 : decode cX1_stateAt 0 = .ok (.iload_n 1, 1) := by decide +kernel
theorem dX1_stateAt_1 : decode cX1_stateAt 1 = .ok (.ifCond .lt 21, 3) := by decide +kernel
theorem dX1_stateAt_4 : decode cX1_stateAt 4 = .ok (.iload_n 1, 1) := by decide +kernel
theorem dX1_stateAt_5 : decode cX1_stateAt 5 = .ok (.aload_n 0, 1) := by decide +kernel
theorem dX1_stateAt_6 : decode cX1_stateAt 6 = .ok (.getfield 11, 3) := by decide +kernel
theorem dX1_stateAt_9 : decode cX1_stateAt 9 = .ok (.arraylength, 1) := by decide +kernel
theorem dX1_stateAt_10 : decode cX1_stateAt 10 = .ok (.if_icmp .ge 12, 3) := by decide +kernel
theorem dX1_stateAt_13 : decode cX1_stateAt 13 = .ok (.aload_n 0, 1) := by decide +kernel
theorem dX1_stateAt_14 : decode cX1_stateAt 14 = .ok (.getfield 11, 3) := by decide +kernel
theorem dX1_stateAt_17 : decode cX1_stateAt 17 = .ok (.iload_n 1, 1) := by decide +kernel
theorem dX1_stateAt_18 : decode cX1_stateAt 18 = .ok (.aaload, 1) := by decide +kernel
theorem dX1_stateAt_19 : decode cX1_stateAt 19 = .ok (.goto 4, 3) := by decide +kernel
theorem dX1_stateAt_22 : decode cX1_stateAt 22 = .ok (.aconst_null, 1) := by decide +kernel
theorem dX1_stateAt_23 : decode cX1_stateAt 23 = .ok (.areturn, 1) := by decide +kernel
theorem dX1_dropOldest_0 : decode cX1_dropOldest 0 = .ok (.aload_n 0, 1) := by decide +kernel
theorem dX1_dropOldest_1 : decode cX1_dropOldest 1 = .ok (.getfield 11, 3) := by decide +kernel
theorem dX1_dropOldest_4 : decode cX1_dropOldest 4 = .ok (.iconst 0, 1) := by decide +kernel
theorem dX1_dropOldest_5 : decode cX1_dropOldest 5 = .ok (.aaload, 1) := by decide +kernel
theorem dX1_dropOldest_6 : decode cX1_dropOldest 6 = .ok (.astore_n 1, 1) := by decide +kernel
theorem dX1_dropOldest_7 : decode cX1_dropOldest 7 = .ok (.iconst 1, 1) := by decide +kernel
theorem dX1_dropOldest_8 : decode cX1_dropOldest 8 = .ok (.istore_n 2, 1) := by decide +kernel
theorem dX1_dropOldest_9 : decode cX1_dropOldest 9 = .ok (.iload_n 2, 1) := by decide +kernel
theorem dX1_dropOldest_10 : decode cX1_dropOldest 10 = .ok (.bipush 6, 2) := by decide +kernel
theorem dX1_dropOldest_12 : decode cX1_dropOldest 12 = .ok (.if_icmp .ge 23, 3) := by decide +kernel
theorem dX1_dropOldest_15 : decode cX1_dropOldest 15 = .ok (.aload_n 0, 1) := by decide +kernel
theorem dX1_dropOldest_16 : decode cX1_dropOldest 16 = .ok (.getfield 11, 3) := by decide +kernel
theorem dX1_dropOldest_19 : decode cX1_dropOldest 19 = .ok (.iload_n 2, 1) := by decide +kernel
theorem dX1_dropOldest_20 : decode cX1_dropOldest 20 = .ok (.iconst 1, 1) := by decide +kernel
theorem dX1_dropOldest_21 : decode cX1_dropOldest 21 = .ok (.isub, 1) := by decide +kernel
theorem dX1_dropOldest_22 : decode cX1_dropOldest 22 = .ok (.aload_n 0, 1) := by decide +kernel
theorem dX1_dropOldest_23 : decode cX1_dropOldest 23 = .ok (.getfield 11, 3) := by decide +kernel
theorem dX1_dropOldest_26 : decode cX1_dropOldest 26 = .ok (.iload_n 2, 1) := by decide +kernel
theorem dX1_dropOldest_27 : decode cX1_dropOldest 27 = .ok (.aaload, 1) := by decide +kernel
theorem dX1_dropOldest_28 : decode cX1_dropOldest 28 = .ok (.aastore, 1) := by decide +kernel
theorem dX1_dropOldest_29 : decode cX1_dropOldest 29 = .ok (.iinc 2 1, 3) := by decide +kernel
theorem dX1_dropOldest_32 : decode cX1_dropOldest 32 = .ok (.goto (-23), 3) := by decide +kernel
theorem dX1_dropOldest_35 : decode cX1_dropOldest 35 = .ok (.aload_n 0, 1) := by decide +kernel
theorem dX1_dropOldest_36 : decode cX1_dropOldest 36 = .ok (.getfield 11, 3) := by decide +kernel
theorem dX1_dropOldest_39 : decode cX1_dropOldest 39 = .ok (.iconst 5, 1) := by decide +kernel
theorem dX1_dropOldest_40 : decode cX1_dropOldest 40 = .ok (.aload_n 1, 1) := by decide +kernel
theorem dX1_dropOldest_41 : decode cX1_dropOldest 41 = .ok (.aastore, 1) := by decide +kernel
theorem dX1_dropOldest_42 : decode cX1_dropOldest 42 = .ok (.aload_n 0, 1) := by decide +kernel
theorem dX1_dropOldest_43 : decode cX1_dropOldest 43 = .ok (.dup, 1) := by decide +kernel
theorem dX1_dropOldest_44 : decode cX1_dropOldest 44 = .ok (.getfield 18, 3) := by decide +kernel
theorem dX1_dropOldest_47 : decode cX1_dropOldest 47 = .ok (.iconst 1, 1) := by decide +kernel
theorem dX1_dropOldest_48 : decode cX1_dropOldest 48 = .ok (.isub, 1) := by decide +kernel
theorem dX1_dropOldest_49 : decode cX1_dropOldest 49 = .ok (.putfield 18, 3) := by decide +kernel
theorem dX1_dropOldest_52 : decode cX1_dropOldest 52 = .ok (.return_, 1) := by decide +kernel
theorem dX1_restore_0 : decode cX1_restore 0 = .ok (.aload_n 0, 1) := by decide +kernel
theorem dX1_restore_1 : decode cX1_restore 1 = .ok (.aload_n 0, 1) := by decide +kernel
theorem dX1_restore_2 : decode cX1_restore 2 = .ok (.getfield 18, 3) := by decide +kernel
theorem dX1_restore_5 : decode cX1_restore 5 = .ok (.iconst 1, 1) := by decide +kernel
theorem dX1_restore_6 : decode cX1_restore 6 = .ok (.isub, 1) := by decide +kernel
theorem dX1_restore_7 : decode cX1_restore 7 = .ok (.invokevirtual 25, 3) := by decide +kernel
theorem dX1_restore_10 : decode cX1_restore 10 = .ok (.astore_n 2, 1) := by decide +kernel
theorem dX1_restore_11 : decode cX1_restore 11 = .ok (.aload_n 2, 1) := by decide +kernel
theorem dX1_restore_12 : decode cX1_restore 12 = .ok (.ifnull 18, 3) := by decide +kernel
theorem dX1_restore_15 : decode cX1_restore 15 = .ok (.aload_n 1, 1) := by decide +kernel
theorem dX1_restore_16 : decode cX1_restore 16 = .ok (.aload_n 2, 1) := by decide +kernel
theorem dX1_restore_17 : decode cX1_restore 17 = .ok (.invokevirtual 29, 3) := by decide +kernel
theorem dX1_restore_20 : decode cX1_restore 20 = .ok (.aload_n 0, 1) := by decide +kernel
theorem dX1_restore_21 : decode cX1_restore 21 = .ok (.dup, 1) := by decide +kernel
theorem dX1_restore_22 : decode cX1_restore 22 = .ok (.getfield 18, 3) := by decide +kernel
theorem dX1_restore_25 : decode cX1_restore 25 = .ok (.iconst 1, 1) := by decide +kernel
theorem dX1_restore_26 : decode cX1_restore 26 = .ok (.isub, 1) := by decide +kernel
theorem dX1_restore_27 : decode cX1_restore 27 = .ok (.putfield 18, 3) := by decide +kernel
theorem dX1_restore_30 : decode cX1_restore 30 = .ok (.return_, 1) := by decide +kernel
theorem dX2_init_0 : decode cX2_init 0 = .ok (.aload_n 0, 1) := by decide +kernel
theorem dX2_init_1 : decode cX2_init 1 = .ok (.invokespecial 3, 3) := by decide +kernel
theorem dX2_init_4 : decode cX2_init 4 = .ok (.aload_n 0, 1) := by decide +kernel
theorem dX2_init_5 : decode cX2_init 5 = .ok (.bipush 60, 2) := by decide +kernel
theorem dX2_init_7 : decode cX2_init 7 = .ok (.newarray .int, 2) := by decide +kernel
theorem dX2_init_9 : decode cX2_init 9 = .ok (.putfield 9, 3) := by decide +kernel
theorem dX2_init_12 : decode cX2_init 12 = .ok (.return_, 1) := by decide +kernel
theorem dX2_add_0 : decode cX2_add 0 = .ok (.aload_n 0, 1) := by decide +kernel
theorem dX2_add_1 : decode cX2_add 1 = .ok (.getfield 15, 3) := by decide +kernel
theorem dX2_add_4 : decode cX2_add 4 = .ok (.ifCond .lt 35, 3) := by decide +kernel
theorem dX2_add_7 : decode cX2_add 7 = .ok (.aload_n 0, 1) := by decide +kernel
theorem dX2_add_8 : decode cX2_add 8 = .ok (.getfield 15, 3) := by decide +kernel
theorem dX2_add_11 : decode cX2_add 11 = .ok (.aload_n 0, 1) := by decide +kernel
theorem dX2_add_12 : decode cX2_add 12 = .ok (.getfield 9, 3) := by decide +kernel
theorem dX2_add_15 : decode cX2_add 15 = .ok (.arraylength, 1) := by decide +kernel
theorem dX2_add_16 : decode cX2_add 16 = .ok (.if_icmp .ge 23, 3) := by decide +kernel
theorem dX2_add_19 : decode cX2_add 19 = .ok (.aload_n 0, 1) := by decide +kernel
theorem dX2_add_20 : decode cX2_add 20 = .ok (.getfield 9, 3) := by decide +kernel
theorem dX2_add_23 : decode cX2_add 23 = .ok (.aload_n 0, 1) := by decide +kernel
theorem dX2_add_24 : decode cX2_add 24 = .ok (.getfield 15, 3) := by decide +kernel
theorem dX2_add_27 : decode cX2_add 27 = .ok (.iload_n 1, 1) := by decide +kernel
theorem dX2_add_28 : decode cX2_add 28 = .ok (.iastore, 1) := by decide +kernel
theorem dX2_add_29 : decode cX2_add 29 = .ok (.aload_n 0, 1) := by decide +kernel
theorem dX2_add_30 : decode cX2_add 30 = .ok (.dup, 1) := by decide +kernel
theorem dX2_add_31 : decode cX2_add 31 = .ok (.getfield 15, 3) := by decide +kernel
theorem dX2_add_34 : decode cX2_add 34 = .ok (.iconst 1, 1) := by decide +kernel
theorem dX2_add_35 : decode cX2_add 35 = .ok (.iadd, 1) := by decide +kernel
theorem dX2_add_36 : decode cX2_add 36 = .ok (.putfield 15, 3) := by decide +kernel
theorem dX2_add_39 : decode cX2_add 39 = .ok (.return_, 1) := by decide +kernel
theorem dX2_empty_0 : decode cX2_empty 0 = .ok (.aload_n 0, 1) := by decide +kernel
theorem dX2_empty_1 : decode cX2_empty 1 = .ok (.iconst 0, 1) := by decide +kernel
theorem dX2_empty_2 : decode cX2_empty 2 = .ok (.putfield 15, 3) := by decide +kernel
theorem dX2_empty_5 : decode cX2_empty 5 = .ok (.return_, 1) := by decide +kernel
theorem dX2_codeAt_0 : decode cX2_codeAt 0 = .ok (.iload_n 1, 1) := by decide +kernel
theorem dX2_codeAt_1 : decode cX2_codeAt 1 = .ok (.ifCond .lt 29, 3) := by decide +kernel
theorem dX2_codeAt_4 : decode cX2_codeAt 4 = .ok (.iload_n 1, 1) := by decide +kernel
theorem dX2_codeAt_5 : decode cX2_codeAt 5 = .ok (.aload_n 0, 1) := by decide +kernel
theorem dX2_codeAt_6 : decode cX2_codeAt 6 = .ok (.getfield 15, 3) := by decide +kernel
theorem dX2_codeAt_9 : decode cX2_codeAt 9 = .ok (.if_icmp .ge 21, 3) := by decide +kernel
theorem dX2_codeAt_12 : decode cX2_codeAt 12 = .ok (.iload_n 1, 1) := by decide +kernel
theorem dX2_codeAt_13 : decode cX2_codeAt 13 = .ok (.aload_n 0, 1) := by decide +kernel
theorem dX2_codeAt_14 : decode cX2_codeAt 14 = .ok (.getfield 9, 3) := by decide +kernel
theorem dX2_codeAt_17 : decode cX2_codeAt 17 = .ok (.arraylength, 1) := by decide +kernel
theorem dX2_codeAt_18 : decode cX2_codeAt 18 = .ok (.if_icmp .ge 12, 3) := by decide +kernel
theorem dX2_codeAt_21 : decode cX2_codeAt 21 = .ok (.aload_n 0, 1) := by decide +kernel
theorem dX2_codeAt_22 : decode cX2_codeAt 22 = .ok (.getfield 9, 3) := by decide +kernel
theorem dX2_codeAt_25 : decode cX2_codeAt 25 = .ok (.iload_n 1, 1) := by decide +kernel
theorem dX2_codeAt_26 : decode cX2_codeAt 26 = .ok (.iaload, 1) := by decide +kernel
theorem dX2_codeAt_27 : decode cX2_codeAt 27 = .ok (.goto 4, 3) := by decide +kernel
theorem dX2_codeAt_30 : decode cX2_codeAt 30 = .ok (.iconst 0, 1) := by decide +kernel
theorem dX2_codeAt_31 : decode cX2_codeAt 31 = .ok (.ireturn, 1) := by decide +kernel
theorem dX2_errorPlace_0 : decode cX2_errorPlace 0 = .ok (.iconst 0, 1) := by decide +kernel
theorem dX2_errorPlace_1 : decode cX2_errorPlace 1 = .ok (.istore_n 1, 1) := by decide +kernel
theorem dX2_errorPlace_2 : decode cX2_errorPlace 2 = .ok (.iconst 0, 1) := by decide +kernel
theorem dX2_errorPlace_3 : decode cX2_errorPlace 3 = .ok (.istore_n 2, 1) := by decide +kernel
theorem dX2_errorPlace_4 : decode cX2_errorPlace 4 = .ok (.iload_n 2, 1) := by decide +kernel
theorem dX2_errorPlace_5 : decode cX2_errorPlace 5 = .ok (.aload_n 0, 1) := by decide +kernel
theorem dX2_errorPlace_6 : decode cX2_errorPlace 6 = .ok (.getfield 15, 3) := by decide +kernel
theorem dX2_errorPlace_9 : decode cX2_errorPlace 9 = .ok (.if_icmp .ge 26, 3) := by decide +kernel
theorem dX2_errorPlace_12 : decode cX2_errorPlace 12 = .ok (.iload_n 1, 1) := by decide +kernel
theorem dX2_errorPlace_13 : decode cX2_errorPlace 13 = .ok (.aload_n 0, 1) := by decide +kernel
theorem dX2_errorPlace_14 : decode cX2_errorPlace 14 = .ok (.iload_n 2, 1) := by decide +kernel
theorem dX2_errorPlace_15 : decode cX2_errorPlace 15 = .ok (.invokevirtual 19, 3) := by decide +kernel
theorem dX2_errorPlace_18 : decode cX2_errorPlace 18 = .ok (.invokestatic 23, 3) := by decide +kernel
theorem dX2_errorPlace_21 : decode cX2_errorPlace 21 = .ok (.istore_n 1, 1) := by decide +kernel
theorem dX2_errorPlace_22 : decode cX2_errorPlace 22 = .ok (.iload_n 1, 1) := by decide +kernel
theorem dX2_errorPlace_23 : decode cX2_errorPlace 23 = .ok (.iconst (-1), 1) := by decide +kernel
theorem dX2_errorPlace_24 : decode cX2_errorPlace 24 = .ok (.if_icmp .ne 5, 3) := by decide +kernel
theorem dX2_errorPlace_27 : decode cX2_errorPlace 27 = .ok (.iload_n 2, 1) := by decide +kernel
theorem dX2_errorPlace_28 : decode cX2_errorPlace 28 = .ok (.ireturn, 1) := by decide +kernel
theorem dX2_errorPlace_29 : decode cX2_errorPlace 29 = .ok (.iinc 2 1, 3) := by decide +kernel
theorem dX2_errorPlace_32 : decode cX2_errorPlace 32 = .ok (.goto (-28), 3) := by decide +kernel
theorem dX2_errorPlace_35 : decode cX2_errorPlace 35 = .ok (.aload_n 0, 1) := by decide +kernel
theorem dX2_errorPlace_36 : decode cX2_errorPlace 36 = .ok (.getfield 15, 3) := by decide +kernel
theorem dX2_errorPlace_39 : decode cX2_errorPlace 39 = .ok (.ireturn, 1) := by decide +kernel
theorem dX2_areComplete_0 : decode cX2_areComplete 0 = .ok (.iconst 0, 1) := by decide +kernel
theorem dX2_areComplete_1 : decode cX2_areComplete 1 = .ok (.istore_n 1, 1) := by decide +kernel
theorem dX2_areComplete_2 : decode cX2_areComplete 2 = .ok (.iconst 0, 1) := by decide +kernel
theorem dX2_areComplete_3 : decode cX2_areComplete 3 = .ok (.istore_n 2, 1) := by decide +kernel
theorem dX2_areComplete_4 : decode cX2_areComplete 4 = .ok (.iload_n 2, 1) := by decide +kernel
theorem dX2_areComplete_5 : decode cX2_areComplete 5 = .ok (.aload_n 0, 1) := by decide +kernel
theorem dX2_areComplete_6 : decode cX2_areComplete 6 = .ok (.getfield 15, 3) := by decide +kernel
theorem dX2_areComplete_9 : decode cX2_areComplete 9 = .ok (.if_icmp .ge 24, 3) := by decide +kernel
theorem dX2_areComplete_12 : decode cX2_areComplete 12 = .ok (.iload_n 1, 1) := by decide +kernel
theorem dX2_areComplete_13 : decode cX2_areComplete 13 = .ok (.iconst (-1), 1) := by decide +kernel
theorem dX2_areComplete_14 : decode cX2_areComplete 14 = .ok (.if_icmp .eq 19, 3) := by decide +kernel
theorem dX2_areComplete_17 : decode cX2_areComplete 17 = .ok (.iload_n 1, 1) := by decide +kernel
theorem dX2_areComplete_18 : decode cX2_areComplete 18 = .ok (.aload_n 0, 1) := by decide +kernel
theorem dX2_areComplete_19 : decode cX2_areComplete 19 = .ok (.iload_n 2, 1) := by decide +kernel
theorem dX2_areComplete_20 : decode cX2_areComplete 20 = .ok (.invokevirtual 19, 3) := by decide +kernel
theorem dX2_areComplete_23 : decode cX2_areComplete 23 = .ok (.invokestatic 23, 3) := by decide +kernel
theorem dX2_areComplete_26 : decode cX2_areComplete 26 = .ok (.istore_n 1, 1) := by decide +kernel
theorem dX2_areComplete_27 : decode cX2_areComplete 27 = .ok (.iinc 2 1, 3) := by decide +kernel
theorem dX2_areComplete_30 : decode cX2_areComplete 30 = .ok (.goto (-26), 3) := by decide +kernel
theorem dX2_areComplete_33 : decode cX2_areComplete 33 = .ok (.iload_n 1, 1) := by decide +kernel
theorem dX2_areComplete_34 : decode cX2_areComplete 34 = .ok (.iconst 2, 1) := by decide +kernel
theorem dX2_areComplete_35 : decode cX2_areComplete 35 = .ok (.if_icmp .eq 8, 3) := by decide +kernel
theorem dX2_areComplete_38 : decode cX2_areComplete 38 = .ok (.iload_n 1, 1) := by decide +kernel
theorem dX2_areComplete_39 : decode cX2_areComplete 39 = .ok (.iconst 3, 1) := by decide +kernel
theorem dX2_areComplete_40 : decode cX2_areComplete 40 = .ok (.if_icmp .ne 7, 3) := by decide +kernel
theorem dX2_areComplete_43 : decode cX2_areComplete 43 = .ok (.iconst 1, 1) := by decide +kernel
theorem dX2_areComplete_44 : decode cX2_areComplete 44 = .ok (.goto 4, 3) := by decide +kernel
theorem dX2_areComplete_47 : decode cX2_areComplete 47 = .ok (.iconst 0, 1) := by decide +kernel
theorem dX2_areComplete_48 : decode cX2_areComplete 48 = .ok (.ireturn, 1) := by decide +kernel
theorem dX2_dueAfter_0 : decode cX2_dueAfter 0 = .ok (.iload_n 0, 1) := by decide +kernel
theorem dX2_dueAfter_1 : decode cX2_dueAfter 1 = .ok (.tableswitch 143 0 6 #[43, 48, 65, 85, 90, 107, 126], 43) := by decide +kernel
theorem dX2_dueAfter_44 : decode cX2_dueAfter 44 = .ok (.iload_n 1, 1) := by decide +kernel
theorem dX2_dueAfter_45 : decode cX2_dueAfter 45 = .ok (.invokestatic 27, 3) := by decide +kernel
theorem dX2_dueAfter_48 : decode cX2_dueAfter 48 = .ok (.ireturn, 1) := by decide +kernel
theorem dX2_dueAfter_49 : decode cX2_dueAfter 49 = .ok (.iload_n 1, 1) := by decide +kernel
theorem dX2_dueAfter_50 : decode cX2_dueAfter 50 = .ok (.bipush 49, 2) := by decide +kernel
theorem dX2_dueAfter_52 : decode cX2_dueAfter 52 = .ok (.bipush 57, 2) := by decide +kernel
theorem dX2_dueAfter_54 : decode cX2_dueAfter 54 = .ok (.invokestatic 30, 3) := by decide +kernel
theorem dX2_dueAfter_57 : decode cX2_dueAfter 57 = .ok (.ifCond .eq 7, 3) := by decide +kernel
theorem dX2_dueAfter_60 : decode cX2_dueAfter 60 = .ok (.iconst 2, 1) := by decide +kernel
theorem dX2_dueAfter_61 : decode cX2_dueAfter 61 = .ok (.goto 4, 3) := by decide +kernel
theorem dX2_dueAfter_64 : decode cX2_dueAfter 64 = .ok (.iconst (-1), 1) := by decide +kernel
theorem dX2_dueAfter_65 : decode cX2_dueAfter 65 = .ok (.ireturn, 1) := by decide +kernel
theorem dX2_dueAfter_66 : decode cX2_dueAfter 66 = .ok (.iload_n 1, 1) := by decide +kernel
theorem dX2_dueAfter_67 : decode cX2_dueAfter 67 = .ok (.bipush 48, 2) := by decide +kernel
theorem dX2_dueAfter_69 : decode cX2_dueAfter 69 = .ok (.bipush 57, 2) := by decide +kernel
theorem dX2_dueAfter_71 : decode cX2_dueAfter 71 = .ok (.invokestatic 30, 3) := by decide +kernel
theorem dX2_dueAfter_74 : decode cX2_dueAfter 74 = .ok (.ifCond .eq 7, 3) := by decide +kernel
theorem dX2_dueAfter_77 : decode cX2_dueAfter 77 = .ok (.iconst 3, 1) := by decide +kernel
theorem dX2_dueAfter_78 : decode cX2_dueAfter 78 = .ok (.goto 7, 3) := by decide +kernel
theorem dX2_dueAfter_81 : decode cX2_dueAfter 81 = .ok (.iload_n 1, 1) := by decide +kernel
theorem dX2_dueAfter_82 : decode cX2_dueAfter 82 = .ok (.invokestatic 34, 3) := by decide +kernel
theorem dX2_dueAfter_85 : decode cX2_dueAfter 85 = .ok (.ireturn, 1) := by decide +kernel
theorem dX2_dueAfter_86 : decode cX2_dueAfter 86 = .ok (.iload_n 1, 1) := by decide +kernel
theorem dX2_dueAfter_87 : decode cX2_dueAfter 87 = .ok (.invokestatic 34, 3) := by decide +kernel
theorem dX2_dueAfter_90 : decode cX2_dueAfter 90 = .ok (.ireturn, 1) := by decide +kernel
theorem dX2_dueAfter_91 : decode cX2_dueAfter 91 = .ok (.iload_n 1, 1) := by decide +kernel
theorem dX2_dueAfter_92 : decode cX2_dueAfter 92 = .ok (.bipush 48, 2) := by decide +kernel
theorem dX2_dueAfter_94 : decode cX2_dueAfter 94 = .ok (.bipush 54, 2) := by decide +kernel
theorem dX2_dueAfter_96 : decode cX2_dueAfter 96 = .ok (.invokestatic 30, 3) := by decide +kernel
theorem dX2_dueAfter_99 : decode cX2_dueAfter 99 = .ok (.ifCond .eq 7, 3) := by decide +kernel
theorem dX2_dueAfter_102 : decode cX2_dueAfter 102 = .ok (.iconst 5, 1) := by decide +kernel
theorem dX2_dueAfter_103 : decode cX2_dueAfter 103 = .ok (.goto 4, 3) := by decide +kernel
theorem dX2_dueAfter_106 : decode cX2_dueAfter 106 = .ok (.iconst (-1), 1) := by decide +kernel
theorem dX2_dueAfter_107 : decode cX2_dueAfter 107 = .ok (.ireturn, 1) := by decide +kernel
theorem dX2_dueAfter_108 : decode cX2_dueAfter 108 = .ok (.iload_n 1, 1) := by decide +kernel
theorem dX2_dueAfter_109 : decode cX2_dueAfter 109 = .ok (.bipush 43, 2) := by decide +kernel
theorem dX2_dueAfter_111 : decode cX2_dueAfter 111 = .ok (.if_icmp .eq 9, 3) := by decide +kernel
theorem dX2_dueAfter_114 : decode cX2_dueAfter 114 = .ok (.iload_n 1, 1) := by decide +kernel
theorem dX2_dueAfter_115 : decode cX2_dueAfter 115 = .ok (.bipush 45, 2) := by decide +kernel
theorem dX2_dueAfter_117 : decode cX2_dueAfter 117 = .ok (.if_icmp .ne 8, 3) := by decide +kernel
theorem dX2_dueAfter_120 : decode cX2_dueAfter 120 = .ok (.bipush 6, 2) := by decide +kernel
theorem dX2_dueAfter_122 : decode cX2_dueAfter 122 = .ok (.goto 4, 3) := by decide +kernel
theorem dX2_dueAfter_125 : decode cX2_dueAfter 125 = .ok (.iconst (-1), 1) := by decide +kernel
theorem dX2_dueAfter_126 : decode cX2_dueAfter 126 = .ok (.ireturn, 1) := by decide +kernel
theorem dX2_dueAfter_127 : decode cX2_dueAfter 127 = .ok (.iload_n 1, 1) := by decide +kernel
theorem dX2_dueAfter_128 : decode cX2_dueAfter 128 = .ok (.bipush 48, 2) := by decide +kernel
theorem dX2_dueAfter_130 : decode cX2_dueAfter 130 = .ok (.bipush 53, 2) := by decide +kernel
theorem dX2_dueAfter_132 : decode cX2_dueAfter 132 = .ok (.invokestatic 30, 3) := by decide +kernel
theorem dX2_dueAfter_135 : decode cX2_dueAfter 135 = .ok (.ifCond .eq 7, 3) := by decide +kernel
theorem dX2_dueAfter_138 : decode cX2_dueAfter 138 = .ok (.iconst 3, 1) := by decide +kernel
theorem dX2_dueAfter_139 : decode cX2_dueAfter 139 = .ok (.goto 4, 3) := by decide +kernel
theorem dX2_dueAfter_142 : decode cX2_dueAfter 142 = .ok (.iconst (-1), 1) := by decide +kernel
theorem dX2_dueAfter_143 : decode cX2_dueAfter 143 = .ok (.ireturn, 1) := by decide +kernel
theorem dX2_dueAfter_144 : decode cX2_dueAfter 144 = .ok (.iconst (-1), 1) := by decide +kernel
theorem dX2_dueAfter_145 : decode cX2_dueAfter 145 = .ok (.ireturn, 1) := by decide +kernel
theorem dX2_dueAfterKind_0 : decode cX2_dueAfterKind 0 = .ok (.iload_n 0, 1) := by decide +kernel
theorem dX2_dueAfterKind_1 : decode cX2_dueAfterKind 1 = .ok (.lookupswitch 51 #[(99, 47), (100, 49), (116, 43), (118, 45)], 43) := by decide +kernel
theorem dX2_dueAfterKind_44 : decode cX2_dueAfterKind 44 = .ok (.iconst 1, 1) := by decide +kernel
theorem dX2_dueAfterKind_45 : decode cX2_dueAfterKind 45 = .ok (.ireturn, 1) := by decide +kernel
theorem dX2_dueAfterKind_46 : decode cX2_dueAfterKind 46 = .ok (.iconst 3, 1) := by decide +kernel
theorem dX2_dueAfterKind_47 : decode cX2_dueAfterKind 47 = .ok (.ireturn, 1) := by decide +kernel
theorem dX2_dueAfterKind_48 : decode cX2_dueAfterKind 48 = .ok (.iconst 3, 1) := by decide +kernel
theorem dX2_dueAfterKind_49 : decode cX2_dueAfterKind 49 = .ok (.ireturn, 1) := by decide +kernel
theorem dX2_dueAfterKind_50 : decode cX2_dueAfterKind 50 = .ok (.iconst 4, 1) := by decide +kernel
theorem dX2_dueAfterKind_51 : decode cX2_dueAfterKind 51 = .ok (.ireturn, 1) := by decide +kernel
theorem dX2_dueAfterKind_52 : decode cX2_dueAfterKind 52 = .ok (.iconst (-1), 1) := by decide +kernel
theorem dX2_dueAfterKind_53 : decode cX2_dueAfterKind 53 = .ok (.ireturn, 1) := by decide +kernel
theorem dX2_dueAfterPart_0 : decode cX2_dueAfterPart 0 = .ok (.iload_n 0, 1) := by decide +kernel
theorem dX2_dueAfterPart_1 : decode cX2_dueAfterPart 1 = .ok (.bipush 59, 2) := by decide +kernel
theorem dX2_dueAfterPart_3 : decode cX2_dueAfterPart 3 = .ok (.if_icmp .ne 7, 3) := by decide +kernel
theorem dX2_dueAfterPart_6 : decode cX2_dueAfterPart 6 = .ok (.iconst 0, 1) := by decide +kernel
theorem dX2_dueAfterPart_7 : decode cX2_dueAfterPart 7 = .ok (.goto 4, 3) := by decide +kernel
theorem dX2_dueAfterPart_10 : decode cX2_dueAfterPart 10 = .ok (.iconst (-1), 1) := by decide +kernel
theorem dX2_dueAfterPart_11 : decode cX2_dueAfterPart 11 = .ok (.ireturn, 1) := by decide +kernel
theorem dX2_isWithin_0 : decode cX2_isWithin 0 = .ok (.iload_n 0, 1) := by decide +kernel
theorem dX2_isWithin_1 : decode cX2_isWithin 1 = .ok (.iload_n 1, 1) := by decide +kernel
theorem dX2_isWithin_2 : decode cX2_isWithin 2 = .ok (.if_icmp .lt 12, 3) := by decide +kernel
theorem dX2_isWithin_5 : decode cX2_isWithin 5 = .ok (.iload_n 0, 1) := by decide +kernel
theorem dX2_isWithin_6 : decode cX2_isWithin 6 = .ok (.iload_n 2, 1) := by decide +kernel
theorem dX2_isWithin_7 : decode cX2_isWithin 7 = .ok (.if_icmp .gt 7, 3) := by decide +kernel
theorem dX2_isWithin_10 : decode cX2_isWithin 10 = .ok (.iconst 1, 1) := by decide +kernel
theorem dX2_isWithin_11 : decode cX2_isWithin 11 = .ok (.goto 4, 3) := by decide +kernel
theorem dX2_isWithin_14 : decode cX2_isWithin 14 = .ok (.iconst 0, 1) := by decide +kernel
theorem dX2_isWithin_15 : decode cX2_isWithin 15 = .ok (.ireturn, 1) := by decide +kernel
theorem dX2_isPartStart_0 : decode cX2_isPartStart 0 = .ok (.iload_n 1, 1) := by decide +kernel
theorem dX2_isPartStart_1 : decode cX2_isPartStart 1 = .ok (.ifCond .eq 15, 3) := by decide +kernel
theorem dX2_isPartStart_4 : decode cX2_isPartStart 4 = .ok (.aload_n 0, 1) := by decide +kernel
theorem dX2_isPartStart_5 : decode cX2_isPartStart 5 = .ok (.iload_n 1, 1) := by decide +kernel
theorem dX2_isPartStart_6 : decode cX2_isPartStart 6 = .ok (.iconst 1, 1) := by decide +kernel
theorem dX2_isPartStart_7 : decode cX2_isPartStart 7 = .ok (.isub, 1) := by decide +kernel
theorem dX2_isPartStart_8 : decode cX2_isPartStart 8 = .ok (.invokevirtual 19, 3) := by decide +kernel
theorem dX2_isPartStart_11 : decode cX2_isPartStart 11 = .ok (.bipush 59, 2) := by decide +kernel
theorem dX2_isPartStart_13 : decode cX2_isPartStart 13 = .ok (.if_icmp .ne 7, 3) := by decide +kernel
theorem dX2_isPartStart_16 : decode cX2_isPartStart 16 = .ok (.iconst 1, 1) := by decide +kernel
theorem dX2_isPartStart_17 : decode cX2_isPartStart 17 = .ok (.goto 4, 3) := by decide +kernel
theorem dX2_isPartStart_20 : decode cX2_isPartStart 20 = .ok (.iconst 0, 1) := by decide +kernel
theorem dX2_isPartStart_21 : decode cX2_isPartStart 21 = .ok (.ireturn, 1) := by decide +kernel
theorem dX2_figureAt_0 : decode cX2_figureAt 0 = .ok (.aload_n 0, 1) := by decide +kernel
theorem dX2_figureAt_1 : decode cX2_figureAt 1 = .ok (.iload_n 1, 1) := by decide +kernel
theorem dX2_figureAt_2 : decode cX2_figureAt 2 = .ok (.invokevirtual 19, 3) := by decide +kernel
theorem dX2_figureAt_5 : decode cX2_figureAt 5 = .ok (.bipush 48, 2) := by decide +kernel
theorem dX2_figureAt_7 : decode cX2_figureAt 7 = .ok (.isub, 1) := by decide +kernel
theorem dX2_figureAt_8 : decode cX2_figureAt 8 = .ok (.ireturn, 1) := by decide +kernel
theorem dX2_ticksAt_0 : decode cX2_ticksAt 0 = .ok (.aload_n 0, 1) := by decide +kernel
theorem dX2_ticksAt_1 : decode cX2_ticksAt 1 = .ok (.iload_n 1, 1) := by decide +kernel
theorem dX2_ticksAt_2 : decode cX2_ticksAt 2 = .ok (.invokevirtual 37, 3) := by decide +kernel
theorem dX2_ticksAt_5 : decode cX2_ticksAt 5 = .ok (.istore_n 2, 1) := by decide +kernel
theorem dX2_ticksAt_6 : decode cX2_ticksAt 6 = .ok (.aload_n 0, 1) := by decide +kernel
theorem dX2_ticksAt_7 : decode cX2_ticksAt 7 = .ok (.iload_n 1, 1) := by decide +kernel
theorem dX2_ticksAt_8 : decode cX2_ticksAt 8 = .ok (.iconst 1, 1) := by decide +kernel
theorem dX2_ticksAt_9 : decode cX2_ticksAt 9 = .ok (.iadd, 1) := by decide +kernel
theorem dX2_ticksAt_10 : decode cX2_ticksAt 10 = .ok (.invokevirtual 19, 3) := by decide +kernel
theorem dX2_ticksAt_13 : decode cX2_ticksAt 13 = .ok (.bipush 48, 2) := by decide +kernel
theorem dX2_ticksAt_15 : decode cX2_ticksAt 15 = .ok (.bipush 57, 2) := by decide +kernel
theorem dX2_ticksAt_17 : decode cX2_ticksAt 17 = .ok (.invokestatic 30, 3) := by decide +kernel
theorem dX2_ticksAt_20 : decode cX2_ticksAt 20 = .ok (.ifCond .eq 18, 3) := by decide +kernel
theorem dX2_ticksAt_23 : decode cX2_ticksAt 23 = .ok (.bipush 10, 2) := by decide +kernel
theorem dX2_ticksAt_25 : decode cX2_ticksAt 25 = .ok (.iload_n 2, 1) := by decide +kernel
theorem dX2_ticksAt_26 : decode cX2_ticksAt 26 = .ok (.imul, 1) := by decide +kernel
theorem dX2_ticksAt_27 : decode cX2_ticksAt 27 = .ok (.aload_n 0, 1) := by decide +kernel
theorem dX2_ticksAt_28 : decode cX2_ticksAt 28 = .ok (.iload_n 1, 1) := by decide +kernel
theorem dX2_ticksAt_29 : decode cX2_ticksAt 29 = .ok (.iconst 1, 1) := by decide +kernel
theorem dX2_ticksAt_30 : decode cX2_ticksAt 30 = .ok (.iadd, 1) := by decide +kernel
theorem dX2_ticksAt_31 : decode cX2_ticksAt 31 = .ok (.invokevirtual 37, 3) := by decide +kernel
theorem dX2_ticksAt_34 : decode cX2_ticksAt 34 = .ok (.iadd, 1) := by decide +kernel
theorem dX2_ticksAt_35 : decode cX2_ticksAt 35 = .ok (.goto 4, 3) := by decide +kernel
theorem dX2_ticksAt_38 : decode cX2_ticksAt 38 = .ok (.iload_n 2, 1) := by decide +kernel
theorem dX2_ticksAt_39 : decode cX2_ticksAt 39 = .ok (.ireturn, 1) := by decide +kernel
theorem dX2_driftAt_0 : decode cX2_driftAt 0 = .ok (.aload_n 0, 1) := by decide +kernel
theorem dX2_driftAt_1 : decode cX2_driftAt 1 = .ok (.iload_n 1, 1) := by decide +kernel
theorem dX2_driftAt_2 : decode cX2_driftAt 2 = .ok (.iconst 1, 1) := by decide +kernel
theorem dX2_driftAt_3 : decode cX2_driftAt 3 = .ok (.iadd, 1) := by decide +kernel
theorem dX2_driftAt_4 : decode cX2_driftAt 4 = .ok (.invokevirtual 37, 3) := by decide +kernel
theorem dX2_driftAt_7 : decode cX2_driftAt 7 = .ok (.istore_n 2, 1) := by decide +kernel
theorem dX2_driftAt_8 : decode cX2_driftAt 8 = .ok (.aload_n 0, 1) := by decide +kernel
theorem dX2_driftAt_9 : decode cX2_driftAt 9 = .ok (.iload_n 1, 1) := by decide +kernel
theorem dX2_driftAt_10 : decode cX2_driftAt 10 = .ok (.invokevirtual 19, 3) := by decide +kernel
theorem dX2_driftAt_13 : decode cX2_driftAt 13 = .ok (.bipush 45, 2) := by decide +kernel
theorem dX2_driftAt_15 : decode cX2_driftAt 15 = .ok (.if_icmp .ne 8, 3) := by decide +kernel
theorem dX2_driftAt_18 : decode cX2_driftAt 18 = .ok (.iload_n 2, 1) := by decide +kernel
theorem dX2_driftAt_19 : decode cX2_driftAt 19 = .ok (.ineg, 1) := by decide +kernel
theorem dX2_driftAt_20 : decode cX2_driftAt 20 = .ok (.goto 4, 3) := by decide +kernel
theorem dX2_driftAt_23 : decode cX2_driftAt 23 = .ok (.iload_n 2, 1) := by decide +kernel
theorem dX2_driftAt_24 : decode cX2_driftAt 24 = .ok (.ireturn, 1) := by decide +kernel
theorem dX3_init_0 : decode cX3_init 0 = .ok (.aload_n 0, 1) := by decide +kernel
theorem dX3_init_1 : decode cX3_init 1 = .ok (.invokespecial 3, 3) := by decide +kernel
theorem dX3_init_4 : decode cX3_init 4 = .ok (.aload_n 0, 1) := by decide +kernel
theorem dX3_init_5 : decode cX3_init 5 = .ok (.bipush 7, 2) := by decide +kernel
theorem dX3_init_7 : decode cX3_init 7 = .ok (.newarray .int, 2) := by decide +kernel
theorem dX3_init_9 : decode cX3_init 9 = .ok (.putfield 9, 3) := by decide +kernel
theorem dX3_init_12 : decode cX3_init 12 = .ok (.aload_n 0, 1) := by decide +kernel
theorem dX3_init_13 : decode cX3_init 13 = .ok (.bipush 7, 2) := by decide +kernel
theorem dX3_init_15 : decode cX3_init 15 = .ok (.newarray .int, 2) := by decide +kernel
theorem dX3_init_17 : decode cX3_init 17 = .ok (.putfield 15, 3) := by decide +kernel
theorem dX3_init_20 : decode cX3_init 20 = .ok (.aload_n 0, 1) := by decide +kernel
theorem dX3_init_21 : decode cX3_init 21 = .ok (.bipush 7, 2) := by decide +kernel
theorem dX3_init_23 : decode cX3_init 23 = .ok (.newarray .int, 2) := by decide +kernel
theorem dX3_init_25 : decode cX3_init 25 = .ok (.putfield 18, 3) := by decide +kernel
theorem dX3_init_28 : decode cX3_init 28 = .ok (.return_, 1) := by decide +kernel
theorem dX3_take_0 : decode cX3_take 0 = .ok (.iconst 0, 1) := by decide +kernel
theorem dX3_take_1 : decode cX3_take 1 = .ok (.istore_n 2, 1) := by decide +kernel
theorem dX3_take_2 : decode cX3_take 2 = .ok (.iload_n 2, 1) := by decide +kernel
theorem dX3_take_3 : decode cX3_take 3 = .ok (.bipush 7, 2) := by decide +kernel
theorem dX3_take_5 : decode cX3_take 5 = .ok (.if_icmp .ge 35, 3) := by decide +kernel
theorem dX3_take_8 : decode cX3_take 8 = .ok (.aload_n 0, 1) := by decide +kernel
theorem dX3_take_9 : decode cX3_take 9 = .ok (.getfield 9, 3) := by decide +kernel
theorem dX3_take_12 : decode cX3_take 12 = .ok (.iload_n 2, 1) := by decide +kernel
theorem dX3_take_13 : decode cX3_take 13 = .ok (.aload_n 1, 1) := by decide +kernel
theorem dX3_take_14 : decode cX3_take 14 = .ok (.iload_n 2, 1) := by decide +kernel
theorem dX3_take_15 : decode cX3_take 15 = .ok (.invokevirtual 21, 3) := by decide +kernel
theorem dX3_take_18 : decode cX3_take 18 = .ok (.iastore, 1) := by decide +kernel
theorem dX3_take_19 : decode cX3_take 19 = .ok (.aload_n 0, 1) := by decide +kernel
theorem dX3_take_20 : decode cX3_take 20 = .ok (.getfield 15, 3) := by decide +kernel
theorem dX3_take_23 : decode cX3_take 23 = .ok (.iload_n 2, 1) := by decide +kernel
theorem dX3_take_24 : decode cX3_take 24 = .ok (.aload_n 1, 1) := by decide +kernel
theorem dX3_take_25 : decode cX3_take 25 = .ok (.getfield 27, 3) := by decide +kernel
theorem dX3_take_28 : decode cX3_take 28 = .ok (.getfield 31, 3) := by decide +kernel
theorem dX3_take_31 : decode cX3_take 31 = .ok (.iload_n 2, 1) := by decide +kernel
theorem dX3_take_32 : decode cX3_take 32 = .ok (.iaload, 1) := by decide +kernel
theorem dX3_take_33 : decode cX3_take 33 = .ok (.iastore, 1) := by decide +kernel
theorem dX3_take_34 : decode cX3_take 34 = .ok (.iinc 2 1, 3) := by decide +kernel
theorem dX3_take_37 : decode cX3_take 37 = .ok (.goto (-35), 3) := by decide +kernel
theorem dX3_take_40 : decode cX3_take 40 = .ok (.return_, 1) := by decide +kernel
theorem dX3_placeOf_0 : decode cX3_placeOf 0 = .ok (.iconst 0, 1) := by decide +kernel
theorem dX3_placeOf_1 : decode cX3_placeOf 1 = .ok (.istore_n 2, 1) := by decide +kernel
theorem dX3_placeOf_2 : decode cX3_placeOf 2 = .ok (.iconst 0, 1) := by decide +kernel
theorem dX3_placeOf_3 : decode cX3_placeOf 3 = .ok (.istore_n 3, 1) := by decide +kernel
theorem dX3_placeOf_4 : decode cX3_placeOf 4 = .ok (.iload_n 3, 1) := by decide +kernel
theorem dX3_placeOf_5 : decode cX3_placeOf 5 = .ok (.bipush 7, 2) := by decide +kernel
theorem dX3_placeOf_7 : decode cX3_placeOf 7 = .ok (.if_icmp .ge 47, 3) := by decide +kernel
theorem dX3_placeOf_10 : decode cX3_placeOf 10 = .ok (.aload_n 0, 1) := by decide +kernel
theorem dX3_placeOf_11 : decode cX3_placeOf 11 = .ok (.getfield 9, 3) := by decide +kernel
theorem dX3_placeOf_14 : decode cX3_placeOf 14 = .ok (.iload_n 3, 1) := by decide +kernel
theorem dX3_placeOf_15 : decode cX3_placeOf 15 = .ok (.iaload, 1) := by decide +kernel
theorem dX3_placeOf_16 : decode cX3_placeOf 16 = .ok (.aload_n 0, 1) := by decide +kernel
theorem dX3_placeOf_17 : decode cX3_placeOf 17 = .ok (.getfield 9, 3) := by decide +kernel
theorem dX3_placeOf_20 : decode cX3_placeOf 20 = .ok (.iload_n 1, 1) := by decide +kernel
theorem dX3_placeOf_21 : decode cX3_placeOf 21 = .ok (.iaload, 1) := by decide +kernel
theorem dX3_placeOf_22 : decode cX3_placeOf 22 = .ok (.if_icmp .lt 23, 3) := by decide +kernel
theorem dX3_placeOf_25 : decode cX3_placeOf 25 = .ok (.aload_n 0, 1) := by decide +kernel
theorem dX3_placeOf_26 : decode cX3_placeOf 26 = .ok (.getfield 9, 3) := by decide +kernel
theorem dX3_placeOf_29 : decode cX3_placeOf 29 = .ok (.iload_n 3, 1) := by decide +kernel
theorem dX3_placeOf_30 : decode cX3_placeOf 30 = .ok (.iaload, 1) := by decide +kernel
theorem dX3_placeOf_31 : decode cX3_placeOf 31 = .ok (.aload_n 0, 1) := by decide +kernel
theorem dX3_placeOf_32 : decode cX3_placeOf 32 = .ok (.getfield 9, 3) := by decide +kernel
theorem dX3_placeOf_35 : decode cX3_placeOf 35 = .ok (.iload_n 1, 1) := by decide +kernel
theorem dX3_placeOf_36 : decode cX3_placeOf 36 = .ok (.iaload, 1) := by decide +kernel
theorem dX3_placeOf_37 : decode cX3_placeOf 37 = .ok (.if_icmp .ne 11, 3) := by decide +kernel
theorem dX3_placeOf_40 : decode cX3_placeOf 40 = .ok (.iload_n 3, 1) := by decide +kernel
theorem dX3_placeOf_41 : decode cX3_placeOf 41 = .ok (.iload_n 1, 1) := by decide +kernel
theorem dX3_placeOf_42 : decode cX3_placeOf 42 = .ok (.if_icmp .ge 6, 3) := by decide +kernel
theorem dX3_placeOf_45 : decode cX3_placeOf 45 = .ok (.iinc 2 1, 3) := by decide +kernel
theorem dX3_placeOf_48 : decode cX3_placeOf 48 = .ok (.iinc 3 1, 3) := by decide +kernel
theorem dX3_placeOf_51 : decode cX3_placeOf 51 = .ok (.goto (-47), 3) := by decide +kernel
theorem dX3_placeOf_54 : decode cX3_placeOf 54 = .ok (.iload_n 2, 1) := by decide +kernel
theorem dX3_placeOf_55 : decode cX3_placeOf 55 = .ok (.ireturn, 1) := by decide +kernel
theorem dX3_middleByOrder_0 : decode cX3_middleByOrder 0 = .ok (.iconst 0, 1) := by decide +kernel
theorem dX3_middleByOrder_1 : decode cX3_middleByOrder 1 = .ok (.istore_n 1, 1) := by decide +kernel
theorem dX3_middleByOrder_2 : decode cX3_middleByOrder 2 = .ok (.iload_n 1, 1) := by decide +kernel
theorem dX3_middleByOrder_3 : decode cX3_middleByOrder 3 = .ok (.bipush 7, 2) := by decide +kernel
theorem dX3_middleByOrder_5 : decode cX3_middleByOrder 5 = .ok (.if_icmp .ge 31, 3) := by decide +kernel
theorem dX3_middleByOrder_8 : decode cX3_middleByOrder 8 = .ok (.aload_n 0, 1) := by decide +kernel
theorem dX3_middleByOrder_9 : decode cX3_middleByOrder 9 = .ok (.iload_n 1, 1) := by decide +kernel
theorem dX3_middleByOrder_10 : decode cX3_middleByOrder 10 = .ok (.invokevirtual 34, 3) := by decide +kernel
theorem dX3_middleByOrder_13 : decode cX3_middleByOrder 13 = .ok (.istore_n 2, 1) := by decide +kernel
theorem dX3_middleByOrder_14 : decode cX3_middleByOrder 14 = .ok (.iload_n 2, 1) := by decide +kernel
theorem dX3_middleByOrder_15 : decode cX3_middleByOrder 15 = .ok (.aload_n 0, 1) := by decide +kernel
theorem dX3_middleByOrder_16 : decode cX3_middleByOrder 16 = .ok (.getfield 18, 3) := by decide +kernel
theorem dX3_middleByOrder_19 : decode cX3_middleByOrder 19 = .ok (.arraylength, 1) := by decide +kernel
theorem dX3_middleByOrder_20 : decode cX3_middleByOrder 20 = .ok (.if_icmp .ge 10, 3) := by decide +kernel
theorem dX3_middleByOrder_23 : decode cX3_middleByOrder 23 = .ok (.aload_n 0, 1) := by decide +kernel
theorem dX3_middleByOrder_24 : decode cX3_middleByOrder 24 = .ok (.getfield 18, 3) := by decide +kernel
theorem dX3_middleByOrder_27 : decode cX3_middleByOrder 27 = .ok (.iload_n 2, 1) := by decide +kernel
theorem dX3_middleByOrder_28 : decode cX3_middleByOrder 28 = .ok (.iload_n 1, 1) := by decide +kernel
theorem dX3_middleByOrder_29 : decode cX3_middleByOrder 29 = .ok (.iastore, 1) := by decide +kernel
theorem dX3_middleByOrder_30 : decode cX3_middleByOrder 30 = .ok (.iinc 1 1, 3) := by decide +kernel
theorem dX3_middleByOrder_33 : decode cX3_middleByOrder 33 = .ok (.goto (-31), 3) := by decide +kernel
theorem dX3_middleByOrder_36 : decode cX3_middleByOrder 36 = .ok (.aload_n 0, 1) := by decide +kernel
theorem dX3_middleByOrder_37 : decode cX3_middleByOrder 37 = .ok (.getfield 15, 3) := by decide +kernel
theorem dX3_middleByOrder_40 : decode cX3_middleByOrder 40 = .ok (.invokestatic 37, 3) := by decide +kernel
theorem dX3_middleByOrder_43 : decode cX3_middleByOrder 43 = .ok (.istore_n 1, 1) := by decide +kernel
theorem dX3_middleByOrder_44 : decode cX3_middleByOrder 44 = .ok (.iconst 0, 1) := by decide +kernel
theorem dX3_middleByOrder_45 : decode cX3_middleByOrder 45 = .ok (.istore_n 2, 1) := by decide +kernel
theorem dX3_middleByOrder_46 : decode cX3_middleByOrder 46 = .ok (.aload_n 0, 1) := by decide +kernel
theorem dX3_middleByOrder_47 : decode cX3_middleByOrder 47 = .ok (.getfield 18, 3) := by decide +kernel
theorem dX3_middleByOrder_50 : decode cX3_middleByOrder 50 = .ok (.astore_n 3, 1) := by decide +kernel
theorem dX3_middleByOrder_51 : decode cX3_middleByOrder 51 = .ok (.aload_n 3, 1) := by decide +kernel
theorem dX3_middleByOrder_52 : decode cX3_middleByOrder 52 = .ok (.arraylength, 1) := by decide +kernel
theorem dX3_middleByOrder_53 : decode cX3_middleByOrder 53 = .ok (.istore 4, 2) := by decide +kernel
theorem dX3_middleByOrder_55 : decode cX3_middleByOrder 55 = .ok (.iconst 0, 1) := by decide +kernel
theorem dX3_middleByOrder_56 : decode cX3_middleByOrder 56 = .ok (.istore 5, 2) := by decide +kernel
theorem dX3_middleByOrder_58 : decode cX3_middleByOrder 58 = .ok (.iload 5, 2) := by decide +kernel
theorem dX3_middleByOrder_60 : decode cX3_middleByOrder 60 = .ok (.iload 4, 2) := by decide +kernel
theorem dX3_middleByOrder_62 : decode cX3_middleByOrder 62 = .ok (.if_icmp .ge 50, 3) := by decide +kernel
theorem dX3_middleByOrder_65 : decode cX3_middleByOrder 65 = .ok (.aload_n 3, 1) := by decide +kernel
theorem dX3_middleByOrder_66 : decode cX3_middleByOrder 66 = .ok (.iload 5, 2) := by decide +kernel
theorem dX3_middleByOrder_68 : decode cX3_middleByOrder 68 = .ok (.iaload, 1) := by decide +kernel
theorem dX3_middleByOrder_69 : decode cX3_middleByOrder 69 = .ok (.istore 6, 2) := by decide +kernel
theorem dX3_middleByOrder_71 : decode cX3_middleByOrder 71 = .ok (.iload_n 2, 1) := by decide +kernel
theorem dX3_middleByOrder_72 : decode cX3_middleByOrder 72 = .ok (.aload_n 0, 1) := by decide +kernel
theorem dX3_middleByOrder_73 : decode cX3_middleByOrder 73 = .ok (.getfield 15, 3) := by decide +kernel
theorem dX3_middleByOrder_76 : decode cX3_middleByOrder 76 = .ok (.iload 6, 2) := by decide +kernel
theorem dX3_middleByOrder_78 : decode cX3_middleByOrder 78 = .ok (.iaload, 1) := by decide +kernel
theorem dX3_middleByOrder_79 : decode cX3_middleByOrder 79 = .ok (.iadd, 1) := by decide +kernel
theorem dX3_middleByOrder_80 : decode cX3_middleByOrder 80 = .ok (.istore_n 2, 1) := by decide +kernel
theorem dX3_middleByOrder_81 : decode cX3_middleByOrder 81 = .ok (.aload_n 0, 1) := by decide +kernel
theorem dX3_middleByOrder_82 : decode cX3_middleByOrder 82 = .ok (.getfield 15, 3) := by decide +kernel
theorem dX3_middleByOrder_85 : decode cX3_middleByOrder 85 = .ok (.iload 6, 2) := by decide +kernel
theorem dX3_middleByOrder_87 : decode cX3_middleByOrder 87 = .ok (.iaload, 1) := by decide +kernel
theorem dX3_middleByOrder_88 : decode cX3_middleByOrder 88 = .ok (.ifCond .le 18, 3) := by decide +kernel
theorem dX3_middleByOrder_91 : decode cX3_middleByOrder 91 = .ok (.iconst 2, 1) := by decide +kernel
theorem dX3_middleByOrder_92 : decode cX3_middleByOrder 92 = .ok (.iload_n 2, 1) := by decide +kernel
theorem dX3_middleByOrder_93 : decode cX3_middleByOrder 93 = .ok (.imul, 1) := by decide +kernel
theorem dX3_middleByOrder_94 : decode cX3_middleByOrder 94 = .ok (.iload_n 1, 1) := by decide +kernel
theorem dX3_middleByOrder_95 : decode cX3_middleByOrder 95 = .ok (.if_icmp .lt 11, 3) := by decide +kernel
theorem dX3_middleByOrder_98 : decode cX3_middleByOrder 98 = .ok (.aload_n 0, 1) := by decide +kernel
theorem dX3_middleByOrder_99 : decode cX3_middleByOrder 99 = .ok (.getfield 9, 3) := by decide +kernel
theorem dX3_middleByOrder_102 : decode cX3_middleByOrder 102 = .ok (.iload 6, 2) := by decide +kernel
theorem dX3_middleByOrder_104 : decode cX3_middleByOrder 104 = .ok (.iaload, 1) := by decide +kernel
theorem dX3_middleByOrder_105 : decode cX3_middleByOrder 105 = .ok (.ireturn, 1) := by decide +kernel
theorem dX3_middleByOrder_106 : decode cX3_middleByOrder 106 = .ok (.iinc 5 1, 3) := by decide +kernel
theorem dX3_middleByOrder_109 : decode cX3_middleByOrder 109 = .ok (.goto (-51), 3) := by decide +kernel
theorem dX3_middleByOrder_112 : decode cX3_middleByOrder 112 = .ok (.iconst (-1), 1) := by decide +kernel
theorem dX3_middleByOrder_113 : decode cX3_middleByOrder 113 = .ok (.ireturn, 1) := by decide +kernel
theorem dX3_middleByAdding_0 : decode cX3_middleByAdding 0 = .ok (.aload_n 0, 1) := by decide +kernel
theorem dX3_middleByAdding_1 : decode cX3_middleByAdding 1 = .ok (.getfield 15, 3) := by decide +kernel
theorem dX3_middleByAdding_4 : decode cX3_middleByAdding 4 = .ok (.invokestatic 37, 3) := by decide +kernel
theorem dX3_middleByAdding_7 : decode cX3_middleByAdding 7 = .ok (.istore_n 1, 1) := by decide +kernel
theorem dX3_middleByAdding_8 : decode cX3_middleByAdding 8 = .ok (.iconst 0, 1) := by decide +kernel
theorem dX3_middleByAdding_9 : decode cX3_middleByAdding 9 = .ok (.istore_n 2, 1) := by decide +kernel
theorem dX3_middleByAdding_10 : decode cX3_middleByAdding 10 = .ok (.iload_n 2, 1) := by decide +kernel
theorem dX3_middleByAdding_11 : decode cX3_middleByAdding 11 = .ok (.bipush 7, 2) := by decide +kernel
theorem dX3_middleByAdding_13 : decode cX3_middleByAdding 13 = .ok (.if_icmp .ge 65, 3) := by decide +kernel
theorem dX3_middleByAdding_16 : decode cX3_middleByAdding 16 = .ok (.aload_n 0, 1) := by decide +kernel
theorem dX3_middleByAdding_17 : decode cX3_middleByAdding 17 = .ok (.aload_n 0, 1) := by decide +kernel
theorem dX3_middleByAdding_18 : decode cX3_middleByAdding 18 = .ok (.getfield 9, 3) := by decide +kernel
theorem dX3_middleByAdding_21 : decode cX3_middleByAdding 21 = .ok (.iload_n 2, 1) := by decide +kernel
theorem dX3_middleByAdding_22 : decode cX3_middleByAdding 22 = .ok (.iaload, 1) := by decide +kernel
theorem dX3_middleByAdding_23 : decode cX3_middleByAdding 23 = .ok (.invokevirtual 41, 3) := by decide +kernel
theorem dX3_middleByAdding_26 : decode cX3_middleByAdding 26 = .ok (.istore_n 3, 1) := by decide +kernel
theorem dX3_middleByAdding_27 : decode cX3_middleByAdding 27 = .ok (.iload_n 3, 1) := by decide +kernel
theorem dX3_middleByAdding_28 : decode cX3_middleByAdding 28 = .ok (.aload_n 0, 1) := by decide +kernel
theorem dX3_middleByAdding_29 : decode cX3_middleByAdding 29 = .ok (.aload_n 0, 1) := by decide +kernel
theorem dX3_middleByAdding_30 : decode cX3_middleByAdding 30 = .ok (.getfield 9, 3) := by decide +kernel
theorem dX3_middleByAdding_33 : decode cX3_middleByAdding 33 = .ok (.iload_n 2, 1) := by decide +kernel
theorem dX3_middleByAdding_34 : decode cX3_middleByAdding 34 = .ok (.iaload, 1) := by decide +kernel
theorem dX3_middleByAdding_35 : decode cX3_middleByAdding 35 = .ok (.invokevirtual 44, 3) := by decide +kernel
theorem dX3_middleByAdding_38 : decode cX3_middleByAdding 38 = .ok (.iadd, 1) := by decide +kernel
theorem dX3_middleByAdding_39 : decode cX3_middleByAdding 39 = .ok (.istore 4, 2) := by decide +kernel
theorem dX3_middleByAdding_41 : decode cX3_middleByAdding 41 = .ok (.aload_n 0, 1) := by decide +kernel
theorem dX3_middleByAdding_42 : decode cX3_middleByAdding 42 = .ok (.getfield 15, 3) := by decide +kernel
theorem dX3_middleByAdding_45 : decode cX3_middleByAdding 45 = .ok (.iload_n 2, 1) := by decide +kernel
theorem dX3_middleByAdding_46 : decode cX3_middleByAdding 46 = .ok (.iaload, 1) := by decide +kernel
theorem dX3_middleByAdding_47 : decode cX3_middleByAdding 47 = .ok (.ifCond .le 25, 3) := by decide +kernel
theorem dX3_middleByAdding_50 : decode cX3_middleByAdding 50 = .ok (.iconst 2, 1) := by decide +kernel
theorem dX3_middleByAdding_51 : decode cX3_middleByAdding 51 = .ok (.iload_n 3, 1) := by decide +kernel
theorem dX3_middleByAdding_52 : decode cX3_middleByAdding 52 = .ok (.imul, 1) := by decide +kernel
theorem dX3_middleByAdding_53 : decode cX3_middleByAdding 53 = .ok (.iload_n 1, 1) := by decide +kernel
theorem dX3_middleByAdding_54 : decode cX3_middleByAdding 54 = .ok (.if_icmp .ge 18, 3) := by decide +kernel
theorem dX3_middleByAdding_57 : decode cX3_middleByAdding 57 = .ok (.iconst 2, 1) := by decide +kernel
theorem dX3_middleByAdding_58 : decode cX3_middleByAdding 58 = .ok (.iload 4, 2) := by decide +kernel
theorem dX3_middleByAdding_60 : decode cX3_middleByAdding 60 = .ok (.imul, 1) := by decide +kernel
theorem dX3_middleByAdding_61 : decode cX3_middleByAdding 61 = .ok (.iload_n 1, 1) := by decide +kernel
theorem dX3_middleByAdding_62 : decode cX3_middleByAdding 62 = .ok (.if_icmp .lt 10, 3) := by decide +kernel
theorem dX3_middleByAdding_65 : decode cX3_middleByAdding 65 = .ok (.aload_n 0, 1) := by decide +kernel
theorem dX3_middleByAdding_66 : decode cX3_middleByAdding 66 = .ok (.getfield 9, 3) := by decide +kernel
theorem dX3_middleByAdding_69 : decode cX3_middleByAdding 69 = .ok (.iload_n 2, 1) := by decide +kernel
theorem dX3_middleByAdding_70 : decode cX3_middleByAdding 70 = .ok (.iaload, 1) := by decide +kernel
theorem dX3_middleByAdding_71 : decode cX3_middleByAdding 71 = .ok (.ireturn, 1) := by decide +kernel
theorem dX3_middleByAdding_72 : decode cX3_middleByAdding 72 = .ok (.iinc 2 1, 3) := by decide +kernel
theorem dX3_middleByAdding_75 : decode cX3_middleByAdding 75 = .ok (.goto (-65), 3) := by decide +kernel
theorem dX3_middleByAdding_78 : decode cX3_middleByAdding 78 = .ok (.iconst (-1), 1) := by decide +kernel
theorem dX3_middleByAdding_79 : decode cX3_middleByAdding 79 = .ok (.ireturn, 1) := by decide +kernel
theorem dX3_weightBelow_0 : decode cX3_weightBelow 0 = .ok (.iconst 0, 1) := by decide +kernel
theorem dX3_weightBelow_1 : decode cX3_weightBelow 1 = .ok (.istore_n 2, 1) := by decide +kernel
theorem dX3_weightBelow_2 : decode cX3_weightBelow 2 = .ok (.iconst 0, 1) := by decide +kernel
theorem dX3_weightBelow_3 : decode cX3_weightBelow 3 = .ok (.istore_n 3, 1) := by decide +kernel
theorem dX3_weightBelow_4 : decode cX3_weightBelow 4 = .ok (.iload_n 3, 1) := by decide +kernel
theorem dX3_weightBelow_5 : decode cX3_weightBelow 5 = .ok (.bipush 7, 2) := by decide +kernel
theorem dX3_weightBelow_7 : decode cX3_weightBelow 7 = .ok (.if_icmp .ge 32, 3) := by decide +kernel
theorem dX3_weightBelow_10 : decode cX3_weightBelow 10 = .ok (.iload_n 2, 1) := by decide +kernel
theorem dX3_weightBelow_11 : decode cX3_weightBelow 11 = .ok (.aload_n 0, 1) := by decide +kernel
theorem dX3_weightBelow_12 : decode cX3_weightBelow 12 = .ok (.getfield 9, 3) := by decide +kernel
theorem dX3_weightBelow_15 : decode cX3_weightBelow 15 = .ok (.iload_n 3, 1) := by decide +kernel
theorem dX3_weightBelow_16 : decode cX3_weightBelow 16 = .ok (.iaload, 1) := by decide +kernel
theorem dX3_weightBelow_17 : decode cX3_weightBelow 17 = .ok (.iload_n 1, 1) := by decide +kernel
theorem dX3_weightBelow_18 : decode cX3_weightBelow 18 = .ok (.if_icmp .ge 12, 3) := by decide +kernel
theorem dX3_weightBelow_21 : decode cX3_weightBelow 21 = .ok (.aload_n 0, 1) := by decide +kernel
theorem dX3_weightBelow_22 : decode cX3_weightBelow 22 = .ok (.getfield 15, 3) := by decide +kernel
theorem dX3_weightBelow_25 : decode cX3_weightBelow 25 = .ok (.iload_n 3, 1) := by decide +kernel
theorem dX3_weightBelow_26 : decode cX3_weightBelow 26 = .ok (.iaload, 1) := by decide +kernel
theorem dX3_weightBelow_27 : decode cX3_weightBelow 27 = .ok (.goto 4, 3) := by decide +kernel
theorem dX3_weightBelow_30 : decode cX3_weightBelow 30 = .ok (.iconst 0, 1) := by decide +kernel
theorem dX3_weightBelow_31 : decode cX3_weightBelow 31 = .ok (.iadd, 1) := by decide +kernel
theorem dX3_weightBelow_32 : decode cX3_weightBelow 32 = .ok (.istore_n 2, 1) := by decide +kernel
theorem dX3_weightBelow_33 : decode cX3_weightBelow 33 = .ok (.iinc 3 1, 3) := by decide +kernel
theorem dX3_weightBelow_36 : decode cX3_weightBelow 36 = .ok (.goto (-32), 3) := by decide +kernel
theorem dX3_weightBelow_39 : decode cX3_weightBelow 39 = .ok (.iload_n 2, 1) := by decide +kernel
theorem dX3_weightBelow_40 : decode cX3_weightBelow 40 = .ok (.ireturn, 1) := by decide +kernel
theorem dX3_weightAt_0 : decode cX3_weightAt 0 = .ok (.iconst 0, 1) := by decide +kernel
theorem dX3_weightAt_1 : decode cX3_weightAt 1 = .ok (.istore_n 2, 1) := by decide +kernel
theorem dX3_weightAt_2 : decode cX3_weightAt 2 = .ok (.iconst 0, 1) := by decide +kernel
theorem dX3_weightAt_3 : decode cX3_weightAt 3 = .ok (.istore_n 3, 1) := by decide +kernel
theorem dX3_weightAt_4 : decode cX3_weightAt 4 = .ok (.iload_n 3, 1) := by decide +kernel
theorem dX3_weightAt_5 : decode cX3_weightAt 5 = .ok (.bipush 7, 2) := by decide +kernel
theorem dX3_weightAt_7 : decode cX3_weightAt 7 = .ok (.if_icmp .ge 32, 3) := by decide +kernel
theorem dX3_weightAt_10 : decode cX3_weightAt 10 = .ok (.iload_n 2, 1) := by decide +kernel
theorem dX3_weightAt_11 : decode cX3_weightAt 11 = .ok (.aload_n 0, 1) := by decide +kernel
theorem dX3_weightAt_12 : decode cX3_weightAt 12 = .ok (.getfield 9, 3) := by decide +kernel
theorem dX3_weightAt_15 : decode cX3_weightAt 15 = .ok (.iload_n 3, 1) := by decide +kernel
theorem dX3_weightAt_16 : decode cX3_weightAt 16 = .ok (.iaload, 1) := by decide +kernel
theorem dX3_weightAt_17 : decode cX3_weightAt 17 = .ok (.iload_n 1, 1) := by decide +kernel
theorem dX3_weightAt_18 : decode cX3_weightAt 18 = .ok (.if_icmp .ne 12, 3) := by decide +kernel
theorem dX3_weightAt_21 : decode cX3_weightAt 21 = .ok (.aload_n 0, 1) := by decide +kernel
theorem dX3_weightAt_22 : decode cX3_weightAt 22 = .ok (.getfield 15, 3) := by decide +kernel
theorem dX3_weightAt_25 : decode cX3_weightAt 25 = .ok (.iload_n 3, 1) := by decide +kernel
theorem dX3_weightAt_26 : decode cX3_weightAt 26 = .ok (.iaload, 1) := by decide +kernel
theorem dX3_weightAt_27 : decode cX3_weightAt 27 = .ok (.goto 4, 3) := by decide +kernel
theorem dX3_weightAt_30 : decode cX3_weightAt 30 = .ok (.iconst 0, 1) := by decide +kernel
theorem dX3_weightAt_31 : decode cX3_weightAt 31 = .ok (.iadd, 1) := by decide +kernel
theorem dX3_weightAt_32 : decode cX3_weightAt 32 = .ok (.istore_n 2, 1) := by decide +kernel
theorem dX3_weightAt_33 : decode cX3_weightAt 33 = .ok (.iinc 3 1, 3) := by decide +kernel
theorem dX3_weightAt_36 : decode cX3_weightAt 36 = .ok (.goto (-32), 3) := by decide +kernel
theorem dX3_weightAt_39 : decode cX3_weightAt 39 = .ok (.iload_n 2, 1) := by decide +kernel
theorem dX3_weightAt_40 : decode cX3_weightAt 40 = .ok (.ireturn, 1) := by decide +kernel
theorem dX4_init_0 : decode cX4_init 0 = .ok (.aload_n 0, 1) := by decide +kernel
theorem dX4_init_1 : decode cX4_init 1 = .ok (.invokespecial 3, 3) := by decide +kernel
theorem dX4_init_4 : decode cX4_init 4 = .ok (.aload_n 0, 1) := by decide +kernel
theorem dX4_init_5 : decode cX4_init 5 = .ok (.new 9, 3) := by decide +kernel
theorem dX4_init_8 : decode cX4_init 8 = .ok (.dup, 1) := by decide +kernel
theorem dX4_init_9 : decode cX4_init 9 = .ok (.invokespecial 11, 3) := by decide +kernel
theorem dX4_init_12 : decode cX4_init 12 = .ok (.putfield 12, 3) := by decide +kernel
theorem dX4_init_15 : decode cX4_init 15 = .ok (.aload_n 0, 1) := by decide +kernel
theorem dX4_init_16 : decode cX4_init 16 = .ok (.new 18, 3) := by decide +kernel
theorem dX4_init_19 : decode cX4_init 19 = .ok (.dup, 1) := by decide +kernel
theorem dX4_init_20 : decode cX4_init 20 = .ok (.invokespecial 20, 3) := by decide +kernel
theorem dX4_init_23 : decode cX4_init 23 = .ok (.putfield 21, 3) := by decide +kernel
theorem dX4_init_26 : decode cX4_init 26 = .ok (.aload_n 0, 1) := by decide +kernel
theorem dX4_init_27 : decode cX4_init 27 = .ok (.iconst 2, 1) := by decide +kernel
theorem dX4_init_28 : decode cX4_init 28 = .ok (.newarray .int, 2) := by decide +kernel
theorem dX4_init_30 : decode cX4_init 30 = .ok (.putfield 25, 3) := by decide +kernel
theorem dX4_init_33 : decode cX4_init 33 = .ok (.aload_n 0, 1) := by decide +kernel
theorem dX4_init_34 : decode cX4_init 34 = .ok (.getfield 25, 3) := by decide +kernel
theorem dX4_init_37 : decode cX4_init 37 = .ok (.iconst 0, 1) := by decide +kernel
theorem dX4_init_38 : decode cX4_init 38 = .ok (.bipush 15, 2) := by decide +kernel
theorem dX4_init_40 : decode cX4_init 40 = .ok (.iastore, 1) := by decide +kernel
theorem dX4_init_41 : decode cX4_init 41 = .ok (.aload_n 0, 1) := by decide +kernel
theorem dX4_init_42 : decode cX4_init 42 = .ok (.getfield 25, 3) := by decide +kernel
theorem dX4_init_45 : decode cX4_init 45 = .ok (.iconst 1, 1) := by decide +kernel
theorem dX4_init_46 : decode cX4_init 46 = .ok (.iconst 5, 1) := by decide +kernel
theorem dX4_init_47 : decode cX4_init 47 = .ok (.iastore, 1) := by decide +kernel
theorem dX4_init_48 : decode cX4_init 48 = .ok (.return_, 1) := by decide +kernel
theorem dX4_copyFrom_0 : decode cX4_copyFrom 0 = .ok (.aload_n 0, 1) := by decide +kernel
theorem dX4_copyFrom_1 : decode cX4_copyFrom 1 = .ok (.getfield 12, 3) := by decide +kernel
theorem dX4_copyFrom_4 : decode cX4_copyFrom 4 = .ok (.aload_n 1, 1) := by decide +kernel
theorem dX4_copyFrom_5 : decode cX4_copyFrom 5 = .ok (.getfield 12, 3) := by decide +kernel
theorem dX4_copyFrom_8 : decode cX4_copyFrom 8 = .ok (.invokevirtual 29, 3) := by decide +kernel
theorem dX4_copyFrom_11 : decode cX4_copyFrom 11 = .ok (.aload_n 0, 1) := by decide +kernel
theorem dX4_copyFrom_12 : decode cX4_copyFrom 12 = .ok (.getfield 21, 3) := by decide +kernel
theorem dX4_copyFrom_15 : decode cX4_copyFrom 15 = .ok (.aload_n 1, 1) := by decide +kernel
theorem dX4_copyFrom_16 : decode cX4_copyFrom 16 = .ok (.getfield 21, 3) := by decide +kernel
theorem dX4_copyFrom_19 : decode cX4_copyFrom 19 = .ok (.invokevirtual 33, 3) := by decide +kernel
theorem dX4_copyFrom_22 : decode cX4_copyFrom 22 = .ok (.aload_n 1, 1) := by decide +kernel
theorem dX4_copyFrom_23 : decode cX4_copyFrom 23 = .ok (.getfield 25, 3) := by decide +kernel
theorem dX4_copyFrom_26 : decode cX4_copyFrom 26 = .ok (.aload_n 0, 1) := by decide +kernel
theorem dX4_copyFrom_27 : decode cX4_copyFrom 27 = .ok (.getfield 25, 3) := by decide +kernel
theorem dX4_copyFrom_30 : decode cX4_copyFrom 30 = .ok (.invokestatic 36, 3) := by decide +kernel
theorem dX4_copyFrom_33 : decode cX4_copyFrom 33 = .ok (.aload_n 0, 1) := by decide +kernel
theorem dX4_copyFrom_34 : decode cX4_copyFrom 34 = .ok (.aload_n 1, 1) := by decide +kernel
theorem dX4_copyFrom_35 : decode cX4_copyFrom 35 = .ok (.getfield 40, 3) := by decide +kernel
theorem dX4_copyFrom_38 : decode cX4_copyFrom 38 = .ok (.putfield 40, 3) := by decide +kernel
theorem dX4_copyFrom_41 : decode cX4_copyFrom 41 = .ok (.aload_n 0, 1) := by decide +kernel
theorem dX4_copyFrom_42 : decode cX4_copyFrom 42 = .ok (.aload_n 1, 1) := by decide +kernel
theorem dX4_copyFrom_43 : decode cX4_copyFrom 43 = .ok (.getfield 44, 3) := by decide +kernel
theorem dX4_copyFrom_46 : decode cX4_copyFrom 46 = .ok (.putfield 44, 3) := by decide +kernel
theorem dX4_copyFrom_49 : decode cX4_copyFrom 49 = .ok (.aload_n 0, 1) := by decide +kernel
theorem dX4_copyFrom_50 : decode cX4_copyFrom 50 = .ok (.aload_n 1, 1) := by decide +kernel
theorem dX4_copyFrom_51 : decode cX4_copyFrom 51 = .ok (.getfield 47, 3) := by decide +kernel
theorem dX4_copyFrom_54 : decode cX4_copyFrom 54 = .ok (.putfield 47, 3) := by decide +kernel
theorem dX4_copyFrom_57 : decode cX4_copyFrom 57 = .ok (.return_, 1) := by decide +kernel
theorem dX4_wordOf_0 : decode cX4_wordOf 0 = .ok (.aload_n 0, 1) := by decide +kernel
theorem dX4_wordOf_1 : decode cX4_wordOf 1 = .ok (.getfield 21, 3) := by decide +kernel
theorem dX4_wordOf_4 : decode cX4_wordOf 4 = .ok (.iload_n 1, 1) := by decide +kernel
theorem dX4_wordOf_5 : decode cX4_wordOf 5 = .ok (.aload_n 0, 1) := by decide +kernel
theorem dX4_wordOf_6 : decode cX4_wordOf 6 = .ok (.getfield 12, 3) := by decide +kernel
theorem dX4_wordOf_9 : decode cX4_wordOf 9 = .ok (.getfield 50, 3) := by decide +kernel
theorem dX4_wordOf_12 : decode cX4_wordOf 12 = .ok (.iload_n 1, 1) := by decide +kernel
theorem dX4_wordOf_13 : decode cX4_wordOf 13 = .ok (.iaload, 1) := by decide +kernel
theorem dX4_wordOf_14 : decode cX4_wordOf 14 = .ok (.invokevirtual 53, 3) := by decide +kernel
theorem dX4_wordOf_17 : decode cX4_wordOf 17 = .ok (.ireturn, 1) := by decide +kernel
theorem dX4_hear_0 : decode cX4_hear 0 = .ok (.aload_n 0, 1) := by decide +kernel
theorem dX4_hear_1 : decode cX4_hear 1 = .ok (.dup, 1) := by decide +kernel
theorem dX4_hear_2 : decode cX4_hear 2 = .ok (.getfield 44, 3) := by decide +kernel
theorem dX4_hear_5 : decode cX4_hear 5 = .ok (.iconst 1, 1) := by decide +kernel
theorem dX4_hear_6 : decode cX4_hear 6 = .ok (.iadd, 1) := by decide +kernel
theorem dX4_hear_7 : decode cX4_hear 7 = .ok (.putfield 44, 3) := by decide +kernel
theorem dX4_hear_10 : decode cX4_hear 10 = .ok (.iload_n 1, 1) := by decide +kernel
theorem dX4_hear_11 : decode cX4_hear 11 = .ok (.aload_n 0, 1) := by decide +kernel
theorem dX4_hear_12 : decode cX4_hear 12 = .ok (.getfield 40, 3) := by decide +kernel
theorem dX4_hear_15 : decode cX4_hear 15 = .ok (.if_icmp .le 11, 3) := by decide +kernel
theorem dX4_hear_18 : decode cX4_hear 18 = .ok (.aload_n 0, 1) := by decide +kernel
theorem dX4_hear_19 : decode cX4_hear 19 = .ok (.iload_n 1, 1) := by decide +kernel
theorem dX4_hear_20 : decode cX4_hear 20 = .ok (.putfield 40, 3) := by decide +kernel
theorem dX4_hear_23 : decode cX4_hear 23 = .ok (.goto 13, 3) := by decide +kernel
theorem dX4_hear_26 : decode cX4_hear 26 = .ok (.aload_n 0, 1) := by decide +kernel
theorem dX4_hear_27 : decode cX4_hear 27 = .ok (.dup, 1) := by decide +kernel
theorem dX4_hear_28 : decode cX4_hear 28 = .ok (.getfield 47, 3) := by decide +kernel
theorem dX4_hear_31 : decode cX4_hear 31 = .ok (.iconst 1, 1) := by decide +kernel
theorem dX4_hear_32 : decode cX4_hear 32 = .ok (.iadd, 1) := by decide +kernel
theorem dX4_hear_33 : decode cX4_hear 33 = .ok (.putfield 47, 3) := by decide +kernel
theorem dX4_hear_36 : decode cX4_hear 36 = .ok (.return_, 1) := by decide +kernel
theorem dX4_settleQuarrels_0 : decode cX4_settleQuarrels 0 = .ok (.iconst 0, 1) := by decide +kernel
theorem dX4_settleQuarrels_1 : decode cX4_settleQuarrels 1 = .ok (.istore_n 2, 1) := by decide +kernel
theorem dX4_settleQuarrels_2 : decode cX4_settleQuarrels 2 = .ok (.iload_n 2, 1) := by decide +kernel
theorem dX4_settleQuarrels_3 : decode cX4_settleQuarrels 3 = .ok (.bipush 7, 2) := by decide +kernel
theorem dX4_settleQuarrels_5 : decode cX4_settleQuarrels 5 = .ok (.if_icmp .ge 19, 3) := by decide +kernel
theorem dX4_settleQuarrels_8 : decode cX4_settleQuarrels 8 = .ok (.aload_n 0, 1) := by decide +kernel
theorem dX4_settleQuarrels_9 : decode cX4_settleQuarrels 9 = .ok (.aload_n 1, 1) := by decide +kernel
theorem dX4_settleQuarrels_10 : decode cX4_settleQuarrels 10 = .ok (.iload_n 2, 1) := by decide +kernel
theorem dX4_settleQuarrels_11 : decode cX4_settleQuarrels 11 = .ok (.iload_n 2, 1) := by decide +kernel
theorem dX4_settleQuarrels_12 : decode cX4_settleQuarrels 12 = .ok (.invokestatic 57, 3) := by decide +kernel
theorem dX4_settleQuarrels_15 : decode cX4_settleQuarrels 15 = .ok (.invokevirtual 61, 3) := by decide +kernel
theorem dX4_settleQuarrels_18 : decode cX4_settleQuarrels 18 = .ok (.iinc 2 1, 3) := by decide +kernel
theorem dX4_settleQuarrels_21 : decode cX4_settleQuarrels 21 = .ok (.goto (-19), 3) := by decide +kernel
theorem dX4_settleQuarrels_24 : decode cX4_settleQuarrels 24 = .ok (.return_, 1) := by decide +kernel
theorem dX4_settleQuarrel_0 : decode cX4_settleQuarrel 0 = .ok (.aload_n 0, 1) := by decide +kernel
theorem dX4_settleQuarrel_1 : decode cX4_settleQuarrel 1 = .ok (.aload_n 1, 1) := by decide +kernel
theorem dX4_settleQuarrel_2 : decode cX4_settleQuarrel 2 = .ok (.iload_n 2, 1) := by decide +kernel
theorem dX4_settleQuarrel_3 : decode cX4_settleQuarrel 3 = .ok (.iaload, 1) := by decide +kernel
theorem dX4_settleQuarrel_4 : decode cX4_settleQuarrel 4 = .ok (.aload_n 1, 1) := by decide +kernel
theorem dX4_settleQuarrel_5 : decode cX4_settleQuarrel 5 = .ok (.iload_n 3, 1) := by decide +kernel
theorem dX4_settleQuarrel_6 : decode cX4_settleQuarrel 6 = .ok (.iaload, 1) := by decide +kernel
theorem dX4_settleQuarrel_7 : decode cX4_settleQuarrel 7 = .ok (.invokevirtual 65, 3) := by decide +kernel
theorem dX4_settleQuarrel_10 : decode cX4_settleQuarrel 10 = .ok (.ifCond .ne 4, 3) := by decide +kernel
theorem dX4_settleQuarrel_13 : decode cX4_settleQuarrel 13 = .ok (.return_, 1) := by decide +kernel
theorem dX4_settleQuarrel_14 : decode cX4_settleQuarrel 14 = .ok (.aload_n 1, 1) := by decide +kernel
theorem dX4_settleQuarrel_15 : decode cX4_settleQuarrel 15 = .ok (.iload_n 2, 1) := by decide +kernel
theorem dX4_settleQuarrel_16 : decode cX4_settleQuarrel 16 = .ok (.iaload, 1) := by decide +kernel
theorem dX4_settleQuarrel_17 : decode cX4_settleQuarrel 17 = .ok (.aload_n 0, 1) := by decide +kernel
theorem dX4_settleQuarrel_18 : decode cX4_settleQuarrel 18 = .ok (.getfield 40, 3) := by decide +kernel
theorem dX4_settleQuarrel_21 : decode cX4_settleQuarrel 21 = .ok (.invokestatic 69, 3) := by decide +kernel
theorem dX4_settleQuarrel_24 : decode cX4_settleQuarrel 24 = .ok (.istore 4, 2) := by decide +kernel
theorem dX4_settleQuarrel_26 : decode cX4_settleQuarrel 26 = .ok (.aload_n 1, 1) := by decide +kernel
theorem dX4_settleQuarrel_27 : decode cX4_settleQuarrel 27 = .ok (.iload_n 3, 1) := by decide +kernel
theorem dX4_settleQuarrel_28 : decode cX4_settleQuarrel 28 = .ok (.iaload, 1) := by decide +kernel
theorem dX4_settleQuarrel_29 : decode cX4_settleQuarrel 29 = .ok (.aload_n 0, 1) := by decide +kernel
theorem dX4_settleQuarrel_30 : decode cX4_settleQuarrel 30 = .ok (.getfield 40, 3) := by decide +kernel
theorem dX4_settleQuarrel_33 : decode cX4_settleQuarrel 33 = .ok (.invokestatic 69, 3) := by decide +kernel
theorem dX4_settleQuarrel_36 : decode cX4_settleQuarrel 36 = .ok (.istore 5, 2) := by decide +kernel
theorem dX4_settleQuarrel_38 : decode cX4_settleQuarrel 38 = .ok (.iload 4, 2) := by decide +kernel
theorem dX4_settleQuarrel_40 : decode cX4_settleQuarrel 40 = .ok (.iload 5, 2) := by decide +kernel
theorem dX4_settleQuarrel_42 : decode cX4_settleQuarrel 42 = .ok (.if_icmp .le 14, 3) := by decide +kernel
theorem dX4_settleQuarrel_45 : decode cX4_settleQuarrel 45 = .ok (.aload_n 0, 1) := by decide +kernel
theorem dX4_settleQuarrel_46 : decode cX4_settleQuarrel 46 = .ok (.getfield 21, 3) := by decide +kernel
theorem dX4_settleQuarrel_49 : decode cX4_settleQuarrel 49 = .ok (.iload_n 2, 1) := by decide +kernel
theorem dX4_settleQuarrel_50 : decode cX4_settleQuarrel 50 = .ok (.invokevirtual 72, 3) := by decide +kernel
theorem dX4_settleQuarrel_53 : decode cX4_settleQuarrel 53 = .ok (.goto 18, 3) := by decide +kernel
theorem dX4_settleQuarrel_56 : decode cX4_settleQuarrel 56 = .ok (.iload 5, 2) := by decide +kernel
theorem dX4_settleQuarrel_58 : decode cX4_settleQuarrel 58 = .ok (.iload 4, 2) := by decide +kernel
theorem dX4_settleQuarrel_60 : decode cX4_settleQuarrel 60 = .ok (.if_icmp .le 11, 3) := by decide +kernel
theorem dX4_settleQuarrel_63 : decode cX4_settleQuarrel 63 = .ok (.aload_n 0, 1) := by decide +kernel
theorem dX4_settleQuarrel_64 : decode cX4_settleQuarrel 64 = .ok (.getfield 21, 3) := by decide +kernel
theorem dX4_settleQuarrel_67 : decode cX4_settleQuarrel 67 = .ok (.iload_n 3, 1) := by decide +kernel
theorem dX4_settleQuarrel_68 : decode cX4_settleQuarrel 68 = .ok (.invokevirtual 72, 3) := by decide +kernel
theorem dX4_settleQuarrel_71 : decode cX4_settleQuarrel 71 = .ok (.return_, 1) := by decide +kernel
theorem dX4_wordsQuarrel_0 : decode cX4_wordsQuarrel 0 = .ok (.iload_n 1, 1) := by decide +kernel
theorem dX4_wordsQuarrel_1 : decode cX4_wordsQuarrel 1 = .ok (.iload_n 2, 1) := by decide +kernel
theorem dX4_wordsQuarrel_2 : decode cX4_wordsQuarrel 2 = .ok (.invokestatic 69, 3) := by decide +kernel
theorem dX4_wordsQuarrel_5 : decode cX4_wordsQuarrel 5 = .ok (.aload_n 0, 1) := by decide +kernel
theorem dX4_wordsQuarrel_6 : decode cX4_wordsQuarrel 6 = .ok (.getfield 25, 3) := by decide +kernel
theorem dX4_wordsQuarrel_9 : decode cX4_wordsQuarrel 9 = .ok (.iconst 0, 1) := by decide +kernel
theorem dX4_wordsQuarrel_10 : decode cX4_wordsQuarrel 10 = .ok (.iaload, 1) := by decide +kernel
theorem dX4_wordsQuarrel_11 : decode cX4_wordsQuarrel 11 = .ok (.if_icmp .le 7, 3) := by decide +kernel
theorem dX4_wordsQuarrel_14 : decode cX4_wordsQuarrel 14 = .ok (.iconst 1, 1) := by decide +kernel
theorem dX4_wordsQuarrel_15 : decode cX4_wordsQuarrel 15 = .ok (.goto 4, 3) := by decide +kernel
theorem dX4_wordsQuarrel_18 : decode cX4_wordsQuarrel 18 = .ok (.iconst 0, 1) := by decide +kernel
theorem dX4_wordsQuarrel_19 : decode cX4_wordsQuarrel 19 = .ok (.ireturn, 1) := by decide +kernel
theorem dX4_quarrelsBehind_0 : decode cX4_quarrelsBehind 0 = .ok (.aload_n 0, 1) := by decide +kernel
theorem dX4_quarrelsBehind_1 : decode cX4_quarrelsBehind 1 = .ok (.aload_n 0, 1) := by decide +kernel
theorem dX4_quarrelsBehind_2 : decode cX4_quarrelsBehind 2 = .ok (.iload_n 1, 1) := by decide +kernel
theorem dX4_quarrelsBehind_3 : decode cX4_quarrelsBehind 3 = .ok (.invokevirtual 76, 3) := by decide +kernel
theorem dX4_quarrelsBehind_6 : decode cX4_quarrelsBehind 6 = .ok (.aload_n 0, 1) := by decide +kernel
theorem dX4_quarrelsBehind_7 : decode cX4_quarrelsBehind 7 = .ok (.iload_n 1, 1) := by decide +kernel
theorem dX4_quarrelsBehind_8 : decode cX4_quarrelsBehind 8 = .ok (.invokestatic 57, 3) := by decide +kernel
theorem dX4_quarrelsBehind_11 : decode cX4_quarrelsBehind 11 = .ok (.invokevirtual 76, 3) := by decide +kernel
theorem dX4_quarrelsBehind_14 : decode cX4_quarrelsBehind 14 = .ok (.invokevirtual 65, 3) := by decide +kernel
theorem dX4_quarrelsBehind_17 : decode cX4_quarrelsBehind 17 = .ok (.ireturn, 1) := by decide +kernel
theorem dX4_quarrels_0 : decode cX4_quarrels 0 = .ok (.iconst 0, 1) := by decide +kernel
theorem dX4_quarrels_1 : decode cX4_quarrels 1 = .ok (.istore_n 1, 1) := by decide +kernel
theorem dX4_quarrels_2 : decode cX4_quarrels 2 = .ok (.iconst 0, 1) := by decide +kernel
theorem dX4_quarrels_3 : decode cX4_quarrels 3 = .ok (.istore_n 2, 1) := by decide +kernel
theorem dX4_quarrels_4 : decode cX4_quarrels 4 = .ok (.iload_n 2, 1) := by decide +kernel
theorem dX4_quarrels_5 : decode cX4_quarrels 5 = .ok (.bipush 7, 2) := by decide +kernel
theorem dX4_quarrels_7 : decode cX4_quarrels 7 = .ok (.if_icmp .ge 25, 3) := by decide +kernel
theorem dX4_quarrels_10 : decode cX4_quarrels 10 = .ok (.iload_n 1, 1) := by decide +kernel
theorem dX4_quarrels_11 : decode cX4_quarrels 11 = .ok (.aload_n 0, 1) := by decide +kernel
theorem dX4_quarrels_12 : decode cX4_quarrels 12 = .ok (.iload_n 2, 1) := by decide +kernel
theorem dX4_quarrels_13 : decode cX4_quarrels 13 = .ok (.invokevirtual 79, 3) := by decide +kernel
theorem dX4_quarrels_16 : decode cX4_quarrels 16 = .ok (.ifCond .eq 7, 3) := by decide +kernel
theorem dX4_quarrels_19 : decode cX4_quarrels 19 = .ok (.iconst 1, 1) := by decide +kernel
theorem dX4_quarrels_20 : decode cX4_quarrels 20 = .ok (.goto 4, 3) := by decide +kernel
theorem dX4_quarrels_23 : decode cX4_quarrels 23 = .ok (.iconst 0, 1) := by decide +kernel
theorem dX4_quarrels_24 : decode cX4_quarrels 24 = .ok (.iadd, 1) := by decide +kernel
theorem dX4_quarrels_25 : decode cX4_quarrels 25 = .ok (.istore_n 1, 1) := by decide +kernel
theorem dX4_quarrels_26 : decode cX4_quarrels 26 = .ok (.iinc 2 1, 3) := by decide +kernel
theorem dX4_quarrels_29 : decode cX4_quarrels 29 = .ok (.goto (-25), 3) := by decide +kernel
theorem dX4_quarrels_32 : decode cX4_quarrels 32 = .ok (.iload_n 1, 1) := by decide +kernel
theorem dX4_quarrels_33 : decode cX4_quarrels 33 = .ok (.ireturn, 1) := by decide +kernel
theorem dX4_ticksToQuarrel_0 : decode cX4_ticksToQuarrel 0 = .ok (.iload_n 1, 1) := by decide +kernel
theorem dX4_ticksToQuarrel_1 : decode cX4_ticksToQuarrel 1 = .ok (.invokestatic 57, 3) := by decide +kernel
theorem dX4_ticksToQuarrel_4 : decode cX4_ticksToQuarrel 4 = .ok (.istore_n 2, 1) := by decide +kernel
theorem dX4_ticksToQuarrel_5 : decode cX4_ticksToQuarrel 5 = .ok (.aload_n 0, 1) := by decide +kernel
theorem dX4_ticksToQuarrel_6 : decode cX4_ticksToQuarrel 6 = .ok (.getfield 12, 3) := by decide +kernel
theorem dX4_ticksToQuarrel_9 : decode cX4_ticksToQuarrel 9 = .ok (.getfield 50, 3) := by decide +kernel
theorem dX4_ticksToQuarrel_12 : decode cX4_ticksToQuarrel 12 = .ok (.iload_n 1, 1) := by decide +kernel
theorem dX4_ticksToQuarrel_13 : decode cX4_ticksToQuarrel 13 = .ok (.iaload, 1) := by decide +kernel
theorem dX4_ticksToQuarrel_14 : decode cX4_ticksToQuarrel 14 = .ok (.istore_n 3, 1) := by decide +kernel
theorem dX4_ticksToQuarrel_15 : decode cX4_ticksToQuarrel 15 = .ok (.aload_n 0, 1) := by decide +kernel
theorem dX4_ticksToQuarrel_16 : decode cX4_ticksToQuarrel 16 = .ok (.getfield 12, 3) := by decide +kernel
theorem dX4_ticksToQuarrel_19 : decode cX4_ticksToQuarrel 19 = .ok (.getfield 50, 3) := by decide +kernel
theorem dX4_ticksToQuarrel_22 : decode cX4_ticksToQuarrel 22 = .ok (.iload_n 2, 1) := by decide +kernel
theorem dX4_ticksToQuarrel_23 : decode cX4_ticksToQuarrel 23 = .ok (.iaload, 1) := by decide +kernel
theorem dX4_ticksToQuarrel_24 : decode cX4_ticksToQuarrel 24 = .ok (.istore 4, 2) := by decide +kernel
theorem dX4_ticksToQuarrel_26 : decode cX4_ticksToQuarrel 26 = .ok (.iconst 0, 1) := by decide +kernel
theorem dX4_ticksToQuarrel_27 : decode cX4_ticksToQuarrel 27 = .ok (.istore 5, 2) := by decide +kernel
theorem dX4_ticksToQuarrel_29 : decode cX4_ticksToQuarrel 29 = .ok (.iload 5, 2) := by decide +kernel
theorem dX4_ticksToQuarrel_31 : decode cX4_ticksToQuarrel 31 = .ok (.sipush 200, 3) := by decide +kernel
theorem dX4_ticksToQuarrel_34 : decode cX4_ticksToQuarrel 34 = .ok (.if_icmp .gt 60, 3) := by decide +kernel
theorem dX4_ticksToQuarrel_37 : decode cX4_ticksToQuarrel 37 = .ok (.aload_n 0, 1) := by decide +kernel
theorem dX4_ticksToQuarrel_38 : decode cX4_ticksToQuarrel 38 = .ok (.aload_n 0, 1) := by decide +kernel
theorem dX4_ticksToQuarrel_39 : decode cX4_ticksToQuarrel 39 = .ok (.getfield 21, 3) := by decide +kernel
theorem dX4_ticksToQuarrel_42 : decode cX4_ticksToQuarrel 42 = .ok (.iload_n 1, 1) := by decide +kernel
theorem dX4_ticksToQuarrel_43 : decode cX4_ticksToQuarrel 43 = .ok (.iload_n 3, 1) := by decide +kernel
theorem dX4_ticksToQuarrel_44 : decode cX4_ticksToQuarrel 44 = .ok (.invokevirtual 53, 3) := by decide +kernel
theorem dX4_ticksToQuarrel_47 : decode cX4_ticksToQuarrel 47 = .ok (.aload_n 0, 1) := by decide +kernel
theorem dX4_ticksToQuarrel_48 : decode cX4_ticksToQuarrel 48 = .ok (.getfield 21, 3) := by decide +kernel
theorem dX4_ticksToQuarrel_51 : decode cX4_ticksToQuarrel 51 = .ok (.iload_n 2, 1) := by decide +kernel
theorem dX4_ticksToQuarrel_52 : decode cX4_ticksToQuarrel 52 = .ok (.iload 4, 2) := by decide +kernel
theorem dX4_ticksToQuarrel_54 : decode cX4_ticksToQuarrel 54 = .ok (.invokevirtual 53, 3) := by decide +kernel
theorem dX4_ticksToQuarrel_57 : decode cX4_ticksToQuarrel 57 = .ok (.invokevirtual 65, 3) := by decide +kernel
theorem dX4_ticksToQuarrel_60 : decode cX4_ticksToQuarrel 60 = .ok (.ifCond .eq 6, 3) := by decide +kernel
theorem dX4_ticksToQuarrel_63 : decode cX4_ticksToQuarrel 63 = .ok (.iload 5, 2) := by decide +kernel
theorem dX4_ticksToQuarrel_65 : decode cX4_ticksToQuarrel 65 = .ok (.ireturn, 1) := by decide +kernel
theorem dX4_ticksToQuarrel_66 : decode cX4_ticksToQuarrel 66 = .ok (.aload_n 0, 1) := by decide +kernel
theorem dX4_ticksToQuarrel_67 : decode cX4_ticksToQuarrel 67 = .ok (.getfield 12, 3) := by decide +kernel
theorem dX4_ticksToQuarrel_70 : decode cX4_ticksToQuarrel 70 = .ok (.iload_n 1, 1) := by decide +kernel
theorem dX4_ticksToQuarrel_71 : decode cX4_ticksToQuarrel 71 = .ok (.iload_n 3, 1) := by decide +kernel
theorem dX4_ticksToQuarrel_72 : decode cX4_ticksToQuarrel 72 = .ok (.invokevirtual 83, 3) := by decide +kernel
theorem dX4_ticksToQuarrel_75 : decode cX4_ticksToQuarrel 75 = .ok (.istore_n 3, 1) := by decide +kernel
theorem dX4_ticksToQuarrel_76 : decode cX4_ticksToQuarrel 76 = .ok (.aload_n 0, 1) := by decide +kernel
theorem dX4_ticksToQuarrel_77 : decode cX4_ticksToQuarrel 77 = .ok (.getfield 12, 3) := by decide +kernel
theorem dX4_ticksToQuarrel_80 : decode cX4_ticksToQuarrel 80 = .ok (.iload_n 2, 1) := by decide +kernel
theorem dX4_ticksToQuarrel_81 : decode cX4_ticksToQuarrel 81 = .ok (.iload 4, 2) := by decide +kernel
theorem dX4_ticksToQuarrel_83 : decode cX4_ticksToQuarrel 83 = .ok (.invokevirtual 83, 3) := by decide +kernel
theorem dX4_ticksToQuarrel_86 : decode cX4_ticksToQuarrel 86 = .ok (.istore 4, 2) := by decide +kernel
theorem dX4_ticksToQuarrel_88 : decode cX4_ticksToQuarrel 88 = .ok (.iinc 5 1, 3) := by decide +kernel
theorem dX4_ticksToQuarrel_91 : decode cX4_ticksToQuarrel 91 = .ok (.goto (-62), 3) := by decide +kernel
theorem dX4_ticksToQuarrel_94 : decode cX4_ticksToQuarrel 94 = .ok (.iconst (-1), 1) := by decide +kernel
theorem dX4_ticksToQuarrel_95 : decode cX4_ticksToQuarrel 95 = .ok (.ireturn, 1) := by decide +kernel
theorem dX4_isOff_0 : decode cX4_isOff 0 = .ok (.aload_n 0, 1) := by decide +kernel
theorem dX4_isOff_1 : decode cX4_isOff 1 = .ok (.getfield 12, 3) := by decide +kernel
theorem dX4_isOff_4 : decode cX4_isOff 4 = .ok (.getfield 50, 3) := by decide +kernel
theorem dX4_isOff_7 : decode cX4_isOff 7 = .ok (.iload_n 1, 1) := by decide +kernel
theorem dX4_isOff_8 : decode cX4_isOff 8 = .ok (.iaload, 1) := by decide +kernel
theorem dX4_isOff_9 : decode cX4_isOff 9 = .ok (.aload_n 0, 1) := by decide +kernel
theorem dX4_isOff_10 : decode cX4_isOff 10 = .ok (.getfield 40, 3) := by decide +kernel
theorem dX4_isOff_13 : decode cX4_isOff 13 = .ok (.invokestatic 69, 3) := by decide +kernel
theorem dX4_isOff_16 : decode cX4_isOff 16 = .ok (.aload_n 0, 1) := by decide +kernel
theorem dX4_isOff_17 : decode cX4_isOff 17 = .ok (.getfield 25, 3) := by decide +kernel
theorem dX4_isOff_20 : decode cX4_isOff 20 = .ok (.iconst 1, 1) := by decide +kernel
theorem dX4_isOff_21 : decode cX4_isOff 21 = .ok (.iaload, 1) := by decide +kernel
theorem dX4_isOff_22 : decode cX4_isOff 22 = .ok (.if_icmp .le 7, 3) := by decide +kernel
theorem dX4_isOff_25 : decode cX4_isOff 25 = .ok (.iconst 1, 1) := by decide +kernel
theorem dX4_isOff_26 : decode cX4_isOff 26 = .ok (.goto 4, 3) := by decide +kernel
theorem dX4_isOff_29 : decode cX4_isOff 29 = .ok (.iconst 0, 1) := by decide +kernel
theorem dX4_isOff_30 : decode cX4_isOff 30 = .ok (.ireturn, 1) := by decide +kernel
theorem dX4_dialsOff_0 : decode cX4_dialsOff 0 = .ok (.iconst 0, 1) := by decide +kernel
theorem dX4_dialsOff_1 : decode cX4_dialsOff 1 = .ok (.istore_n 1, 1) := by decide +kernel
theorem dX4_dialsOff_2 : decode cX4_dialsOff 2 = .ok (.iconst 0, 1) := by decide +kernel
theorem dX4_dialsOff_3 : decode cX4_dialsOff 3 = .ok (.istore_n 2, 1) := by decide +kernel
theorem dX4_dialsOff_4 : decode cX4_dialsOff 4 = .ok (.iload_n 2, 1) := by decide +kernel
theorem dX4_dialsOff_5 : decode cX4_dialsOff 5 = .ok (.bipush 7, 2) := by decide +kernel
theorem dX4_dialsOff_7 : decode cX4_dialsOff 7 = .ok (.if_icmp .ge 25, 3) := by decide +kernel
theorem dX4_dialsOff_10 : decode cX4_dialsOff 10 = .ok (.iload_n 1, 1) := by decide +kernel
theorem dX4_dialsOff_11 : decode cX4_dialsOff 11 = .ok (.aload_n 0, 1) := by decide +kernel
theorem dX4_dialsOff_12 : decode cX4_dialsOff 12 = .ok (.iload_n 2, 1) := by decide +kernel
theorem dX4_dialsOff_13 : decode cX4_dialsOff 13 = .ok (.invokevirtual 86, 3) := by decide +kernel
theorem dX4_dialsOff_16 : decode cX4_dialsOff 16 = .ok (.ifCond .eq 7, 3) := by decide +kernel
theorem dX4_dialsOff_19 : decode cX4_dialsOff 19 = .ok (.iconst 1, 1) := by decide +kernel
theorem dX4_dialsOff_20 : decode cX4_dialsOff 20 = .ok (.goto 4, 3) := by decide +kernel
theorem dX4_dialsOff_23 : decode cX4_dialsOff 23 = .ok (.iconst 0, 1) := by decide +kernel
theorem dX4_dialsOff_24 : decode cX4_dialsOff 24 = .ok (.iadd, 1) := by decide +kernel
theorem dX4_dialsOff_25 : decode cX4_dialsOff 25 = .ok (.istore_n 1, 1) := by decide +kernel
theorem dX4_dialsOff_26 : decode cX4_dialsOff 26 = .ok (.iinc 2 1, 3) := by decide +kernel
theorem dX4_dialsOff_29 : decode cX4_dialsOff 29 = .ok (.goto (-25), 3) := by decide +kernel
theorem dX4_dialsOff_32 : decode cX4_dialsOff 32 = .ok (.iload_n 1, 1) := by decide +kernel
theorem dX4_dialsOff_33 : decode cX4_dialsOff 33 = .ok (.ireturn, 1) := by decide +kernel
theorem dX4_correctDials_0 : decode cX4_correctDials 0 = .ok (.iconst 0, 1) := by decide +kernel
theorem dX4_correctDials_1 : decode cX4_correctDials 1 = .ok (.istore_n 1, 1) := by decide +kernel
theorem dX4_correctDials_2 : decode cX4_correctDials 2 = .ok (.iconst 0, 1) := by decide +kernel
theorem dX4_correctDials_3 : decode cX4_correctDials 3 = .ok (.istore_n 2, 1) := by decide +kernel
theorem dX4_correctDials_4 : decode cX4_correctDials 4 = .ok (.iload_n 2, 1) := by decide +kernel
theorem dX4_correctDials_5 : decode cX4_correctDials 5 = .ok (.bipush 7, 2) := by decide +kernel
theorem dX4_correctDials_7 : decode cX4_correctDials 7 = .ok (.if_icmp .ge 33, 3) := by decide +kernel
theorem dX4_correctDials_10 : decode cX4_correctDials 10 = .ok (.aload_n 0, 1) := by decide +kernel
theorem dX4_correctDials_11 : decode cX4_correctDials 11 = .ok (.iload_n 2, 1) := by decide +kernel
theorem dX4_correctDials_12 : decode cX4_correctDials 12 = .ok (.invokevirtual 86, 3) := by decide +kernel
theorem dX4_correctDials_15 : decode cX4_correctDials 15 = .ok (.ifCond .eq 19, 3) := by decide +kernel
theorem dX4_correctDials_18 : decode cX4_correctDials 18 = .ok (.iload_n 1, 1) := by decide +kernel
theorem dX4_correctDials_19 : decode cX4_correctDials 19 = .ok (.aload_n 0, 1) := by decide +kernel
theorem dX4_correctDials_20 : decode cX4_correctDials 20 = .ok (.getfield 12, 3) := by decide +kernel
theorem dX4_correctDials_23 : decode cX4_correctDials 23 = .ok (.iload_n 2, 1) := by decide +kernel
theorem dX4_correctDials_24 : decode cX4_correctDials 24 = .ok (.aload_n 0, 1) := by decide +kernel
theorem dX4_correctDials_25 : decode cX4_correctDials 25 = .ok (.iload_n 2, 1) := by decide +kernel
theorem dX4_correctDials_26 : decode cX4_correctDials 26 = .ok (.invokevirtual 89, 3) := by decide +kernel
theorem dX4_correctDials_29 : decode cX4_correctDials 29 = .ok (.invokevirtual 92, 3) := by decide +kernel
theorem dX4_correctDials_32 : decode cX4_correctDials 32 = .ok (.iadd, 1) := by decide +kernel
theorem dX4_correctDials_33 : decode cX4_correctDials 33 = .ok (.istore_n 1, 1) := by decide +kernel
theorem dX4_correctDials_34 : decode cX4_correctDials 34 = .ok (.iinc 2 1, 3) := by decide +kernel
theorem dX4_correctDials_37 : decode cX4_correctDials 37 = .ok (.goto (-33), 3) := by decide +kernel
theorem dX4_correctDials_40 : decode cX4_correctDials 40 = .ok (.iload_n 1, 1) := by decide +kernel
theorem dX4_correctDials_41 : decode cX4_correctDials 41 = .ok (.ireturn, 1) := by decide +kernel
theorem dX4_nearestAllowed_0 : decode cX4_nearestAllowed 0 = .ok (.aload_n 0, 1) := by decide +kernel
theorem dX4_nearestAllowed_1 : decode cX4_nearestAllowed 1 = .ok (.getfield 25, 3) := by decide +kernel
theorem dX4_nearestAllowed_4 : decode cX4_nearestAllowed 4 = .ok (.iconst 1, 1) := by decide +kernel
theorem dX4_nearestAllowed_5 : decode cX4_nearestAllowed 5 = .ok (.iaload, 1) := by decide +kernel
theorem dX4_nearestAllowed_6 : decode cX4_nearestAllowed 6 = .ok (.istore_n 2, 1) := by decide +kernel
theorem dX4_nearestAllowed_7 : decode cX4_nearestAllowed 7 = .ok (.aload_n 0, 1) := by decide +kernel
theorem dX4_nearestAllowed_8 : decode cX4_nearestAllowed 8 = .ok (.getfield 12, 3) := by decide +kernel
theorem dX4_nearestAllowed_11 : decode cX4_nearestAllowed 11 = .ok (.getfield 50, 3) := by decide +kernel
theorem dX4_nearestAllowed_14 : decode cX4_nearestAllowed 14 = .ok (.iload_n 1, 1) := by decide +kernel
theorem dX4_nearestAllowed_15 : decode cX4_nearestAllowed 15 = .ok (.iaload, 1) := by decide +kernel
theorem dX4_nearestAllowed_16 : decode cX4_nearestAllowed 16 = .ok (.aload_n 0, 1) := by decide +kernel
theorem dX4_nearestAllowed_17 : decode cX4_nearestAllowed 17 = .ok (.getfield 40, 3) := by decide +kernel
theorem dX4_nearestAllowed_20 : decode cX4_nearestAllowed 20 = .ok (.if_icmp .ge 12, 3) := by decide +kernel
theorem dX4_nearestAllowed_23 : decode cX4_nearestAllowed 23 = .ok (.aload_n 0, 1) := by decide +kernel
theorem dX4_nearestAllowed_24 : decode cX4_nearestAllowed 24 = .ok (.getfield 40, 3) := by decide +kernel
theorem dX4_nearestAllowed_27 : decode cX4_nearestAllowed 27 = .ok (.iload_n 2, 1) := by decide +kernel
theorem dX4_nearestAllowed_28 : decode cX4_nearestAllowed 28 = .ok (.isub, 1) := by decide +kernel
theorem dX4_nearestAllowed_29 : decode cX4_nearestAllowed 29 = .ok (.goto 9, 3) := by decide +kernel
theorem dX4_nearestAllowed_32 : decode cX4_nearestAllowed 32 = .ok (.aload_n 0, 1) := by decide +kernel
theorem dX4_nearestAllowed_33 : decode cX4_nearestAllowed 33 = .ok (.getfield 40, 3) := by decide +kernel
theorem dX4_nearestAllowed_36 : decode cX4_nearestAllowed 36 = .ok (.iload_n 2, 1) := by decide +kernel
theorem dX4_nearestAllowed_37 : decode cX4_nearestAllowed 37 = .ok (.iadd, 1) := by decide +kernel
theorem dX4_nearestAllowed_38 : decode cX4_nearestAllowed 38 = .ok (.ireturn, 1) := by decide +kernel
theorem dX5_init_0 : decode cX5_init 0 = .ok (.aload_n 0, 1) := by decide +kernel
theorem dX5_init_1 : decode cX5_init 1 = .ok (.invokespecial 3, 3) := by decide +kernel
theorem dX5_init_4 : decode cX5_init 4 = .ok (.aload_n 0, 1) := by decide +kernel
theorem dX5_init_5 : decode cX5_init 5 = .ok (.bipush 7, 2) := by decide +kernel
theorem dX5_init_7 : decode cX5_init 7 = .ok (.newarray .int, 2) := by decide +kernel
theorem dX5_init_9 : decode cX5_init 9 = .ok (.putfield 9, 3) := by decide +kernel
theorem dX5_init_12 : decode cX5_init 12 = .ok (.aload_n 0, 1) := by decide +kernel
theorem dX5_init_13 : decode cX5_init 13 = .ok (.bipush 7, 2) := by decide +kernel
theorem dX5_init_15 : decode cX5_init 15 = .ok (.newarray .int, 2) := by decide +kernel
theorem dX5_init_17 : decode cX5_init 17 = .ok (.putfield 15, 3) := by decide +kernel
theorem dX5_init_20 : decode cX5_init 20 = .ok (.aload_n 0, 1) := by decide +kernel
theorem dX5_init_21 : decode cX5_init 21 = .ok (.bipush 7, 2) := by decide +kernel
theorem dX5_init_23 : decode cX5_init 23 = .ok (.newarray .int, 2) := by decide +kernel
theorem dX5_init_25 : decode cX5_init 25 = .ok (.putfield 18, 3) := by decide +kernel
theorem dX5_init_28 : decode cX5_init 28 = .ok (.iconst 0, 1) := by decide +kernel
theorem dX5_init_29 : decode cX5_init 29 = .ok (.istore_n 1, 1) := by decide +kernel
theorem dX5_init_30 : decode cX5_init 30 = .ok (.iload_n 1, 1) := by decide +kernel
theorem dX5_init_31 : decode cX5_init 31 = .ok (.bipush 7, 2) := by decide +kernel
theorem dX5_init_33 : decode cX5_init 33 = .ok (.if_icmp .ge 16, 3) := by decide +kernel
theorem dX5_init_36 : decode cX5_init 36 = .ok (.aload_n 0, 1) := by decide +kernel
theorem dX5_init_37 : decode cX5_init 37 = .ok (.getfield 9, 3) := by decide +kernel
theorem dX5_init_40 : decode cX5_init 40 = .ok (.iload_n 1, 1) := by decide +kernel
theorem dX5_init_41 : decode cX5_init 41 = .ok (.iconst 3, 1) := by decide +kernel
theorem dX5_init_42 : decode cX5_init 42 = .ok (.iastore, 1) := by decide +kernel
theorem dX5_init_43 : decode cX5_init 43 = .ok (.iinc 1 1, 3) := by decide +kernel
theorem dX5_init_46 : decode cX5_init 46 = .ok (.goto (-16), 3) := by decide +kernel
theorem dX5_init_49 : decode cX5_init 49 = .ok (.return_, 1) := by decide +kernel
theorem dX5_copyFrom_0 : decode cX5_copyFrom 0 = .ok (.aload_n 1, 1) := by decide +kernel
theorem dX5_copyFrom_1 : decode cX5_copyFrom 1 = .ok (.getfield 9, 3) := by decide +kernel
theorem dX5_copyFrom_4 : decode cX5_copyFrom 4 = .ok (.aload_n 0, 1) := by decide +kernel
theorem dX5_copyFrom_5 : decode cX5_copyFrom 5 = .ok (.getfield 9, 3) := by decide +kernel
theorem dX5_copyFrom_8 : decode cX5_copyFrom 8 = .ok (.invokestatic 21, 3) := by decide +kernel
theorem dX5_copyFrom_11 : decode cX5_copyFrom 11 = .ok (.aload_n 1, 1) := by decide +kernel
theorem dX5_copyFrom_12 : decode cX5_copyFrom 12 = .ok (.getfield 15, 3) := by decide +kernel
theorem dX5_copyFrom_15 : decode cX5_copyFrom 15 = .ok (.aload_n 0, 1) := by decide +kernel
theorem dX5_copyFrom_16 : decode cX5_copyFrom 16 = .ok (.getfield 15, 3) := by decide +kernel
theorem dX5_copyFrom_19 : decode cX5_copyFrom 19 = .ok (.invokestatic 21, 3) := by decide +kernel
theorem dX5_copyFrom_22 : decode cX5_copyFrom 22 = .ok (.aload_n 1, 1) := by decide +kernel
theorem dX5_copyFrom_23 : decode cX5_copyFrom 23 = .ok (.getfield 18, 3) := by decide +kernel
theorem dX5_copyFrom_26 : decode cX5_copyFrom 26 = .ok (.aload_n 0, 1) := by decide +kernel
theorem dX5_copyFrom_27 : decode cX5_copyFrom 27 = .ok (.getfield 18, 3) := by decide +kernel
theorem dX5_copyFrom_30 : decode cX5_copyFrom 30 = .ok (.invokestatic 21, 3) := by decide +kernel
theorem dX5_copyFrom_33 : decode cX5_copyFrom 33 = .ok (.return_, 1) := by decide +kernel
theorem dX5_weightSum_0 : decode cX5_weightSum 0 = .ok (.aload_n 0, 1) := by decide +kernel
theorem dX5_weightSum_1 : decode cX5_weightSum 1 = .ok (.getfield 9, 3) := by decide +kernel
theorem dX5_weightSum_4 : decode cX5_weightSum 4 = .ok (.invokestatic 25, 3) := by decide +kernel
theorem dX5_weightSum_7 : decode cX5_weightSum 7 = .ok (.ireturn, 1) := by decide +kernel
theorem dX5_wordFor_0 : decode cX5_wordFor 0 = .ok (.iload_n 2, 1) := by decide +kernel
theorem dX5_wordFor_1 : decode cX5_wordFor 1 = .ok (.aload_n 0, 1) := by decide +kernel
theorem dX5_wordFor_2 : decode cX5_wordFor 2 = .ok (.getfield 15, 3) := by decide +kernel
theorem dX5_wordFor_5 : decode cX5_wordFor 5 = .ok (.iload_n 1, 1) := by decide +kernel
theorem dX5_wordFor_6 : decode cX5_wordFor 6 = .ok (.iaload, 1) := by decide +kernel
theorem dX5_wordFor_7 : decode cX5_wordFor 7 = .ok (.iadd, 1) := by decide +kernel
theorem dX5_wordFor_8 : decode cX5_wordFor 8 = .ok (.istore_n 3, 1) := by decide +kernel
theorem dX5_wordFor_9 : decode cX5_wordFor 9 = .ok (.iload_n 3, 1) := by decide +kernel
theorem dX5_wordFor_10 : decode cX5_wordFor 10 = .ok (.ifCond .ge 5, 3) := by decide +kernel
theorem dX5_wordFor_13 : decode cX5_wordFor 13 = .ok (.iconst 0, 1) := by decide +kernel
theorem dX5_wordFor_14 : decode cX5_wordFor 14 = .ok (.ireturn, 1) := by decide +kernel
theorem dX5_wordFor_15 : decode cX5_wordFor 15 = .ok (.iload_n 3, 1) := by decide +kernel
theorem dX5_wordFor_16 : decode cX5_wordFor 16 = .ok (.ldc 29, 2) := by decide +kernel
theorem dX5_wordFor_18 : decode cX5_wordFor 18 = .ok (.if_icmp .le 8, 3) := by decide +kernel
theorem dX5_wordFor_21 : decode cX5_wordFor 21 = .ok (.ldc 29, 2) := by decide +kernel
theorem dX5_wordFor_23 : decode cX5_wordFor 23 = .ok (.goto 4, 3) := by decide +kernel
theorem dX5_wordFor_26 : decode cX5_wordFor 26 = .ok (.iload_n 3, 1) := by decide +kernel
theorem dX5_wordFor_27 : decode cX5_wordFor 27 = .ok (.ireturn, 1) := by decide +kernel
theorem dX5_lessen_0 : decode cX5_lessen 0 = .ok (.aload_n 0, 1) := by decide +kernel
theorem dX5_lessen_1 : decode cX5_lessen 1 = .ok (.getfield 9, 3) := by decide +kernel
theorem dX5_lessen_4 : decode cX5_lessen 4 = .ok (.iload_n 1, 1) := by decide +kernel
theorem dX5_lessen_5 : decode cX5_lessen 5 = .ok (.iaload, 1) := by decide +kernel
theorem dX5_lessen_6 : decode cX5_lessen 6 = .ok (.ifCond .le 23, 3) := by decide +kernel
theorem dX5_lessen_9 : decode cX5_lessen 9 = .ok (.aload_n 0, 1) := by decide +kernel
theorem dX5_lessen_10 : decode cX5_lessen 10 = .ok (.getfield 9, 3) := by decide +kernel
theorem dX5_lessen_13 : decode cX5_lessen 13 = .ok (.iload_n 1, 1) := by decide +kernel
theorem dX5_lessen_14 : decode cX5_lessen 14 = .ok (.dup2, 1) := by decide +kernel
theorem dX5_lessen_15 : decode cX5_lessen 15 = .ok (.iaload, 1) := by decide +kernel
theorem dX5_lessen_16 : decode cX5_lessen 16 = .ok (.iconst 1, 1) := by decide +kernel
theorem dX5_lessen_17 : decode cX5_lessen 17 = .ok (.isub, 1) := by decide +kernel
theorem dX5_lessen_18 : decode cX5_lessen 18 = .ok (.iastore, 1) := by decide +kernel
theorem dX5_lessen_19 : decode cX5_lessen 19 = .ok (.aload_n 0, 1) := by decide +kernel
theorem dX5_lessen_20 : decode cX5_lessen 20 = .ok (.getfield 18, 3) := by decide +kernel
theorem dX5_lessen_23 : decode cX5_lessen 23 = .ok (.iload_n 1, 1) := by decide +kernel
theorem dX5_lessen_24 : decode cX5_lessen 24 = .ok (.dup2, 1) := by decide +kernel
theorem dX5_lessen_25 : decode cX5_lessen 25 = .ok (.iaload, 1) := by decide +kernel
theorem dX5_lessen_26 : decode cX5_lessen 26 = .ok (.iconst 1, 1) := by decide +kernel
theorem dX5_lessen_27 : decode cX5_lessen 27 = .ok (.iadd, 1) := by decide +kernel
theorem dX5_lessen_28 : decode cX5_lessen 28 = .ok (.iastore, 1) := by decide +kernel
theorem dX5_lessen_29 : decode cX5_lessen 29 = .ok (.return_, 1) := by decide +kernel
theorem dX6_init_0 : decode cX6_init 0 = .ok (.aload_n 0, 1) := by decide +kernel
theorem dX6_init_1 : decode cX6_init 1 = .ok (.invokespecial 1, 3) := by decide +kernel
theorem dX6_init_4 : decode cX6_init 4 = .ok (.aload_n 0, 1) := by decide +kernel
theorem dX6_init_5 : decode cX6_init 5 = .ok (.new 7, 3) := by decide +kernel
theorem dX6_init_8 : decode cX6_init 8 = .ok (.dup, 1) := by decide +kernel
theorem dX6_init_9 : decode cX6_init 9 = .ok (.invokespecial 9, 3) := by decide +kernel
theorem dX6_init_12 : decode cX6_init 12 = .ok (.putfield 10, 3) := by decide +kernel
theorem dX6_init_15 : decode cX6_init 15 = .ok (.aload_n 0, 1) := by decide +kernel
theorem dX6_init_16 : decode cX6_init 16 = .ok (.new 7, 3) := by decide +kernel
theorem dX6_init_19 : decode cX6_init 19 = .ok (.dup, 1) := by decide +kernel
theorem dX6_init_20 : decode cX6_init 20 = .ok (.invokespecial 9, 3) := by decide +kernel
theorem dX6_init_23 : decode cX6_init 23 = .ok (.putfield 16, 3) := by decide +kernel
theorem dX6_init_26 : decode cX6_init 26 = .ok (.aload_n 0, 1) := by decide +kernel
theorem dX6_init_27 : decode cX6_init 27 = .ok (.iconst 0, 1) := by decide +kernel
theorem dX6_init_28 : decode cX6_init 28 = .ok (.putfield 19, 3) := by decide +kernel
theorem dX6_init_31 : decode cX6_init 31 = .ok (.aload_n 0, 1) := by decide +kernel
theorem dX6_init_32 : decode cX6_init 32 = .ok (.new 23, 3) := by decide +kernel
theorem dX6_init_35 : decode cX6_init 35 = .ok (.dup, 1) := by decide +kernel
theorem dX6_init_36 : decode cX6_init 36 = .ok (.invokespecial 25, 3) := by decide +kernel
theorem dX6_init_39 : decode cX6_init 39 = .ok (.putfield 26, 3) := by decide +kernel
theorem dX6_init_42 : decode cX6_init 42 = .ok (.aload_n 0, 1) := by decide +kernel
theorem dX6_init_43 : decode cX6_init 43 = .ok (.new 30, 3) := by decide +kernel
theorem dX6_init_46 : decode cX6_init 46 = .ok (.dup, 1) := by decide +kernel
theorem dX6_init_47 : decode cX6_init 47 = .ok (.invokespecial 32, 3) := by decide +kernel
theorem dX6_init_50 : decode cX6_init 50 = .ok (.putfield 33, 3) := by decide +kernel
theorem dX6_init_53 : decode cX6_init 53 = .ok (.aload_n 0, 1) := by decide +kernel
theorem dX6_init_54 : decode cX6_init 54 = .ok (.new 37, 3) := by decide +kernel
theorem dX6_init_57 : decode cX6_init 57 = .ok (.dup, 1) := by decide +kernel
theorem dX6_init_58 : decode cX6_init 58 = .ok (.invokespecial 39, 3) := by decide +kernel
theorem dX6_init_61 : decode cX6_init 61 = .ok (.putfield 40, 3) := by decide +kernel
theorem dX6_init_64 : decode cX6_init 64 = .ok (.return_, 1) := by decide +kernel
theorem dX6_tick_0 : decode cX6_tick 0 = .ok (.iload_n 1, 1) := by decide +kernel
theorem dX6_tick_1 : decode cX6_tick 1 = .ok (.iconst 1, 1) := by decide +kernel
theorem dX6_tick_2 : decode cX6_tick 2 = .ok (.if_icmp .lt 9, 3) := by decide +kernel
theorem dX6_tick_5 : decode cX6_tick 5 = .ok (.iload_n 1, 1) := by decide +kernel
theorem dX6_tick_6 : decode cX6_tick 6 = .ok (.bipush 99, 2) := by decide +kernel
theorem dX6_tick_8 : decode cX6_tick 8 = .ok (.if_icmp .le 13, 3) := by decide +kernel
theorem dX6_tick_11 : decode cX6_tick 11 = .ok (.new 44, 3) := by decide +kernel
theorem dX6_tick_14 : decode cX6_tick 14 = .ok (.dup, 1) := by decide +kernel
theorem dX6_tick_15 : decode cX6_tick 15 = .ok (.ldc 46, 2) := by decide +kernel
theorem dX6_tick_17 : decode cX6_tick 17 = .ok (.invokespecial 48, 3) := by decide +kernel
theorem dX6_tick_20 : decode cX6_tick 20 = .ok (.athrow, 1) := by decide +kernel
theorem dX6_tick_21 : decode cX6_tick 21 = .ok (.aload_n 0, 1) := by decide +kernel
theorem dX6_tick_22 : decode cX6_tick 22 = .ok (.getfield 26, 3) := by decide +kernel
theorem dX6_tick_25 : decode cX6_tick 25 = .ok (.aload_n 0, 1) := by decide +kernel
theorem dX6_tick_26 : decode cX6_tick 26 = .ok (.getfield 10, 3) := by decide +kernel
theorem dX6_tick_29 : decode cX6_tick 29 = .ok (.invokevirtual 51, 3) := by decide +kernel
theorem dX6_tick_32 : decode cX6_tick 32 = .ok (.aload_n 0, 1) := by decide +kernel
theorem dX6_tick_33 : decode cX6_tick 33 = .ok (.getfield 10, 3) := by decide +kernel
theorem dX6_tick_36 : decode cX6_tick 36 = .ok (.getfield 55, 3) := by decide +kernel
theorem dX6_tick_39 : decode cX6_tick 39 = .ok (.iload_n 1, 1) := by decide +kernel
theorem dX6_tick_40 : decode cX6_tick 40 = .ok (.invokevirtual 59, 3) := by decide +kernel
theorem dX6_tick_43 : decode cX6_tick 43 = .ok (.ireturn, 1) := by decide +kernel
theorem dX6_vote_0 : decode cX6_vote 0 = .ok (.aload_n 0, 1) := by decide +kernel
theorem dX6_vote_1 : decode cX6_vote 1 = .ok (.getfield 10, 3) := by decide +kernel
theorem dX6_vote_4 : decode cX6_vote 4 = .ok (.getfield 65, 3) := by decide +kernel
theorem dX6_vote_7 : decode cX6_vote 7 = .ok (.invokevirtual 69, 3) := by decide +kernel
theorem dX6_vote_10 : decode cX6_vote 10 = .ok (.ifCond .ne 13, 3) := by decide +kernel
theorem dX6_vote_13 : decode cX6_vote 13 = .ok (.new 75, 3) := by decide +kernel
theorem dX6_vote_16 : decode cX6_vote 16 = .ok (.dup, 1) := by decide +kernel
theorem dX6_vote_17 : decode cX6_vote 17 = .ok (.ldc 77, 2) := by decide +kernel
theorem dX6_vote_19 : decode cX6_vote 19 = .ok (.invokespecial 79, 3) := by decide +kernel
theorem dX6_vote_22 : decode cX6_vote 22 = .ok (.athrow, 1) := by decide +kernel
theorem dX6_vote_23 : decode cX6_vote 23 = .ok (.aload_n 0, 1) := by decide +kernel
theorem dX6_vote_24 : decode cX6_vote 24 = .ok (.getfield 26, 3) := by decide +kernel
theorem dX6_vote_27 : decode cX6_vote 27 = .ok (.aload_n 0, 1) := by decide +kernel
theorem dX6_vote_28 : decode cX6_vote 28 = .ok (.getfield 10, 3) := by decide +kernel
theorem dX6_vote_31 : decode cX6_vote 31 = .ok (.invokevirtual 51, 3) := by decide +kernel
theorem dX6_vote_34 : decode cX6_vote 34 = .ok (.aload_n 0, 1) := by decide +kernel
theorem dX6_vote_35 : decode cX6_vote 35 = .ok (.invokevirtual 80, 3) := by decide +kernel
theorem dX6_vote_38 : decode cX6_vote 38 = .ok (.aload_n 0, 1) := by decide +kernel
theorem dX6_vote_39 : decode cX6_vote 39 = .ok (.getfield 10, 3) := by decide +kernel
theorem dX6_vote_42 : decode cX6_vote 42 = .ok (.getfield 83, 3) := by decide +kernel
theorem dX6_vote_45 : decode cX6_vote 45 = .ok (.ireturn, 1) := by decide +kernel
theorem dX6_correct_0 : decode cX6_correct 0 = .ok (.aload_n 0, 1) := by decide +kernel
theorem dX6_correct_1 : decode cX6_correct 1 = .ok (.getfield 26, 3) := by decide +kernel
theorem dX6_correct_4 : decode cX6_correct 4 = .ok (.aload_n 0, 1) := by decide +kernel
theorem dX6_correct_5 : decode cX6_correct 5 = .ok (.getfield 10, 3) := by decide +kernel
theorem dX6_correct_8 : decode cX6_correct 8 = .ok (.invokevirtual 51, 3) := by decide +kernel
theorem dX6_correct_11 : decode cX6_correct 11 = .ok (.aload_n 0, 1) := by decide +kernel
theorem dX6_correct_12 : decode cX6_correct 12 = .ok (.getfield 10, 3) := by decide +kernel
theorem dX6_correct_15 : decode cX6_correct 15 = .ok (.invokevirtual 87, 3) := by decide +kernel
theorem dX6_correct_18 : decode cX6_correct 18 = .ok (.ireturn, 1) := by decide +kernel
theorem dX6_put_0 : decode cX6_put 0 = .ok (.iload_n 1, 1) := by decide +kernel
theorem dX6_put_1 : decode cX6_put 1 = .ok (.invokestatic 90, 3) := by decide +kernel
theorem dX6_put_4 : decode cX6_put 4 = .ok (.iload_n 2, 1) := by decide +kernel
theorem dX6_put_5 : decode cX6_put 5 = .ok (.ifCond .lt 9, 3) := by decide +kernel
theorem dX6_put_8 : decode cX6_put 8 = .ok (.iload_n 2, 1) := by decide +kernel
theorem dX6_put_9 : decode cX6_put 9 = .ok (.ldc 94, 2) := by decide +kernel
theorem dX6_put_11 : decode cX6_put 11 = .ok (.if_icmp .le 13, 3) := by decide +kernel
theorem dX6_put_14 : decode cX6_put 14 = .ok (.new 44, 3) := by decide +kernel
theorem dX6_put_17 : decode cX6_put 17 = .ok (.dup, 1) := by decide +kernel
theorem dX6_put_18 : decode cX6_put 18 = .ok (.ldc 95, 2) := by decide +kernel
theorem dX6_put_20 : decode cX6_put 20 = .ok (.invokespecial 48, 3) := by decide +kernel
theorem dX6_put_23 : decode cX6_put 23 = .ok (.athrow, 1) := by decide +kernel
theorem dX6_put_24 : decode cX6_put 24 = .ok (.aload_n 0, 1) := by decide +kernel
theorem dX6_put_25 : decode cX6_put 25 = .ok (.getfield 26, 3) := by decide +kernel
theorem dX6_put_28 : decode cX6_put 28 = .ok (.aload_n 0, 1) := by decide +kernel
theorem dX6_put_29 : decode cX6_put 29 = .ok (.getfield 10, 3) := by decide +kernel
theorem dX6_put_32 : decode cX6_put 32 = .ok (.invokevirtual 51, 3) := by decide +kernel
theorem dX6_put_35 : decode cX6_put 35 = .ok (.aload_n 0, 1) := by decide +kernel
theorem dX6_put_36 : decode cX6_put 36 = .ok (.getfield 10, 3) := by decide +kernel
theorem dX6_put_39 : decode cX6_put 39 = .ok (.getfield 55, 3) := by decide +kernel
theorem dX6_put_42 : decode cX6_put 42 = .ok (.getfield 97, 3) := by decide +kernel
theorem dX6_put_45 : decode cX6_put 45 = .ok (.iload_n 1, 1) := by decide +kernel
theorem dX6_put_46 : decode cX6_put 46 = .ok (.iaload, 1) := by decide +kernel
theorem dX6_put_47 : decode cX6_put 47 = .ok (.istore_n 3, 1) := by decide +kernel
theorem dX6_put_48 : decode cX6_put 48 = .ok (.aload_n 0, 1) := by decide +kernel
theorem dX6_put_49 : decode cX6_put 49 = .ok (.getfield 10, 3) := by decide +kernel
theorem dX6_put_52 : decode cX6_put 52 = .ok (.getfield 55, 3) := by decide +kernel
theorem dX6_put_55 : decode cX6_put 55 = .ok (.iload_n 1, 1) := by decide +kernel
theorem dX6_put_56 : decode cX6_put 56 = .ok (.iload_n 2, 1) := by decide +kernel
theorem dX6_put_57 : decode cX6_put 57 = .ok (.invokevirtual 100, 3) := by decide +kernel
theorem dX6_put_60 : decode cX6_put 60 = .ok (.pop, 1) := by decide +kernel
theorem dX6_put_61 : decode cX6_put 61 = .ok (.iload_n 3, 1) := by decide +kernel
theorem dX6_put_62 : decode cX6_put 62 = .ok (.ireturn, 1) := by decide +kernel
theorem dX6_drift_0 : decode cX6_drift 0 = .ok (.iload_n 1, 1) := by decide +kernel
theorem dX6_drift_1 : decode cX6_drift 1 = .ok (.invokestatic 90, 3) := by decide +kernel
theorem dX6_drift_4 : decode cX6_drift 4 = .ok (.iload_n 2, 1) := by decide +kernel
theorem dX6_drift_5 : decode cX6_drift 5 = .ok (.bipush (-5), 2) := by decide +kernel
theorem dX6_drift_7 : decode cX6_drift 7 = .ok (.if_icmp .lt 8, 3) := by decide +kernel
theorem dX6_drift_10 : decode cX6_drift 10 = .ok (.iload_n 2, 1) := by decide +kernel
theorem dX6_drift_11 : decode cX6_drift 11 = .ok (.iconst 5, 1) := by decide +kernel
theorem dX6_drift_12 : decode cX6_drift 12 = .ok (.if_icmp .le 13, 3) := by decide +kernel
theorem dX6_drift_15 : decode cX6_drift 15 = .ok (.new 44, 3) := by decide +kernel
theorem dX6_drift_18 : decode cX6_drift 18 = .ok (.dup, 1) := by decide +kernel
theorem dX6_drift_19 : decode cX6_drift 19 = .ok (.ldc 104, 2) := by decide +kernel
theorem dX6_drift_21 : decode cX6_drift 21 = .ok (.invokespecial 48, 3) := by decide +kernel
theorem dX6_drift_24 : decode cX6_drift 24 = .ok (.athrow, 1) := by decide +kernel
theorem dX6_drift_25 : decode cX6_drift 25 = .ok (.aload_n 0, 1) := by decide +kernel
theorem dX6_drift_26 : decode cX6_drift 26 = .ok (.getfield 26, 3) := by decide +kernel
theorem dX6_drift_29 : decode cX6_drift 29 = .ok (.aload_n 0, 1) := by decide +kernel
theorem dX6_drift_30 : decode cX6_drift 30 = .ok (.getfield 10, 3) := by decide +kernel
theorem dX6_drift_33 : decode cX6_drift 33 = .ok (.invokevirtual 51, 3) := by decide +kernel
theorem dX6_drift_36 : decode cX6_drift 36 = .ok (.aload_n 0, 1) := by decide +kernel
theorem dX6_drift_37 : decode cX6_drift 37 = .ok (.getfield 10, 3) := by decide +kernel
theorem dX6_drift_40 : decode cX6_drift 40 = .ok (.getfield 55, 3) := by decide +kernel
theorem dX6_drift_43 : decode cX6_drift 43 = .ok (.getfield 106, 3) := by decide +kernel
theorem dX6_drift_46 : decode cX6_drift 46 = .ok (.iload_n 1, 1) := by decide +kernel
theorem dX6_drift_47 : decode cX6_drift 47 = .ok (.iaload, 1) := by decide +kernel
theorem dX6_drift_48 : decode cX6_drift 48 = .ok (.istore_n 3, 1) := by decide +kernel
theorem dX6_drift_49 : decode cX6_drift 49 = .ok (.aload_n 0, 1) := by decide +kernel
theorem dX6_drift_50 : decode cX6_drift 50 = .ok (.getfield 10, 3) := by decide +kernel
theorem dX6_drift_53 : decode cX6_drift 53 = .ok (.getfield 55, 3) := by decide +kernel
theorem dX6_drift_56 : decode cX6_drift 56 = .ok (.iload_n 1, 1) := by decide +kernel
theorem dX6_drift_57 : decode cX6_drift 57 = .ok (.iload_n 2, 1) := by decide +kernel
theorem dX6_drift_58 : decode cX6_drift 58 = .ok (.invokevirtual 109, 3) := by decide +kernel
theorem dX6_drift_61 : decode cX6_drift 61 = .ok (.iload_n 3, 1) := by decide +kernel
theorem dX6_drift_62 : decode cX6_drift 62 = .ok (.ireturn, 1) := by decide +kernel
theorem dX6_warden_0 : decode cX6_warden 0 = .ok (.iload_n 1, 1) := by decide +kernel
theorem dX6_warden_1 : decode cX6_warden 1 = .ok (.invokestatic 90, 3) := by decide +kernel
theorem dX6_warden_4 : decode cX6_warden 4 = .ok (.iload_n 2, 1) := by decide +kernel
theorem dX6_warden_5 : decode cX6_warden 5 = .ok (.ifCond .lt 9, 3) := by decide +kernel
theorem dX6_warden_8 : decode cX6_warden 8 = .ok (.iload_n 2, 1) := by decide +kernel
theorem dX6_warden_9 : decode cX6_warden 9 = .ok (.bipush 9, 2) := by decide +kernel
theorem dX6_warden_11 : decode cX6_warden 11 = .ok (.if_icmp .le 13, 3) := by decide +kernel
theorem dX6_warden_14 : decode cX6_warden 14 = .ok (.new 44, 3) := by decide +kernel
theorem dX6_warden_17 : decode cX6_warden 17 = .ok (.dup, 1) := by decide +kernel
theorem dX6_warden_18 : decode cX6_warden 18 = .ok (.ldc 113, 2) := by decide +kernel
theorem dX6_warden_20 : decode cX6_warden 20 = .ok (.invokespecial 48, 3) := by decide +kernel
theorem dX6_warden_23 : decode cX6_warden 23 = .ok (.athrow, 1) := by decide +kernel
theorem dX6_warden_24 : decode cX6_warden 24 = .ok (.iload_n 3, 1) := by decide +kernel
theorem dX6_warden_25 : decode cX6_warden 25 = .ok (.bipush (-60), 2) := by decide +kernel
theorem dX6_warden_27 : decode cX6_warden 27 = .ok (.if_icmp .lt 9, 3) := by decide +kernel
theorem dX6_warden_30 : decode cX6_warden 30 = .ok (.iload_n 3, 1) := by decide +kernel
theorem dX6_warden_31 : decode cX6_warden 31 = .ok (.bipush 60, 2) := by decide +kernel
theorem dX6_warden_33 : decode cX6_warden 33 = .ok (.if_icmp .le 13, 3) := by decide +kernel
theorem dX6_warden_36 : decode cX6_warden 36 = .ok (.new 44, 3) := by decide +kernel
theorem dX6_warden_39 : decode cX6_warden 39 = .ok (.dup, 1) := by decide +kernel
theorem dX6_warden_40 : decode cX6_warden 40 = .ok (.ldc 115, 2) := by decide +kernel
theorem dX6_warden_42 : decode cX6_warden 42 = .ok (.invokespecial 48, 3) := by decide +kernel
theorem dX6_warden_45 : decode cX6_warden 45 = .ok (.athrow, 1) := by decide +kernel
theorem dX6_warden_46 : decode cX6_warden 46 = .ok (.aload_n 0, 1) := by decide +kernel
theorem dX6_warden_47 : decode cX6_warden 47 = .ok (.getfield 26, 3) := by decide +kernel
theorem dX6_warden_50 : decode cX6_warden 50 = .ok (.aload_n 0, 1) := by decide +kernel
theorem dX6_warden_51 : decode cX6_warden 51 = .ok (.getfield 10, 3) := by decide +kernel
theorem dX6_warden_54 : decode cX6_warden 54 = .ok (.invokevirtual 51, 3) := by decide +kernel
theorem dX6_warden_57 : decode cX6_warden 57 = .ok (.aload_n 0, 1) := by decide +kernel
theorem dX6_warden_58 : decode cX6_warden 58 = .ok (.getfield 10, 3) := by decide +kernel
theorem dX6_warden_61 : decode cX6_warden 61 = .ok (.getfield 65, 3) := by decide +kernel
theorem dX6_warden_64 : decode cX6_warden 64 = .ok (.getfield 117, 3) := by decide +kernel
theorem dX6_warden_67 : decode cX6_warden 67 = .ok (.iload_n 1, 1) := by decide +kernel
theorem dX6_warden_68 : decode cX6_warden 68 = .ok (.iaload, 1) := by decide +kernel
theorem dX6_warden_69 : decode cX6_warden 69 = .ok (.istore 4, 2) := by decide +kernel
theorem dX6_warden_71 : decode cX6_warden 71 = .ok (.aload_n 0, 1) := by decide +kernel
theorem dX6_warden_72 : decode cX6_warden 72 = .ok (.getfield 10, 3) := by decide +kernel
theorem dX6_warden_75 : decode cX6_warden 75 = .ok (.getfield 65, 3) := by decide +kernel
theorem dX6_warden_78 : decode cX6_warden 78 = .ok (.getfield 117, 3) := by decide +kernel
theorem dX6_warden_81 : decode cX6_warden 81 = .ok (.iload_n 1, 1) := by decide +kernel
theorem dX6_warden_82 : decode cX6_warden 82 = .ok (.iload_n 2, 1) := by decide +kernel
theorem dX6_warden_83 : decode cX6_warden 83 = .ok (.iastore, 1) := by decide +kernel
theorem dX6_warden_84 : decode cX6_warden 84 = .ok (.aload_n 0, 1) := by decide +kernel
theorem dX6_warden_85 : decode cX6_warden 85 = .ok (.getfield 10, 3) := by decide +kernel
theorem dX6_warden_88 : decode cX6_warden 88 = .ok (.getfield 65, 3) := by decide +kernel
theorem dX6_warden_91 : decode cX6_warden 91 = .ok (.getfield 120, 3) := by decide +kernel
theorem dX6_warden_94 : decode cX6_warden 94 = .ok (.iload_n 1, 1) := by decide +kernel
theorem dX6_warden_95 : decode cX6_warden 95 = .ok (.iload_n 3, 1) := by decide +kernel
theorem dX6_warden_96 : decode cX6_warden 96 = .ok (.iastore, 1) := by decide +kernel
theorem dX6_warden_97 : decode cX6_warden 97 = .ok (.iload 4, 2) := by decide +kernel
theorem dX6_warden_99 : decode cX6_warden 99 = .ok (.ireturn, 1) := by decide +kernel
theorem dX6_set_0 : decode cX6_set 0 = .ok (.iload_n 1, 1) := by decide +kernel
theorem dX6_set_1 : decode cX6_set 1 = .ok (.invokestatic 123, 3) := by decide +kernel
theorem dX6_set_4 : decode cX6_set 4 = .ok (.iload_n 2, 1) := by decide +kernel
theorem dX6_set_5 : decode cX6_set 5 = .ok (.ifCond .lt 9, 3) := by decide +kernel
theorem dX6_set_8 : decode cX6_set 8 = .ok (.iload_n 2, 1) := by decide +kernel
theorem dX6_set_9 : decode cX6_set 9 = .ok (.bipush 99, 2) := by decide +kernel
theorem dX6_set_11 : decode cX6_set 11 = .ok (.if_icmp .le 13, 3) := by decide +kernel
theorem dX6_set_14 : decode cX6_set 14 = .ok (.new 44, 3) := by decide +kernel
theorem dX6_set_17 : decode cX6_set 17 = .ok (.dup, 1) := by decide +kernel
theorem dX6_set_18 : decode cX6_set 18 = .ok (.ldc 126, 2) := by decide +kernel
theorem dX6_set_20 : decode cX6_set 20 = .ok (.invokespecial 48, 3) := by decide +kernel
theorem dX6_set_23 : decode cX6_set 23 = .ok (.athrow, 1) := by decide +kernel
theorem dX6_set_24 : decode cX6_set 24 = .ok (.aload_n 0, 1) := by decide +kernel
theorem dX6_set_25 : decode cX6_set 25 = .ok (.getfield 26, 3) := by decide +kernel
theorem dX6_set_28 : decode cX6_set 28 = .ok (.aload_n 0, 1) := by decide +kernel
theorem dX6_set_29 : decode cX6_set 29 = .ok (.getfield 10, 3) := by decide +kernel
theorem dX6_set_32 : decode cX6_set 32 = .ok (.invokevirtual 51, 3) := by decide +kernel
theorem dX6_set_35 : decode cX6_set 35 = .ok (.aload_n 0, 1) := by decide +kernel
theorem dX6_set_36 : decode cX6_set 36 = .ok (.getfield 10, 3) := by decide +kernel
theorem dX6_set_39 : decode cX6_set 39 = .ok (.getfield 128, 3) := by decide +kernel
theorem dX6_set_42 : decode cX6_set 42 = .ok (.iload_n 1, 1) := by decide +kernel
theorem dX6_set_43 : decode cX6_set 43 = .ok (.iaload, 1) := by decide +kernel
theorem dX6_set_44 : decode cX6_set 44 = .ok (.istore_n 3, 1) := by decide +kernel
theorem dX6_set_45 : decode cX6_set 45 = .ok (.aload_n 0, 1) := by decide +kernel
theorem dX6_set_46 : decode cX6_set 46 = .ok (.getfield 10, 3) := by decide +kernel
theorem dX6_set_49 : decode cX6_set 49 = .ok (.getfield 128, 3) := by decide +kernel
theorem dX6_set_52 : decode cX6_set 52 = .ok (.iload_n 1, 1) := by decide +kernel
theorem dX6_set_53 : decode cX6_set 53 = .ok (.iload_n 2, 1) := by decide +kernel
theorem dX6_set_54 : decode cX6_set 54 = .ok (.iastore, 1) := by decide +kernel
theorem dX6_set_55 : decode cX6_set 55 = .ok (.iload_n 3, 1) := by decide +kernel
theorem dX6_set_56 : decode cX6_set 56 = .ok (.ireturn, 1) := by decide +kernel
theorem dX6_append_0 : decode cX6_append 0 = .ok (.iload_n 1, 1) := by decide +kernel
theorem dX6_append_1 : decode cX6_append 1 = .ok (.bipush 33, 2) := by decide +kernel
theorem dX6_append_3 : decode cX6_append 3 = .ok (.if_icmp .lt 9, 3) := by decide +kernel
theorem dX6_append_6 : decode cX6_append 6 = .ok (.iload_n 1, 1) := by decide +kernel
theorem dX6_append_7 : decode cX6_append 7 = .ok (.bipush 126, 2) := by decide +kernel
theorem dX6_append_9 : decode cX6_append 9 = .ok (.if_icmp .le 13, 3) := by decide +kernel
theorem dX6_append_12 : decode cX6_append 12 = .ok (.new 44, 3) := by decide +kernel
theorem dX6_append_15 : decode cX6_append 15 = .ok (.dup, 1) := by decide +kernel
theorem dX6_append_16 : decode cX6_append 16 = .ok (.ldc 131, 2) := by decide +kernel
theorem dX6_append_18 : decode cX6_append 18 = .ok (.invokespecial 48, 3) := by decide +kernel
theorem dX6_append_21 : decode cX6_append 21 = .ok (.athrow, 1) := by decide +kernel
theorem dX6_append_22 : decode cX6_append 22 = .ok (.aload_n 0, 1) := by decide +kernel
theorem dX6_append_23 : decode cX6_append 23 = .ok (.getfield 33, 3) := by decide +kernel
theorem dX6_append_26 : decode cX6_append 26 = .ok (.getfield 133, 3) := by decide +kernel
theorem dX6_append_29 : decode cX6_append 29 = .ok (.bipush 60, 2) := by decide +kernel
theorem dX6_append_31 : decode cX6_append 31 = .ok (.if_icmp .lt 13, 3) := by decide +kernel
theorem dX6_append_34 : decode cX6_append 34 = .ok (.new 75, 3) := by decide +kernel
theorem dX6_append_37 : decode cX6_append 37 = .ok (.dup, 1) := by decide +kernel
theorem dX6_append_38 : decode cX6_append 38 = .ok (.ldc 136, 2) := by decide +kernel
theorem dX6_append_40 : decode cX6_append 40 = .ok (.invokespecial 79, 3) := by decide +kernel
theorem dX6_append_43 : decode cX6_append 43 = .ok (.athrow, 1) := by decide +kernel
theorem dX6_append_44 : decode cX6_append 44 = .ok (.aload_n 0, 1) := by decide +kernel
theorem dX6_append_45 : decode cX6_append 45 = .ok (.getfield 33, 3) := by decide +kernel
theorem dX6_append_48 : decode cX6_append 48 = .ok (.iload_n 1, 1) := by decide +kernel
theorem dX6_append_49 : decode cX6_append 49 = .ok (.invokevirtual 138, 3) := by decide +kernel
theorem dX6_append_52 : decode cX6_append 52 = .ok (.aload_n 0, 1) := by decide +kernel
theorem dX6_append_53 : decode cX6_append 53 = .ok (.getfield 33, 3) := by decide +kernel
theorem dX6_append_56 : decode cX6_append 56 = .ok (.getfield 133, 3) := by decide +kernel
theorem dX6_append_59 : decode cX6_append 59 = .ok (.ireturn, 1) := by decide +kernel
theorem dX6_clearBuffer_0 : decode cX6_clearBuffer 0 = .ok (.aload_n 0, 1) := by decide +kernel
theorem dX6_clearBuffer_1 : decode cX6_clearBuffer 1 = .ok (.getfield 33, 3) := by decide +kernel
theorem dX6_clearBuffer_4 : decode cX6_clearBuffer 4 = .ok (.getfield 133, 3) := by decide +kernel
theorem dX6_clearBuffer_7 : decode cX6_clearBuffer 7 = .ok (.istore_n 1, 1) := by decide +kernel
theorem dX6_clearBuffer_8 : decode cX6_clearBuffer 8 = .ok (.aload_n 0, 1) := by decide +kernel
theorem dX6_clearBuffer_9 : decode cX6_clearBuffer 9 = .ok (.getfield 33, 3) := by decide +kernel
theorem dX6_clearBuffer_12 : decode cX6_clearBuffer 12 = .ok (.invokevirtual 141, 3) := by decide +kernel
theorem dX6_clearBuffer_15 : decode cX6_clearBuffer 15 = .ok (.iload_n 1, 1) := by decide +kernel
theorem dX6_clearBuffer_16 : decode cX6_clearBuffer 16 = .ok (.ireturn, 1) := by decide +kernel
theorem dX6_firstError_0 : decode cX6_firstError 0 = .ok (.aload_n 0, 1) := by decide +kernel
theorem dX6_firstError_1 : decode cX6_firstError 1 = .ok (.getfield 33, 3) := by decide +kernel
theorem dX6_firstError_4 : decode cX6_firstError 4 = .ok (.invokevirtual 144, 3) := by decide +kernel
theorem dX6_firstError_7 : decode cX6_firstError 7 = .ok (.ireturn, 1) := by decide +kernel
theorem dX6_obey_0 : decode cX6_obey 0 = .ok (.aload_n 0, 1) := by decide +kernel
theorem dX6_obey_1 : decode cX6_obey 1 = .ok (.getfield 33, 3) := by decide +kernel
theorem dX6_obey_4 : decode cX6_obey 4 = .ok (.invokevirtual 147, 3) := by decide +kernel
theorem dX6_obey_7 : decode cX6_obey 7 = .ok (.ifCond .ne 13, 3) := by decide +kernel
theorem dX6_obey_10 : decode cX6_obey 10 = .ok (.new 44, 3) := by decide +kernel
theorem dX6_obey_13 : decode cX6_obey 13 = .ok (.dup, 1) := by decide +kernel
theorem dX6_obey_14 : decode cX6_obey 14 = .ok (.ldc 151, 2) := by decide +kernel
theorem dX6_obey_16 : decode cX6_obey 16 = .ok (.invokespecial 48, 3) := by decide +kernel
theorem dX6_obey_19 : decode cX6_obey 19 = .ok (.athrow, 1) := by decide +kernel
theorem dX6_obey_20 : decode cX6_obey 20 = .ok (.aload_n 0, 1) := by decide +kernel
theorem dX6_obey_21 : decode cX6_obey 21 = .ok (.getfield 26, 3) := by decide +kernel
theorem dX6_obey_24 : decode cX6_obey 24 = .ok (.aload_n 0, 1) := by decide +kernel
theorem dX6_obey_25 : decode cX6_obey 25 = .ok (.getfield 10, 3) := by decide +kernel
theorem dX6_obey_28 : decode cX6_obey 28 = .ok (.invokevirtual 51, 3) := by decide +kernel
theorem dX6_obey_31 : decode cX6_obey 31 = .ok (.iconst 0, 1) := by decide +kernel
theorem dX6_obey_32 : decode cX6_obey 32 = .ok (.istore_n 1, 1) := by decide +kernel
theorem dX6_obey_33 : decode cX6_obey 33 = .ok (.iconst 1, 1) := by decide +kernel
theorem dX6_obey_34 : decode cX6_obey 34 = .ok (.istore_n 2, 1) := by decide +kernel
theorem dX6_obey_35 : decode cX6_obey 35 = .ok (.iconst 0, 1) := by decide +kernel
theorem dX6_obey_36 : decode cX6_obey 36 = .ok (.istore_n 3, 1) := by decide +kernel
theorem dX6_obey_37 : decode cX6_obey 37 = .ok (.iload_n 3, 1) := by decide +kernel
theorem dX6_obey_38 : decode cX6_obey 38 = .ok (.aload_n 0, 1) := by decide +kernel
theorem dX6_obey_39 : decode cX6_obey 39 = .ok (.getfield 33, 3) := by decide +kernel
theorem dX6_obey_42 : decode cX6_obey 42 = .ok (.getfield 133, 3) := by decide +kernel
theorem dX6_obey_45 : decode cX6_obey 45 = .ok (.if_icmp .ge 42, 3) := by decide +kernel
theorem dX6_obey_48 : decode cX6_obey 48 = .ok (.iload_n 2, 1) := by decide +kernel
theorem dX6_obey_49 : decode cX6_obey 49 = .ok (.ifCond .eq 38, 3) := by decide +kernel
theorem dX6_obey_52 : decode cX6_obey 52 = .ok (.aload_n 0, 1) := by decide +kernel
theorem dX6_obey_53 : decode cX6_obey 53 = .ok (.getfield 33, 3) := by decide +kernel
theorem dX6_obey_56 : decode cX6_obey 56 = .ok (.iload_n 3, 1) := by decide +kernel
theorem dX6_obey_57 : decode cX6_obey 57 = .ok (.invokevirtual 153, 3) := by decide +kernel
theorem dX6_obey_60 : decode cX6_obey 60 = .ok (.ifCond .eq 21, 3) := by decide +kernel
theorem dX6_obey_63 : decode cX6_obey 63 = .ok (.aload_n 0, 1) := by decide +kernel
theorem dX6_obey_64 : decode cX6_obey 64 = .ok (.iload_n 3, 1) := by decide +kernel
theorem dX6_obey_65 : decode cX6_obey 65 = .ok (.invokevirtual 157, 3) := by decide +kernel
theorem dX6_obey_68 : decode cX6_obey 68 = .ok (.istore_n 2, 1) := by decide +kernel
theorem dX6_obey_69 : decode cX6_obey 69 = .ok (.iload_n 1, 1) := by decide +kernel
theorem dX6_obey_70 : decode cX6_obey 70 = .ok (.iload_n 2, 1) := by decide +kernel
theorem dX6_obey_71 : decode cX6_obey 71 = .ok (.ifCond .eq 7, 3) := by decide +kernel
theorem dX6_obey_74 : decode cX6_obey 74 = .ok (.iconst 1, 1) := by decide +kernel
theorem dX6_obey_75 : decode cX6_obey 75 = .ok (.goto 4, 3) := by decide +kernel
theorem dX6_obey_78 : decode cX6_obey 78 = .ok (.iconst 0, 1) := by decide +kernel
theorem dX6_obey_79 : decode cX6_obey 79 = .ok (.iadd, 1) := by decide +kernel
theorem dX6_obey_80 : decode cX6_obey 80 = .ok (.istore_n 1, 1) := by decide +kernel
theorem dX6_obey_81 : decode cX6_obey 81 = .ok (.iinc 3 1, 3) := by decide +kernel
theorem dX6_obey_84 : decode cX6_obey 84 = .ok (.goto (-47), 3) := by decide +kernel
theorem dX6_obey_87 : decode cX6_obey 87 = .ok (.aload_n 0, 1) := by decide +kernel
theorem dX6_obey_88 : decode cX6_obey 88 = .ok (.getfield 33, 3) := by decide +kernel
theorem dX6_obey_91 : decode cX6_obey 91 = .ok (.invokevirtual 141, 3) := by decide +kernel
theorem dX6_obey_94 : decode cX6_obey 94 = .ok (.iload_n 1, 1) := by decide +kernel
theorem dX6_obey_95 : decode cX6_obey 95 = .ok (.ireturn, 1) := by decide +kernel
theorem dX6_keep_0 : decode cX6_keep 0 = .ok (.aload_n 0, 1) := by decide +kernel
theorem dX6_keep_1 : decode cX6_keep 1 = .ok (.getfield 16, 3) := by decide +kernel
theorem dX6_keep_4 : decode cX6_keep 4 = .ok (.aload_n 0, 1) := by decide +kernel
theorem dX6_keep_5 : decode cX6_keep 5 = .ok (.getfield 10, 3) := by decide +kernel
theorem dX6_keep_8 : decode cX6_keep 8 = .ok (.invokevirtual 160, 3) := by decide +kernel
theorem dX6_keep_11 : decode cX6_keep 11 = .ok (.aload_n 0, 1) := by decide +kernel
theorem dX6_keep_12 : decode cX6_keep 12 = .ok (.iconst 1, 1) := by decide +kernel
theorem dX6_keep_13 : decode cX6_keep 13 = .ok (.putfield 19, 3) := by decide +kernel
theorem dX6_keep_16 : decode cX6_keep 16 = .ok (.aload_n 0, 1) := by decide +kernel
theorem dX6_keep_17 : decode cX6_keep 17 = .ok (.getfield 10, 3) := by decide +kernel
theorem dX6_keep_20 : decode cX6_keep 20 = .ok (.getfield 83, 3) := by decide +kernel
theorem dX6_keep_23 : decode cX6_keep 23 = .ok (.ireturn, 1) := by decide +kernel
theorem dX6_goBack_0 : decode cX6_goBack 0 = .ok (.aload_n 0, 1) := by decide +kernel
theorem dX6_goBack_1 : decode cX6_goBack 1 = .ok (.getfield 19, 3) := by decide +kernel
theorem dX6_goBack_4 : decode cX6_goBack 4 = .ok (.ifCond .ne 13, 3) := by decide +kernel
theorem dX6_goBack_7 : decode cX6_goBack 7 = .ok (.new 75, 3) := by decide +kernel
theorem dX6_goBack_10 : decode cX6_goBack 10 = .ok (.dup, 1) := by decide +kernel
theorem dX6_goBack_11 : decode cX6_goBack 11 = .ok (.ldc 163, 2) := by decide +kernel
theorem dX6_goBack_13 : decode cX6_goBack 13 = .ok (.invokespecial 79, 3) := by decide +kernel
theorem dX6_goBack_16 : decode cX6_goBack 16 = .ok (.athrow, 1) := by decide +kernel
theorem dX6_goBack_17 : decode cX6_goBack 17 = .ok (.aload_n 0, 1) := by decide +kernel
theorem dX6_goBack_18 : decode cX6_goBack 18 = .ok (.getfield 26, 3) := by decide +kernel
theorem dX6_goBack_21 : decode cX6_goBack 21 = .ok (.aload_n 0, 1) := by decide +kernel
theorem dX6_goBack_22 : decode cX6_goBack 22 = .ok (.getfield 10, 3) := by decide +kernel
theorem dX6_goBack_25 : decode cX6_goBack 25 = .ok (.invokevirtual 51, 3) := by decide +kernel
theorem dX6_goBack_28 : decode cX6_goBack 28 = .ok (.aload_n 0, 1) := by decide +kernel
theorem dX6_goBack_29 : decode cX6_goBack 29 = .ok (.getfield 10, 3) := by decide +kernel
theorem dX6_goBack_32 : decode cX6_goBack 32 = .ok (.aload_n 0, 1) := by decide +kernel
theorem dX6_goBack_33 : decode cX6_goBack 33 = .ok (.getfield 16, 3) := by decide +kernel
theorem dX6_goBack_36 : decode cX6_goBack 36 = .ok (.invokevirtual 160, 3) := by decide +kernel
theorem dX6_goBack_39 : decode cX6_goBack 39 = .ok (.aload_n 0, 1) := by decide +kernel
theorem dX6_goBack_40 : decode cX6_goBack 40 = .ok (.getfield 10, 3) := by decide +kernel
theorem dX6_goBack_43 : decode cX6_goBack 43 = .ok (.getfield 83, 3) := by decide +kernel
theorem dX6_goBack_46 : decode cX6_goBack 46 = .ok (.ireturn, 1) := by decide +kernel
theorem dX6_undo_0 : decode cX6_undo 0 = .ok (.aload_n 0, 1) := by decide +kernel
theorem dX6_undo_1 : decode cX6_undo 1 = .ok (.getfield 26, 3) := by decide +kernel
theorem dX6_undo_4 : decode cX6_undo 4 = .ok (.getfield 165, 3) := by decide +kernel
theorem dX6_undo_7 : decode cX6_undo 7 = .ok (.ifCond .ne 13, 3) := by decide +kernel
theorem dX6_undo_10 : decode cX6_undo 10 = .ok (.new 75, 3) := by decide +kernel
theorem dX6_undo_13 : decode cX6_undo 13 = .ok (.dup, 1) := by decide +kernel
theorem dX6_undo_14 : decode cX6_undo 14 = .ok (.ldc 168, 2) := by decide +kernel
theorem dX6_undo_16 : decode cX6_undo 16 = .ok (.invokespecial 79, 3) := by decide +kernel
theorem dX6_undo_19 : decode cX6_undo 19 = .ok (.athrow, 1) := by decide +kernel
theorem dX6_undo_20 : decode cX6_undo 20 = .ok (.aload_n 0, 1) := by decide +kernel
theorem dX6_undo_21 : decode cX6_undo 21 = .ok (.getfield 26, 3) := by decide +kernel
theorem dX6_undo_24 : decode cX6_undo 24 = .ok (.aload_n 0, 1) := by decide +kernel
theorem dX6_undo_25 : decode cX6_undo 25 = .ok (.getfield 10, 3) := by decide +kernel
theorem dX6_undo_28 : decode cX6_undo 28 = .ok (.invokevirtual 170, 3) := by decide +kernel
theorem dX6_undo_31 : decode cX6_undo 31 = .ok (.aload_n 0, 1) := by decide +kernel
theorem dX6_undo_32 : decode cX6_undo 32 = .ok (.getfield 26, 3) := by decide +kernel
theorem dX6_undo_35 : decode cX6_undo 35 = .ok (.getfield 165, 3) := by decide +kernel
theorem dX6_undo_38 : decode cX6_undo 38 = .ok (.ireturn, 1) := by decide +kernel
theorem dX6_dial_0 : decode cX6_dial 0 = .ok (.iload_n 1, 1) := by decide +kernel
theorem dX6_dial_1 : decode cX6_dial 1 = .ok (.invokestatic 90, 3) := by decide +kernel
theorem dX6_dial_4 : decode cX6_dial 4 = .ok (.iload_n 2, 1) := by decide +kernel
theorem dX6_dial_5 : decode cX6_dial 5 = .ok (.ifCond .lt 9, 3) := by decide +kernel
theorem dX6_dial_8 : decode cX6_dial 8 = .ok (.iload_n 2, 1) := by decide +kernel
theorem dX6_dial_9 : decode cX6_dial 9 = .ok (.bipush 7, 2) := by decide +kernel
theorem dX6_dial_11 : decode cX6_dial 11 = .ok (.if_icmp .lt 13, 3) := by decide +kernel
theorem dX6_dial_14 : decode cX6_dial 14 = .ok (.new 44, 3) := by decide +kernel
theorem dX6_dial_17 : decode cX6_dial 17 = .ok (.dup, 1) := by decide +kernel
theorem dX6_dial_18 : decode cX6_dial 18 = .ok (.ldc 173, 2) := by decide +kernel
theorem dX6_dial_20 : decode cX6_dial 20 = .ok (.invokespecial 48, 3) := by decide +kernel
theorem dX6_dial_23 : decode cX6_dial 23 = .ok (.athrow, 1) := by decide +kernel
theorem dX6_dial_24 : decode cX6_dial 24 = .ok (.aload_n 0, 1) := by decide +kernel
theorem dX6_dial_25 : decode cX6_dial 25 = .ok (.iload_n 1, 1) := by decide +kernel
theorem dX6_dial_26 : decode cX6_dial 26 = .ok (.iload_n 2, 1) := by decide +kernel
theorem dX6_dial_27 : decode cX6_dial 27 = .ok (.invokevirtual 175, 3) := by decide +kernel
theorem dX6_dial_30 : decode cX6_dial 30 = .ok (.ireturn, 1) := by decide +kernel
theorem dX6_says_0 : decode cX6_says 0 = .ok (.iload_n 1, 1) := by decide +kernel
theorem dX6_says_1 : decode cX6_says 1 = .ok (.invokestatic 90, 3) := by decide +kernel
theorem dX6_says_4 : decode cX6_says 4 = .ok (.iload_n 2, 1) := by decide +kernel
theorem dX6_says_5 : decode cX6_says 5 = .ok (.ifCond .lt 9, 3) := by decide +kernel
theorem dX6_says_8 : decode cX6_says 8 = .ok (.iload_n 2, 1) := by decide +kernel
theorem dX6_says_9 : decode cX6_says 9 = .ok (.bipush 6, 2) := by decide +kernel
theorem dX6_says_11 : decode cX6_says 11 = .ok (.if_icmp .lt 13, 3) := by decide +kernel
theorem dX6_says_14 : decode cX6_says 14 = .ok (.new 44, 3) := by decide +kernel
theorem dX6_says_17 : decode cX6_says 17 = .ok (.dup, 1) := by decide +kernel
theorem dX6_says_18 : decode cX6_says 18 = .ok (.ldc 173, 2) := by decide +kernel
theorem dX6_says_20 : decode cX6_says 20 = .ok (.invokespecial 48, 3) := by decide +kernel
theorem dX6_says_23 : decode cX6_says 23 = .ok (.athrow, 1) := by decide +kernel
theorem dX6_says_24 : decode cX6_says 24 = .ok (.aload_n 0, 1) := by decide +kernel
theorem dX6_says_25 : decode cX6_says 25 = .ok (.iload_n 1, 1) := by decide +kernel
theorem dX6_says_26 : decode cX6_says 26 = .ok (.iload_n 2, 1) := by decide +kernel
theorem dX6_says_27 : decode cX6_says 27 = .ok (.invokevirtual 178, 3) := by decide +kernel
theorem dX6_says_30 : decode cX6_says 30 = .ok (.ireturn, 1) := by decide +kernel
theorem dX6_count_0 : decode cX6_count 0 = .ok (.iload_n 1, 1) := by decide +kernel
theorem dX6_count_1 : decode cX6_count 1 = .ok (.ifCond .lt 9, 3) := by decide +kernel
theorem dX6_count_4 : decode cX6_count 4 = .ok (.iload_n 1, 1) := by decide +kernel
theorem dX6_count_5 : decode cX6_count 5 = .ok (.bipush 14, 2) := by decide +kernel
theorem dX6_count_7 : decode cX6_count 7 = .ok (.if_icmp .lt 13, 3) := by decide +kernel
theorem dX6_count_10 : decode cX6_count 10 = .ok (.new 44, 3) := by decide +kernel
theorem dX6_count_13 : decode cX6_count 13 = .ok (.dup, 1) := by decide +kernel
theorem dX6_count_14 : decode cX6_count 14 = .ok (.ldc 173, 2) := by decide +kernel
theorem dX6_count_16 : decode cX6_count 16 = .ok (.invokespecial 48, 3) := by decide +kernel
theorem dX6_count_19 : decode cX6_count 19 = .ok (.athrow, 1) := by decide +kernel
theorem dX6_count_20 : decode cX6_count 20 = .ok (.iload_n 1, 1) := by decide +kernel
theorem dX6_count_21 : decode cX6_count 21 = .ok (.bipush 7, 2) := by decide +kernel
theorem dX6_count_23 : decode cX6_count 23 = .ok (.if_icmp .ge 11, 3) := by decide +kernel
theorem dX6_count_26 : decode cX6_count 26 = .ok (.aload_n 0, 1) := by decide +kernel
theorem dX6_count_27 : decode cX6_count 27 = .ok (.iload_n 1, 1) := by decide +kernel
theorem dX6_count_28 : decode cX6_count 28 = .ok (.invokevirtual 181, 3) := by decide +kernel
theorem dX6_count_31 : decode cX6_count 31 = .ok (.goto 8, 3) := by decide +kernel
theorem dX6_count_34 : decode cX6_count 34 = .ok (.aload_n 0, 1) := by decide +kernel
theorem dX6_count_35 : decode cX6_count 35 = .ok (.iload_n 1, 1) := by decide +kernel
theorem dX6_count_36 : decode cX6_count 36 = .ok (.invokevirtual 184, 3) := by decide +kernel
theorem dX6_count_39 : decode cX6_count 39 = .ok (.ireturn, 1) := by decide +kernel
theorem dX6_setting_0 : decode cX6_setting 0 = .ok (.iload_n 1, 1) := by decide +kernel
theorem dX6_setting_1 : decode cX6_setting 1 = .ok (.invokestatic 123, 3) := by decide +kernel
theorem dX6_setting_4 : decode cX6_setting 4 = .ok (.aload_n 0, 1) := by decide +kernel
theorem dX6_setting_5 : decode cX6_setting 5 = .ok (.getfield 10, 3) := by decide +kernel
theorem dX6_setting_8 : decode cX6_setting 8 = .ok (.getfield 128, 3) := by decide +kernel
theorem dX6_setting_11 : decode cX6_setting 11 = .ok (.iload_n 1, 1) := by decide +kernel
theorem dX6_setting_12 : decode cX6_setting 12 = .ok (.iaload, 1) := by decide +kernel
theorem dX6_setting_13 : decode cX6_setting 13 = .ok (.ireturn, 1) := by decide +kernel
theorem dX6_without_0 : decode cX6_without 0 = .ok (.iload_n 1, 1) := by decide +kernel
theorem dX6_without_1 : decode cX6_without 1 = .ok (.invokestatic 90, 3) := by decide +kernel
theorem dX6_without_4 : decode cX6_without 4 = .ok (.aload_n 0, 1) := by decide +kernel
theorem dX6_without_5 : decode cX6_without 5 = .ok (.iload_n 1, 1) := by decide +kernel
theorem dX6_without_6 : decode cX6_without 6 = .ok (.iconst 0, 1) := by decide +kernel
theorem dX6_without_7 : decode cX6_without 7 = .ok (.invokevirtual 187, 3) := by decide +kernel
theorem dX6_without_10 : decode cX6_without 10 = .ok (.ireturn, 1) := by decide +kernel
theorem dX6_pivot_0 : decode cX6_pivot 0 = .ok (.aload_n 0, 1) := by decide +kernel
theorem dX6_pivot_1 : decode cX6_pivot 1 = .ok (.invokevirtual 190, 3) := by decide +kernel
theorem dX6_pivot_4 : decode cX6_pivot 4 = .ok (.istore_n 1, 1) := by decide +kernel
theorem dX6_pivot_5 : decode cX6_pivot 5 = .ok (.iload_n 1, 1) := by decide +kernel
theorem dX6_pivot_6 : decode cX6_pivot 6 = .ok (.iconst (-1), 1) := by decide +kernel
theorem dX6_pivot_7 : decode cX6_pivot 7 = .ok (.if_icmp .ne 5, 3) := by decide +kernel
theorem dX6_pivot_10 : decode cX6_pivot 10 = .ok (.iconst (-1), 1) := by decide +kernel
theorem dX6_pivot_11 : decode cX6_pivot 11 = .ok (.ireturn, 1) := by decide +kernel
theorem dX6_pivot_12 : decode cX6_pivot 12 = .ok (.iconst (-1), 1) := by decide +kernel
theorem dX6_pivot_13 : decode cX6_pivot 13 = .ok (.istore_n 2, 1) := by decide +kernel
theorem dX6_pivot_14 : decode cX6_pivot 14 = .ok (.iconst (-1), 1) := by decide +kernel
theorem dX6_pivot_15 : decode cX6_pivot 15 = .ok (.istore_n 3, 1) := by decide +kernel
theorem dX6_pivot_16 : decode cX6_pivot 16 = .ok (.iconst 0, 1) := by decide +kernel
theorem dX6_pivot_17 : decode cX6_pivot 17 = .ok (.istore 4, 2) := by decide +kernel
theorem dX6_pivot_19 : decode cX6_pivot 19 = .ok (.iload 4, 2) := by decide +kernel
theorem dX6_pivot_21 : decode cX6_pivot 21 = .ok (.bipush 7, 2) := by decide +kernel
theorem dX6_pivot_23 : decode cX6_pivot 23 = .ok (.if_icmp .ge 44, 3) := by decide +kernel
theorem dX6_pivot_26 : decode cX6_pivot 26 = .ok (.aload_n 0, 1) := by decide +kernel
theorem dX6_pivot_27 : decode cX6_pivot 27 = .ok (.iload 4, 2) := by decide +kernel
theorem dX6_pivot_29 : decode cX6_pivot 29 = .ok (.iconst 0, 1) := by decide +kernel
theorem dX6_pivot_30 : decode cX6_pivot 30 = .ok (.invokevirtual 187, 3) := by decide +kernel
theorem dX6_pivot_33 : decode cX6_pivot 33 = .ok (.istore 5, 2) := by decide +kernel
theorem dX6_pivot_35 : decode cX6_pivot 35 = .ok (.iload 5, 2) := by decide +kernel
theorem dX6_pivot_37 : decode cX6_pivot 37 = .ok (.iload_n 1, 1) := by decide +kernel
theorem dX6_pivot_38 : decode cX6_pivot 38 = .ok (.invokestatic 193, 3) := by decide +kernel
theorem dX6_pivot_41 : decode cX6_pivot 41 = .ok (.istore 6, 2) := by decide +kernel
theorem dX6_pivot_43 : decode cX6_pivot 43 = .ok (.iload 5, 2) := by decide +kernel
theorem dX6_pivot_45 : decode cX6_pivot 45 = .ok (.iconst (-1), 1) := by decide +kernel
theorem dX6_pivot_46 : decode cX6_pivot 46 = .ok (.if_icmp .eq 15, 3) := by decide +kernel
theorem dX6_pivot_49 : decode cX6_pivot 49 = .ok (.iload 6, 2) := by decide +kernel
theorem dX6_pivot_51 : decode cX6_pivot 51 = .ok (.iload_n 3, 1) := by decide +kernel
theorem dX6_pivot_52 : decode cX6_pivot 52 = .ok (.if_icmp .le 9, 3) := by decide +kernel
theorem dX6_pivot_55 : decode cX6_pivot 55 = .ok (.iload 6, 2) := by decide +kernel
theorem dX6_pivot_57 : decode cX6_pivot 57 = .ok (.istore_n 3, 1) := by decide +kernel
theorem dX6_pivot_58 : decode cX6_pivot 58 = .ok (.iload 4, 2) := by decide +kernel
theorem dX6_pivot_60 : decode cX6_pivot 60 = .ok (.istore_n 2, 1) := by decide +kernel
theorem dX6_pivot_61 : decode cX6_pivot 61 = .ok (.iinc 4 1, 3) := by decide +kernel
theorem dX6_pivot_64 : decode cX6_pivot 64 = .ok (.goto (-45), 3) := by decide +kernel
theorem dX6_pivot_67 : decode cX6_pivot 67 = .ok (.iload_n 2, 1) := by decide +kernel
theorem dX6_pivot_68 : decode cX6_pivot 68 = .ok (.ireturn, 1) := by decide +kernel
theorem dX6_wins_0 : decode cX6_wins 0 = .ok (.iload_n 1, 1) := by decide +kernel
theorem dX6_wins_1 : decode cX6_wins 1 = .ok (.invokestatic 90, 3) := by decide +kernel
theorem dX6_wins_4 : decode cX6_wins 4 = .ok (.aload_n 0, 1) := by decide +kernel
theorem dX6_wins_5 : decode cX6_wins 5 = .ok (.getfield 10, 3) := by decide +kernel
theorem dX6_wins_8 : decode cX6_wins 8 = .ok (.iload_n 1, 1) := by decide +kernel
theorem dX6_wins_9 : decode cX6_wins 9 = .ok (.invokevirtual 196, 3) := by decide +kernel
theorem dX6_wins_12 : decode cX6_wins 12 = .ok (.istore_n 2, 1) := by decide +kernel
theorem dX6_wins_13 : decode cX6_wins 13 = .ok (.iconst 1, 1) := by decide +kernel
theorem dX6_wins_14 : decode cX6_wins 14 = .ok (.istore_n 3, 1) := by decide +kernel
theorem dX6_wins_15 : decode cX6_wins 15 = .ok (.iload_n 3, 1) := by decide +kernel
theorem dX6_wins_16 : decode cX6_wins 16 = .ok (.bipush 9, 2) := by decide +kernel
theorem dX6_wins_18 : decode cX6_wins 18 = .ok (.if_icmp .gt 21, 3) := by decide +kernel
theorem dX6_wins_21 : decode cX6_wins 21 = .ok (.aload_n 0, 1) := by decide +kernel
theorem dX6_wins_22 : decode cX6_wins 22 = .ok (.iload_n 1, 1) := by decide +kernel
theorem dX6_wins_23 : decode cX6_wins 23 = .ok (.iload_n 3, 1) := by decide +kernel
theorem dX6_wins_24 : decode cX6_wins 24 = .ok (.invokevirtual 187, 3) := by decide +kernel
theorem dX6_wins_27 : decode cX6_wins 27 = .ok (.iload_n 2, 1) := by decide +kernel
theorem dX6_wins_28 : decode cX6_wins 28 = .ok (.if_icmp .ne 5, 3) := by decide +kernel
theorem dX6_wins_31 : decode cX6_wins 31 = .ok (.iload_n 3, 1) := by decide +kernel
theorem dX6_wins_32 : decode cX6_wins 32 = .ok (.ireturn, 1) := by decide +kernel
theorem dX6_wins_33 : decode cX6_wins 33 = .ok (.iinc 3 1, 3) := by decide +kernel
theorem dX6_wins_36 : decode cX6_wins 36 = .ok (.goto (-21), 3) := by decide +kernel
theorem dX6_wins_39 : decode cX6_wins 39 = .ok (.iconst (-1), 1) := by decide +kernel
theorem dX6_wins_40 : decode cX6_wins 40 = .ok (.ireturn, 1) := by decide +kernel
theorem dX6_quarrelIn_0 : decode cX6_quarrelIn 0 = .ok (.iload_n 1, 1) := by decide +kernel
theorem dX6_quarrelIn_1 : decode cX6_quarrelIn 1 = .ok (.invokestatic 90, 3) := by decide +kernel
theorem dX6_quarrelIn_4 : decode cX6_quarrelIn 4 = .ok (.aload_n 0, 1) := by decide +kernel
theorem dX6_quarrelIn_5 : decode cX6_quarrelIn 5 = .ok (.getfield 10, 3) := by decide +kernel
theorem dX6_quarrelIn_8 : decode cX6_quarrelIn 8 = .ok (.iload_n 1, 1) := by decide +kernel
theorem dX6_quarrelIn_9 : decode cX6_quarrelIn 9 = .ok (.invokevirtual 199, 3) := by decide +kernel
theorem dX6_quarrelIn_12 : decode cX6_quarrelIn 12 = .ok (.ireturn, 1) := by decide +kernel
theorem dX6_ringsIn_0 : decode cX6_ringsIn 0 = .ok (.iload_n 1, 1) := by decide +kernel
theorem dX6_ringsIn_1 : decode cX6_ringsIn 1 = .ok (.invokestatic 90, 3) := by decide +kernel
theorem dX6_ringsIn_4 : decode cX6_ringsIn 4 = .ok (.aload_n 0, 1) := by decide +kernel
theorem dX6_ringsIn_5 : decode cX6_ringsIn 5 = .ok (.getfield 10, 3) := by decide +kernel
theorem dX6_ringsIn_8 : decode cX6_ringsIn 8 = .ok (.getfield 55, 3) := by decide +kernel
theorem dX6_ringsIn_11 : decode cX6_ringsIn 11 = .ok (.iload_n 1, 1) := by decide +kernel
theorem dX6_ringsIn_12 : decode cX6_ringsIn 12 = .ok (.invokevirtual 202, 3) := by decide +kernel
theorem dX6_ringsIn_15 : decode cX6_ringsIn 15 = .ok (.ireturn, 1) := by decide +kernel
theorem dX6_heldShare_0 : decode cX6_heldShare 0 = .ok (.aload_n 0, 1) := by decide +kernel
theorem dX6_heldShare_1 : decode cX6_heldShare 1 = .ok (.getfield 10, 3) := by decide +kernel
theorem dX6_heldShare_4 : decode cX6_heldShare 4 = .ok (.getfield 205, 3) := by decide +kernel
theorem dX6_heldShare_7 : decode cX6_heldShare 7 = .ok (.ifCond .ne 5, 3) := by decide +kernel
theorem dX6_heldShare_10 : decode cX6_heldShare 10 = .ok (.dconst 0, 1) := by decide +kernel
theorem dX6_heldShare_11 : decode cX6_heldShare 11 = .ok (.dreturn, 1) := by decide +kernel
theorem dX6_heldShare_12 : decode cX6_heldShare 12 = .ok (.aload_n 0, 1) := by decide +kernel
theorem dX6_heldShare_13 : decode cX6_heldShare 13 = .ok (.getfield 10, 3) := by decide +kernel
theorem dX6_heldShare_16 : decode cX6_heldShare 16 = .ok (.getfield 208, 3) := by decide +kernel
theorem dX6_heldShare_19 : decode cX6_heldShare 19 = .ok (.i2d, 1) := by decide +kernel
theorem dX6_heldShare_20 : decode cX6_heldShare 20 = .ok (.aload_n 0, 1) := by decide +kernel
theorem dX6_heldShare_21 : decode cX6_heldShare 21 = .ok (.getfield 10, 3) := by decide +kernel
theorem dX6_heldShare_24 : decode cX6_heldShare 24 = .ok (.getfield 205, 3) := by decide +kernel
theorem dX6_heldShare_27 : decode cX6_heldShare 27 = .ok (.i2d, 1) := by decide +kernel
theorem dX6_heldShare_28 : decode cX6_heldShare 28 = .ok (.ddiv, 1) := by decide +kernel
theorem dX6_heldShare_29 : decode cX6_heldShare 29 = .ok (.dreturn, 1) := by decide +kernel
theorem dX6_meanError_0 : decode cX6_meanError 0 = .ok (.iconst 0, 1) := by decide +kernel
theorem dX6_meanError_1 : decode cX6_meanError 1 = .ok (.istore_n 1, 1) := by decide +kernel
theorem dX6_meanError_2 : decode cX6_meanError 2 = .ok (.iconst 0, 1) := by decide +kernel
theorem dX6_meanError_3 : decode cX6_meanError 3 = .ok (.istore_n 2, 1) := by decide +kernel
theorem dX6_meanError_4 : decode cX6_meanError 4 = .ok (.iload_n 2, 1) := by decide +kernel
theorem dX6_meanError_5 : decode cX6_meanError 5 = .ok (.bipush 7, 2) := by decide +kernel
theorem dX6_meanError_7 : decode cX6_meanError 7 = .ok (.if_icmp .ge 23, 3) := by decide +kernel
theorem dX6_meanError_10 : decode cX6_meanError 10 = .ok (.iload_n 1, 1) := by decide +kernel
theorem dX6_meanError_11 : decode cX6_meanError 11 = .ok (.aload_n 0, 1) := by decide +kernel
theorem dX6_meanError_12 : decode cX6_meanError 12 = .ok (.getfield 10, 3) := by decide +kernel
theorem dX6_meanError_15 : decode cX6_meanError 15 = .ok (.getfield 55, 3) := by decide +kernel
theorem dX6_meanError_18 : decode cX6_meanError 18 = .ok (.iload_n 2, 1) := by decide +kernel
theorem dX6_meanError_19 : decode cX6_meanError 19 = .ok (.invokevirtual 211, 3) := by decide +kernel
theorem dX6_meanError_22 : decode cX6_meanError 22 = .ok (.iadd, 1) := by decide +kernel
theorem dX6_meanError_23 : decode cX6_meanError 23 = .ok (.istore_n 1, 1) := by decide +kernel
theorem dX6_meanError_24 : decode cX6_meanError 24 = .ok (.iinc 2 1, 3) := by decide +kernel
theorem dX6_meanError_27 : decode cX6_meanError 27 = .ok (.goto (-23), 3) := by decide +kernel
theorem dX6_meanError_30 : decode cX6_meanError 30 = .ok (.iload_n 1, 1) := by decide +kernel
theorem dX6_meanError_31 : decode cX6_meanError 31 = .ok (.i2f, 1) := by decide +kernel
theorem dX6_meanError_32 : decode cX6_meanError 32 = .ok (.ldc 214, 2) := by decide +kernel
theorem dX6_meanError_34 : decode cX6_meanError 34 = .ok (.fdiv, 1) := by decide +kernel
theorem dX6_meanError_35 : decode cX6_meanError 35 = .ok (.freturn, 1) := by decide +kernel
theorem dX6_digest_0 : decode cX6_digest 0 = .ok (.ldc2_w 215, 3) := by decide +kernel
theorem dX6_digest_3 : decode cX6_digest 3 = .ok (.lstore_n 1, 1) := by decide +kernel
theorem dX6_digest_4 : decode cX6_digest 4 = .ok (.iconst 0, 1) := by decide +kernel
theorem dX6_digest_5 : decode cX6_digest 5 = .ok (.istore_n 3, 1) := by decide +kernel
theorem dX6_digest_6 : decode cX6_digest 6 = .ok (.iload_n 3, 1) := by decide +kernel
theorem dX6_digest_7 : decode cX6_digest 7 = .ok (.bipush 14, 2) := by decide +kernel
theorem dX6_digest_9 : decode cX6_digest 9 = .ok (.if_icmp .ge 20, 3) := by decide +kernel
theorem dX6_digest_12 : decode cX6_digest 12 = .ok (.lload_n 1, 1) := by decide +kernel
theorem dX6_digest_13 : decode cX6_digest 13 = .ok (.aload_n 0, 1) := by decide +kernel
theorem dX6_digest_14 : decode cX6_digest 14 = .ok (.iload_n 3, 1) := by decide +kernel
theorem dX6_digest_15 : decode cX6_digest 15 = .ok (.invokevirtual 217, 3) := by decide +kernel
theorem dX6_digest_18 : decode cX6_digest 18 = .ok (.i2l, 1) := by decide +kernel
theorem dX6_digest_19 : decode cX6_digest 19 = .ok (.invokestatic 220, 3) := by decide +kernel
theorem dX6_digest_22 : decode cX6_digest 22 = .ok (.lstore_n 1, 1) := by decide +kernel
theorem dX6_digest_23 : decode cX6_digest 23 = .ok (.iinc 3 1, 3) := by decide +kernel
theorem dX6_digest_26 : decode cX6_digest 26 = .ok (.goto (-20), 3) := by decide +kernel
theorem dX6_digest_29 : decode cX6_digest 29 = .ok (.iconst 0, 1) := by decide +kernel
theorem dX6_digest_30 : decode cX6_digest 30 = .ok (.istore_n 3, 1) := by decide +kernel
theorem dX6_digest_31 : decode cX6_digest 31 = .ok (.iload_n 3, 1) := by decide +kernel
theorem dX6_digest_32 : decode cX6_digest 32 = .ok (.iconst 2, 1) := by decide +kernel
theorem dX6_digest_33 : decode cX6_digest 33 = .ok (.if_icmp .ge 24, 3) := by decide +kernel
theorem dX6_digest_36 : decode cX6_digest 36 = .ok (.lload_n 1, 1) := by decide +kernel
theorem dX6_digest_37 : decode cX6_digest 37 = .ok (.aload_n 0, 1) := by decide +kernel
theorem dX6_digest_38 : decode cX6_digest 38 = .ok (.getfield 10, 3) := by decide +kernel
theorem dX6_digest_41 : decode cX6_digest 41 = .ok (.getfield 128, 3) := by decide +kernel
theorem dX6_digest_44 : decode cX6_digest 44 = .ok (.iload_n 3, 1) := by decide +kernel
theorem dX6_digest_45 : decode cX6_digest 45 = .ok (.iaload, 1) := by decide +kernel
theorem dX6_digest_46 : decode cX6_digest 46 = .ok (.i2l, 1) := by decide +kernel
theorem dX6_digest_47 : decode cX6_digest 47 = .ok (.invokestatic 220, 3) := by decide +kernel
theorem dX6_digest_50 : decode cX6_digest 50 = .ok (.lstore_n 1, 1) := by decide +kernel
theorem dX6_digest_51 : decode cX6_digest 51 = .ok (.iinc 3 1, 3) := by decide +kernel
theorem dX6_digest_54 : decode cX6_digest 54 = .ok (.goto (-23), 3) := by decide +kernel
theorem dX6_digest_57 : decode cX6_digest 57 = .ok (.iconst 0, 1) := by decide +kernel
theorem dX6_digest_58 : decode cX6_digest 58 = .ok (.istore_n 3, 1) := by decide +kernel
theorem dX6_digest_59 : decode cX6_digest 59 = .ok (.iload_n 3, 1) := by decide +kernel
theorem dX6_digest_60 : decode cX6_digest 60 = .ok (.bipush 7, 2) := by decide +kernel
theorem dX6_digest_62 : decode cX6_digest 62 = .ok (.if_icmp .ge 16, 3) := by decide +kernel
theorem dX6_digest_65 : decode cX6_digest 65 = .ok (.aload_n 0, 1) := by decide +kernel
theorem dX6_digest_66 : decode cX6_digest 66 = .ok (.lload_n 1, 1) := by decide +kernel
theorem dX6_digest_67 : decode cX6_digest 67 = .ok (.iload_n 3, 1) := by decide +kernel
theorem dX6_digest_68 : decode cX6_digest 68 = .ok (.invokevirtual 224, 3) := by decide +kernel
theorem dX6_digest_71 : decode cX6_digest 71 = .ok (.lstore_n 1, 1) := by decide +kernel
theorem dX6_digest_72 : decode cX6_digest 72 = .ok (.iinc 3 1, 3) := by decide +kernel
theorem dX6_digest_75 : decode cX6_digest 75 = .ok (.goto (-16), 3) := by decide +kernel
theorem dX6_digest_78 : decode cX6_digest 78 = .ok (.iconst 0, 1) := by decide +kernel
theorem dX6_digest_79 : decode cX6_digest 79 = .ok (.istore_n 3, 1) := by decide +kernel
theorem dX6_digest_80 : decode cX6_digest 80 = .ok (.iload_n 3, 1) := by decide +kernel
theorem dX6_digest_81 : decode cX6_digest 81 = .ok (.bipush 7, 2) := by decide +kernel
theorem dX6_digest_83 : decode cX6_digest 83 = .ok (.if_icmp .ge 16, 3) := by decide +kernel
theorem dX6_digest_86 : decode cX6_digest 86 = .ok (.aload_n 0, 1) := by decide +kernel
theorem dX6_digest_87 : decode cX6_digest 87 = .ok (.lload_n 1, 1) := by decide +kernel
theorem dX6_digest_88 : decode cX6_digest 88 = .ok (.iload_n 3, 1) := by decide +kernel
theorem dX6_digest_89 : decode cX6_digest 89 = .ok (.invokevirtual 228, 3) := by decide +kernel
theorem dX6_digest_92 : decode cX6_digest 92 = .ok (.lstore_n 1, 1) := by decide +kernel
theorem dX6_digest_93 : decode cX6_digest 93 = .ok (.iinc 3 1, 3) := by decide +kernel
theorem dX6_digest_96 : decode cX6_digest 96 = .ok (.goto (-16), 3) := by decide +kernel
theorem dX6_digest_99 : decode cX6_digest 99 = .ok (.lload_n 1, 1) := by decide +kernel
theorem dX6_digest_100 : decode cX6_digest 100 = .ok (.aload_n 0, 1) := by decide +kernel
theorem dX6_digest_101 : decode cX6_digest 101 = .ok (.invokevirtual 231, 3) := by decide +kernel
theorem dX6_digest_104 : decode cX6_digest 104 = .ok (.i2l, 1) := by decide +kernel
theorem dX6_digest_105 : decode cX6_digest 105 = .ok (.invokestatic 220, 3) := by decide +kernel
theorem dX6_digest_108 : decode cX6_digest 108 = .ok (.lstore_n 1, 1) := by decide +kernel
theorem dX6_digest_109 : decode cX6_digest 109 = .ok (.lload_n 1, 1) := by decide +kernel
theorem dX6_digest_110 : decode cX6_digest 110 = .ok (.aload_n 0, 1) := by decide +kernel
theorem dX6_digest_111 : decode cX6_digest 111 = .ok (.invokevirtual 234, 3) := by decide +kernel
theorem dX6_digest_114 : decode cX6_digest 114 = .ok (.bipush 52, 2) := by decide +kernel
theorem dX6_digest_116 : decode cX6_digest 116 = .ok (.sipush 1023, 3) := by decide +kernel
theorem dX6_digest_119 : decode cX6_digest 119 = .ok (.invokestatic 238, 3) := by decide +kernel
theorem dX6_digest_122 : decode cX6_digest 122 = .ok (.invokestatic 220, 3) := by decide +kernel
theorem dX6_digest_125 : decode cX6_digest 125 = .ok (.lstore_n 1, 1) := by decide +kernel
theorem dX6_digest_126 : decode cX6_digest 126 = .ok (.lload_n 1, 1) := by decide +kernel
theorem dX6_digest_127 : decode cX6_digest 127 = .ok (.aload_n 0, 1) := by decide +kernel
theorem dX6_digest_128 : decode cX6_digest 128 = .ok (.invokevirtual 242, 3) := by decide +kernel
theorem dX6_digest_131 : decode cX6_digest 131 = .ok (.f2d, 1) := by decide +kernel
theorem dX6_digest_132 : decode cX6_digest 132 = .ok (.bipush 23, 2) := by decide +kernel
theorem dX6_digest_134 : decode cX6_digest 134 = .ok (.bipush 127, 2) := by decide +kernel
theorem dX6_digest_136 : decode cX6_digest 136 = .ok (.invokestatic 238, 3) := by decide +kernel
theorem dX6_digest_139 : decode cX6_digest 139 = .ok (.invokestatic 220, 3) := by decide +kernel
theorem dX6_digest_142 : decode cX6_digest 142 = .ok (.lstore_n 1, 1) := by decide +kernel
theorem dX6_digest_143 : decode cX6_digest 143 = .ok (.lload_n 1, 1) := by decide +kernel
theorem dX6_digest_144 : decode cX6_digest 144 = .ok (.aload_n 0, 1) := by decide +kernel
theorem dX6_digest_145 : decode cX6_digest 145 = .ok (.getfield 19, 3) := by decide +kernel
theorem dX6_digest_148 : decode cX6_digest 148 = .ok (.ifCond .eq 7, 3) := by decide +kernel
theorem dX6_digest_151 : decode cX6_digest 151 = .ok (.lconst 1, 1) := by decide +kernel
theorem dX6_digest_152 : decode cX6_digest 152 = .ok (.goto 4, 3) := by decide +kernel
theorem dX6_digest_155 : decode cX6_digest 155 = .ok (.lconst 0, 1) := by decide +kernel
theorem dX6_digest_156 : decode cX6_digest 156 = .ok (.invokestatic 220, 3) := by decide +kernel
theorem dX6_digest_159 : decode cX6_digest 159 = .ok (.lstore_n 1, 1) := by decide +kernel
theorem dX6_digest_160 : decode cX6_digest 160 = .ok (.lload_n 1, 1) := by decide +kernel
theorem dX6_digest_161 : decode cX6_digest 161 = .ok (.aload_n 0, 1) := by decide +kernel
theorem dX6_digest_162 : decode cX6_digest 162 = .ok (.getfield 33, 3) := by decide +kernel
theorem dX6_digest_165 : decode cX6_digest 165 = .ok (.getfield 133, 3) := by decide +kernel
theorem dX6_digest_168 : decode cX6_digest 168 = .ok (.i2l, 1) := by decide +kernel
theorem dX6_digest_169 : decode cX6_digest 169 = .ok (.invokestatic 220, 3) := by decide +kernel
theorem dX6_digest_172 : decode cX6_digest 172 = .ok (.lstore_n 1, 1) := by decide +kernel
theorem dX6_digest_173 : decode cX6_digest 173 = .ok (.iconst 0, 1) := by decide +kernel
theorem dX6_digest_174 : decode cX6_digest 174 = .ok (.istore_n 3, 1) := by decide +kernel
theorem dX6_digest_175 : decode cX6_digest 175 = .ok (.iload_n 3, 1) := by decide +kernel
theorem dX6_digest_176 : decode cX6_digest 176 = .ok (.aload_n 0, 1) := by decide +kernel
theorem dX6_digest_177 : decode cX6_digest 177 = .ok (.getfield 33, 3) := by decide +kernel
theorem dX6_digest_180 : decode cX6_digest 180 = .ok (.getfield 133, 3) := by decide +kernel
theorem dX6_digest_183 : decode cX6_digest 183 = .ok (.if_icmp .ge 23, 3) := by decide +kernel
theorem dX6_digest_186 : decode cX6_digest 186 = .ok (.lload_n 1, 1) := by decide +kernel
theorem dX6_digest_187 : decode cX6_digest 187 = .ok (.aload_n 0, 1) := by decide +kernel
theorem dX6_digest_188 : decode cX6_digest 188 = .ok (.getfield 33, 3) := by decide +kernel
theorem dX6_digest_191 : decode cX6_digest 191 = .ok (.iload_n 3, 1) := by decide +kernel
theorem dX6_digest_192 : decode cX6_digest 192 = .ok (.invokevirtual 246, 3) := by decide +kernel
theorem dX6_digest_195 : decode cX6_digest 195 = .ok (.i2l, 1) := by decide +kernel
theorem dX6_digest_196 : decode cX6_digest 196 = .ok (.invokestatic 220, 3) := by decide +kernel
theorem dX6_digest_199 : decode cX6_digest 199 = .ok (.lstore_n 1, 1) := by decide +kernel
theorem dX6_digest_200 : decode cX6_digest 200 = .ok (.iinc 3 1, 3) := by decide +kernel
theorem dX6_digest_203 : decode cX6_digest 203 = .ok (.goto (-28), 3) := by decide +kernel
theorem dX6_digest_206 : decode cX6_digest 206 = .ok (.lload_n 1, 1) := by decide +kernel
theorem dX6_digest_207 : decode cX6_digest 207 = .ok (.lreturn, 1) := by decide +kernel
theorem dX6_mustBeDial_0 : decode cX6_mustBeDial 0 = .ok (.iload_n 0, 1) := by decide +kernel
theorem dX6_mustBeDial_1 : decode cX6_mustBeDial 1 = .ok (.ifCond .lt 9, 3) := by decide +kernel
theorem dX6_mustBeDial_4 : decode cX6_mustBeDial 4 = .ok (.iload_n 0, 1) := by decide +kernel
theorem dX6_mustBeDial_5 : decode cX6_mustBeDial 5 = .ok (.bipush 7, 2) := by decide +kernel
theorem dX6_mustBeDial_7 : decode cX6_mustBeDial 7 = .ok (.if_icmp .lt 13, 3) := by decide +kernel
theorem dX6_mustBeDial_10 : decode cX6_mustBeDial 10 = .ok (.new 249, 3) := by decide +kernel
theorem dX6_mustBeDial_13 : decode cX6_mustBeDial 13 = .ok (.dup, 1) := by decide +kernel
theorem dX6_mustBeDial_14 : decode cX6_mustBeDial 14 = .ok (.ldc 251, 2) := by decide +kernel
theorem dX6_mustBeDial_16 : decode cX6_mustBeDial 16 = .ok (.invokespecial 253, 3) := by decide +kernel
theorem dX6_mustBeDial_19 : decode cX6_mustBeDial 19 = .ok (.athrow, 1) := by decide +kernel
theorem dX6_mustBeDial_20 : decode cX6_mustBeDial 20 = .ok (.return_, 1) := by decide +kernel
theorem dX6_mustBeSetting_0 : decode cX6_mustBeSetting 0 = .ok (.iload_n 0, 1) := by decide +kernel
theorem dX6_mustBeSetting_1 : decode cX6_mustBeSetting 1 = .ok (.ifCond .lt 8, 3) := by decide +kernel
theorem dX6_mustBeSetting_4 : decode cX6_mustBeSetting 4 = .ok (.iload_n 0, 1) := by decide +kernel
theorem dX6_mustBeSetting_5 : decode cX6_mustBeSetting 5 = .ok (.iconst 2, 1) := by decide +kernel
theorem dX6_mustBeSetting_6 : decode cX6_mustBeSetting 6 = .ok (.if_icmp .lt 13, 3) := by decide +kernel
theorem dX6_mustBeSetting_9 : decode cX6_mustBeSetting 9 = .ok (.new 249, 3) := by decide +kernel
theorem dX6_mustBeSetting_12 : decode cX6_mustBeSetting 12 = .ok (.dup, 1) := by decide +kernel
theorem dX6_mustBeSetting_13 : decode cX6_mustBeSetting 13 = .ok (.ldc 254, 2) := by decide +kernel
theorem dX6_mustBeSetting_15 : decode cX6_mustBeSetting 15 = .ok (.invokespecial 253, 3) := by decide +kernel
theorem dX6_mustBeSetting_18 : decode cX6_mustBeSetting 18 = .ok (.athrow, 1) := by decide +kernel
theorem dX6_mustBeSetting_19 : decode cX6_mustBeSetting 19 = .ok (.return_, 1) := by decide +kernel
theorem dX6_dialBehind_0 : decode cX6_dialBehind 0 = .ok (.iload_n 0, 1) := by decide +kernel
theorem dX6_dialBehind_1 : decode cX6_dialBehind 1 = .ok (.iconst 1, 1) := by decide +kernel
theorem dX6_dialBehind_2 : decode cX6_dialBehind 2 = .ok (.iadd, 1) := by decide +kernel
theorem dX6_dialBehind_3 : decode cX6_dialBehind 3 = .ok (.bipush 7, 2) := by decide +kernel
theorem dX6_dialBehind_5 : decode cX6_dialBehind 5 = .ok (.if_icmp .ge 9, 3) := by decide +kernel
theorem dX6_dialBehind_8 : decode cX6_dialBehind 8 = .ok (.iload_n 0, 1) := by decide +kernel
theorem dX6_dialBehind_9 : decode cX6_dialBehind 9 = .ok (.iconst 1, 1) := by decide +kernel
theorem dX6_dialBehind_10 : decode cX6_dialBehind 10 = .ok (.iadd, 1) := by decide +kernel
theorem dX6_dialBehind_11 : decode cX6_dialBehind 11 = .ok (.goto 4, 3) := by decide +kernel
theorem dX6_dialBehind_14 : decode cX6_dialBehind 14 = .ok (.iconst 0, 1) := by decide +kernel
theorem dX6_dialBehind_15 : decode cX6_dialBehind 15 = .ok (.ireturn, 1) := by decide +kernel
theorem dX6_dialBefore_0 : decode cX6_dialBefore 0 = .ok (.iload_n 0, 1) := by decide +kernel
theorem dX6_dialBefore_1 : decode cX6_dialBefore 1 = .ok (.ifCond .le 9, 3) := by decide +kernel
theorem dX6_dialBefore_4 : decode cX6_dialBefore 4 = .ok (.iload_n 0, 1) := by decide +kernel
theorem dX6_dialBefore_5 : decode cX6_dialBefore 5 = .ok (.iconst 1, 1) := by decide +kernel
theorem dX6_dialBefore_6 : decode cX6_dialBefore 6 = .ok (.isub, 1) := by decide +kernel
theorem dX6_dialBefore_7 : decode cX6_dialBefore 7 = .ok (.goto 5, 3) := by decide +kernel
theorem dX6_dialBefore_10 : decode cX6_dialBefore 10 = .ok (.bipush 6, 2) := by decide +kernel
theorem dX6_dialBefore_12 : decode cX6_dialBefore 12 = .ok (.ireturn, 1) := by decide +kernel
theorem dX6_distance_0 : decode cX6_distance 0 = .ok (.iload_n 0, 1) := by decide +kernel
theorem dX6_distance_1 : decode cX6_distance 1 = .ok (.iload_n 1, 1) := by decide +kernel
theorem dX6_distance_2 : decode cX6_distance 2 = .ok (.if_icmp .ge 9, 3) := by decide +kernel
theorem dX6_distance_5 : decode cX6_distance 5 = .ok (.iload_n 1, 1) := by decide +kernel
theorem dX6_distance_6 : decode cX6_distance 6 = .ok (.iload_n 0, 1) := by decide +kernel
theorem dX6_distance_7 : decode cX6_distance 7 = .ok (.isub, 1) := by decide +kernel
theorem dX6_distance_8 : decode cX6_distance 8 = .ok (.goto 6, 3) := by decide +kernel
theorem dX6_distance_11 : decode cX6_distance 11 = .ok (.iload_n 0, 1) := by decide +kernel
theorem dX6_distance_12 : decode cX6_distance 12 = .ok (.iload_n 1, 1) := by decide +kernel
theorem dX6_distance_13 : decode cX6_distance 13 = .ok (.isub, 1) := by decide +kernel
theorem dX6_distance_14 : decode cX6_distance 14 = .ok (.ireturn, 1) := by decide +kernel
theorem dX6_sum_0 : decode cX6_sum 0 = .ok (.iconst 0, 1) := by decide +kernel
theorem dX6_sum_1 : decode cX6_sum 1 = .ok (.istore_n 1, 1) := by decide +kernel
theorem dX6_sum_2 : decode cX6_sum 2 = .ok (.aload_n 0, 1) := by decide +kernel
theorem dX6_sum_3 : decode cX6_sum 3 = .ok (.astore_n 2, 1) := by decide +kernel
theorem dX6_sum_4 : decode cX6_sum 4 = .ok (.aload_n 2, 1) := by decide +kernel
theorem dX6_sum_5 : decode cX6_sum 5 = .ok (.arraylength, 1) := by decide +kernel
theorem dX6_sum_6 : decode cX6_sum 6 = .ok (.istore_n 3, 1) := by decide +kernel
theorem dX6_sum_7 : decode cX6_sum 7 = .ok (.iconst 0, 1) := by decide +kernel
theorem dX6_sum_8 : decode cX6_sum 8 = .ok (.istore 4, 2) := by decide +kernel
theorem dX6_sum_10 : decode cX6_sum 10 = .ok (.iload 4, 2) := by decide +kernel
theorem dX6_sum_12 : decode cX6_sum 12 = .ok (.iload_n 3, 1) := by decide +kernel
theorem dX6_sum_13 : decode cX6_sum 13 = .ok (.if_icmp .ge 20, 3) := by decide +kernel
theorem dX6_sum_16 : decode cX6_sum 16 = .ok (.aload_n 2, 1) := by decide +kernel
theorem dX6_sum_17 : decode cX6_sum 17 = .ok (.iload 4, 2) := by decide +kernel
theorem dX6_sum_19 : decode cX6_sum 19 = .ok (.iaload, 1) := by decide +kernel
theorem dX6_sum_20 : decode cX6_sum 20 = .ok (.istore 5, 2) := by decide +kernel
theorem dX6_sum_22 : decode cX6_sum 22 = .ok (.iload_n 1, 1) := by decide +kernel
theorem dX6_sum_23 : decode cX6_sum 23 = .ok (.iload 5, 2) := by decide +kernel
theorem dX6_sum_25 : decode cX6_sum 25 = .ok (.iadd, 1) := by decide +kernel
theorem dX6_sum_26 : decode cX6_sum 26 = .ok (.istore_n 1, 1) := by decide +kernel
theorem dX6_sum_27 : decode cX6_sum 27 = .ok (.iinc 4 1, 3) := by decide +kernel
theorem dX6_sum_30 : decode cX6_sum 30 = .ok (.goto (-20), 3) := by decide +kernel
theorem dX6_sum_33 : decode cX6_sum 33 = .ok (.iload_n 1, 1) := by decide +kernel
theorem dX6_sum_34 : decode cX6_sum 34 = .ok (.ireturn, 1) := by decide +kernel
theorem dX6_copyRow_0 : decode cX6_copyRow 0 = .ok (.iconst 0, 1) := by decide +kernel
theorem dX6_copyRow_1 : decode cX6_copyRow 1 = .ok (.istore_n 2, 1) := by decide +kernel
theorem dX6_copyRow_2 : decode cX6_copyRow 2 = .ok (.iload_n 2, 1) := by decide +kernel
theorem dX6_copyRow_3 : decode cX6_copyRow 3 = .ok (.aload_n 1, 1) := by decide +kernel
theorem dX6_copyRow_4 : decode cX6_copyRow 4 = .ok (.arraylength, 1) := by decide +kernel
theorem dX6_copyRow_5 : decode cX6_copyRow 5 = .ok (.if_icmp .ge 21, 3) := by decide +kernel
theorem dX6_copyRow_8 : decode cX6_copyRow 8 = .ok (.iload_n 2, 1) := by decide +kernel
theorem dX6_copyRow_9 : decode cX6_copyRow 9 = .ok (.aload_n 0, 1) := by decide +kernel
theorem dX6_copyRow_10 : decode cX6_copyRow 10 = .ok (.arraylength, 1) := by decide +kernel
theorem dX6_copyRow_11 : decode cX6_copyRow 11 = .ok (.if_icmp .ge 15, 3) := by decide +kernel
theorem dX6_copyRow_14 : decode cX6_copyRow 14 = .ok (.aload_n 1, 1) := by decide +kernel
theorem dX6_copyRow_15 : decode cX6_copyRow 15 = .ok (.iload_n 2, 1) := by decide +kernel
theorem dX6_copyRow_16 : decode cX6_copyRow 16 = .ok (.aload_n 0, 1) := by decide +kernel
theorem dX6_copyRow_17 : decode cX6_copyRow 17 = .ok (.iload_n 2, 1) := by decide +kernel
theorem dX6_copyRow_18 : decode cX6_copyRow 18 = .ok (.iaload, 1) := by decide +kernel
theorem dX6_copyRow_19 : decode cX6_copyRow 19 = .ok (.iastore, 1) := by decide +kernel
theorem dX6_copyRow_20 : decode cX6_copyRow 20 = .ok (.iinc 2 1, 3) := by decide +kernel
theorem dX6_copyRow_23 : decode cX6_copyRow 23 = .ok (.goto (-21), 3) := by decide +kernel
theorem dX6_copyRow_26 : decode cX6_copyRow 26 = .ok (.return_, 1) := by decide +kernel
theorem dX6_mixed_0 : decode cX6_mixed 0 = .ok (.ldc2_w 256, 3) := by decide +kernel
theorem dX6_mixed_3 : decode cX6_mixed 3 = .ok (.lload_n 0, 1) := by decide +kernel
theorem dX6_mixed_4 : decode cX6_mixed 4 = .ok (.lmul, 1) := by decide +kernel
theorem dX6_mixed_5 : decode cX6_mixed 5 = .ok (.lload_n 2, 1) := by decide +kernel
theorem dX6_mixed_6 : decode cX6_mixed 6 = .ok (.ladd, 1) := by decide +kernel
theorem dX6_mixed_7 : decode cX6_mixed 7 = .ok (.lreturn, 1) := by decide +kernel
theorem dX6_bitsOf_0 : decode cX6_bitsOf 0 = .ok (.dload_n 0, 1) := by decide +kernel
theorem dX6_bitsOf_1 : decode cX6_bitsOf 1 = .ok (.dconst 0, 1) := by decide +kernel
theorem dX6_bitsOf_2 : decode cX6_bitsOf 2 = .ok (.dcmp .g, 1) := by decide +kernel
theorem dX6_bitsOf_3 : decode cX6_bitsOf 3 = .ok (.ifCond .gt 5, 3) := by decide +kernel
theorem dX6_bitsOf_6 : decode cX6_bitsOf 6 = .ok (.lconst 0, 1) := by decide +kernel
theorem dX6_bitsOf_7 : decode cX6_bitsOf 7 = .ok (.lreturn, 1) := by decide +kernel
theorem dX6_bitsOf_8 : decode cX6_bitsOf 8 = .ok (.dload_n 0, 1) := by decide +kernel
theorem dX6_bitsOf_9 : decode cX6_bitsOf 9 = .ok (.dstore 4, 2) := by decide +kernel
theorem dX6_bitsOf_11 : decode cX6_bitsOf 11 = .ok (.iconst 0, 1) := by decide +kernel
theorem dX6_bitsOf_12 : decode cX6_bitsOf 12 = .ok (.istore 6, 2) := by decide +kernel
theorem dX6_bitsOf_14 : decode cX6_bitsOf 14 = .ok (.iconst 0, 1) := by decide +kernel
theorem dX6_bitsOf_15 : decode cX6_bitsOf 15 = .ok (.istore 7, 2) := by decide +kernel
theorem dX6_bitsOf_17 : decode cX6_bitsOf 17 = .ok (.iload 7, 2) := by decide +kernel
theorem dX6_bitsOf_19 : decode cX6_bitsOf 19 = .ok (.sipush 1100, 3) := by decide +kernel
theorem dX6_bitsOf_22 : decode cX6_bitsOf 22 = .ok (.if_icmp .ge 27, 3) := by decide +kernel
theorem dX6_bitsOf_25 : decode cX6_bitsOf 25 = .ok (.dload 4, 2) := by decide +kernel
theorem dX6_bitsOf_27 : decode cX6_bitsOf 27 = .ok (.dconst 1, 1) := by decide +kernel
theorem dX6_bitsOf_28 : decode cX6_bitsOf 28 = .ok (.dcmp .g, 1) := by decide +kernel
theorem dX6_bitsOf_29 : decode cX6_bitsOf 29 = .ok (.ifCond .ge 20, 3) := by decide +kernel
theorem dX6_bitsOf_32 : decode cX6_bitsOf 32 = .ok (.dload 4, 2) := by decide +kernel
theorem dX6_bitsOf_34 : decode cX6_bitsOf 34 = .ok (.ldc2_w 258, 3) := by decide +kernel
theorem dX6_bitsOf_37 : decode cX6_bitsOf 37 = .ok (.dmul, 1) := by decide +kernel
theorem dX6_bitsOf_38 : decode cX6_bitsOf 38 = .ok (.dstore 4, 2) := by decide +kernel
theorem dX6_bitsOf_40 : decode cX6_bitsOf 40 = .ok (.iinc 6 (-1), 3) := by decide +kernel
theorem dX6_bitsOf_43 : decode cX6_bitsOf 43 = .ok (.iinc 7 1, 3) := by decide +kernel
theorem dX6_bitsOf_46 : decode cX6_bitsOf 46 = .ok (.goto (-29), 3) := by decide +kernel
theorem dX6_bitsOf_49 : decode cX6_bitsOf 49 = .ok (.iconst 0, 1) := by decide +kernel
theorem dX6_bitsOf_50 : decode cX6_bitsOf 50 = .ok (.istore 7, 2) := by decide +kernel
theorem dX6_bitsOf_52 : decode cX6_bitsOf 52 = .ok (.iload 7, 2) := by decide +kernel
theorem dX6_bitsOf_54 : decode cX6_bitsOf 54 = .ok (.sipush 1100, 3) := by decide +kernel
theorem dX6_bitsOf_57 : decode cX6_bitsOf 57 = .ok (.if_icmp .ge 29, 3) := by decide +kernel
theorem dX6_bitsOf_60 : decode cX6_bitsOf 60 = .ok (.dload 4, 2) := by decide +kernel
theorem dX6_bitsOf_62 : decode cX6_bitsOf 62 = .ok (.ldc2_w 258, 3) := by decide +kernel
theorem dX6_bitsOf_65 : decode cX6_bitsOf 65 = .ok (.dcmp .l, 1) := by decide +kernel
theorem dX6_bitsOf_66 : decode cX6_bitsOf 66 = .ok (.ifCond .lt 20, 3) := by decide +kernel
theorem dX6_bitsOf_69 : decode cX6_bitsOf 69 = .ok (.dload 4, 2) := by decide +kernel
theorem dX6_bitsOf_71 : decode cX6_bitsOf 71 = .ok (.ldc2_w 258, 3) := by decide +kernel
theorem dX6_bitsOf_74 : decode cX6_bitsOf 74 = .ok (.ddiv, 1) := by decide +kernel
theorem dX6_bitsOf_75 : decode cX6_bitsOf 75 = .ok (.dstore 4, 2) := by decide +kernel
theorem dX6_bitsOf_77 : decode cX6_bitsOf 77 = .ok (.iinc 6 1, 3) := by decide +kernel
theorem dX6_bitsOf_80 : decode cX6_bitsOf 80 = .ok (.iinc 7 1, 3) := by decide +kernel
theorem dX6_bitsOf_83 : decode cX6_bitsOf 83 = .ok (.goto (-31), 3) := by decide +kernel
theorem dX6_bitsOf_86 : decode cX6_bitsOf 86 = .ok (.lconst 1, 1) := by decide +kernel
theorem dX6_bitsOf_87 : decode cX6_bitsOf 87 = .ok (.iload_n 2, 1) := by decide +kernel
theorem dX6_bitsOf_88 : decode cX6_bitsOf 88 = .ok (.lshl, 1) := by decide +kernel
theorem dX6_bitsOf_89 : decode cX6_bitsOf 89 = .ok (.lstore 7, 2) := by decide +kernel
theorem dX6_bitsOf_91 : decode cX6_bitsOf 91 = .ok (.iload 6, 2) := by decide +kernel
theorem dX6_bitsOf_93 : decode cX6_bitsOf 93 = .ok (.iload_n 3, 1) := by decide +kernel
theorem dX6_bitsOf_94 : decode cX6_bitsOf 94 = .ok (.iadd, 1) := by decide +kernel
theorem dX6_bitsOf_95 : decode cX6_bitsOf 95 = .ok (.i2l, 1) := by decide +kernel
theorem dX6_bitsOf_96 : decode cX6_bitsOf 96 = .ok (.lload 7, 2) := by decide +kernel
theorem dX6_bitsOf_98 : decode cX6_bitsOf 98 = .ok (.lmul, 1) := by decide +kernel
theorem dX6_bitsOf_99 : decode cX6_bitsOf 99 = .ok (.dload 4, 2) := by decide +kernel
theorem dX6_bitsOf_101 : decode cX6_bitsOf 101 = .ok (.dconst 1, 1) := by decide +kernel
theorem dX6_bitsOf_102 : decode cX6_bitsOf 102 = .ok (.dsub, 1) := by decide +kernel
theorem dX6_bitsOf_103 : decode cX6_bitsOf 103 = .ok (.lload 7, 2) := by decide +kernel
theorem dX6_bitsOf_105 : decode cX6_bitsOf 105 = .ok (.l2d, 1) := by decide +kernel
theorem dX6_bitsOf_106 : decode cX6_bitsOf 106 = .ok (.dmul, 1) := by decide +kernel
theorem dX6_bitsOf_107 : decode cX6_bitsOf 107 = .ok (.d2l, 1) := by decide +kernel
theorem dX6_bitsOf_108 : decode cX6_bitsOf 108 = .ok (.ladd, 1) := by decide +kernel
theorem dX6_bitsOf_109 : decode cX6_bitsOf 109 = .ok (.lreturn, 1) := by decide +kernel
theorem dX6_mixedWithDial_0 : decode cX6_mixedWithDial 0 = .ok (.lload_n 1, 1) := by decide +kernel
theorem dX6_mixedWithDial_1 : decode cX6_mixedWithDial 1 = .ok (.lstore 4, 2) := by decide +kernel
theorem dX6_mixedWithDial_3 : decode cX6_mixedWithDial 3 = .ok (.iconst 0, 1) := by decide +kernel
theorem dX6_mixedWithDial_4 : decode cX6_mixedWithDial 4 = .ok (.istore 6, 2) := by decide +kernel
theorem dX6_mixedWithDial_6 : decode cX6_mixedWithDial 6 = .ok (.iload 6, 2) := by decide +kernel
theorem dX6_mixedWithDial_8 : decode cX6_mixedWithDial 8 = .ok (.bipush 7, 2) := by decide +kernel
theorem dX6_mixedWithDial_10 : decode cX6_mixedWithDial 10 = .ok (.if_icmp .ge 24, 3) := by decide +kernel
theorem dX6_mixedWithDial_13 : decode cX6_mixedWithDial 13 = .ok (.lload 4, 2) := by decide +kernel
theorem dX6_mixedWithDial_15 : decode cX6_mixedWithDial 15 = .ok (.aload_n 0, 1) := by decide +kernel
theorem dX6_mixedWithDial_16 : decode cX6_mixedWithDial 16 = .ok (.iload_n 3, 1) := by decide +kernel
theorem dX6_mixedWithDial_17 : decode cX6_mixedWithDial 17 = .ok (.iload 6, 2) := by decide +kernel
theorem dX6_mixedWithDial_19 : decode cX6_mixedWithDial 19 = .ok (.invokevirtual 175, 3) := by decide +kernel
theorem dX6_mixedWithDial_22 : decode cX6_mixedWithDial 22 = .ok (.i2l, 1) := by decide +kernel
theorem dX6_mixedWithDial_23 : decode cX6_mixedWithDial 23 = .ok (.invokestatic 220, 3) := by decide +kernel
theorem dX6_mixedWithDial_26 : decode cX6_mixedWithDial 26 = .ok (.lstore 4, 2) := by decide +kernel
theorem dX6_mixedWithDial_28 : decode cX6_mixedWithDial 28 = .ok (.iinc 6 1, 3) := by decide +kernel
theorem dX6_mixedWithDial_31 : decode cX6_mixedWithDial 31 = .ok (.goto (-25), 3) := by decide +kernel
theorem dX6_mixedWithDial_34 : decode cX6_mixedWithDial 34 = .ok (.lload 4, 2) := by decide +kernel
theorem dX6_mixedWithDial_36 : decode cX6_mixedWithDial 36 = .ok (.aload_n 0, 1) := by decide +kernel
theorem dX6_mixedWithDial_37 : decode cX6_mixedWithDial 37 = .ok (.iload_n 3, 1) := by decide +kernel
theorem dX6_mixedWithDial_38 : decode cX6_mixedWithDial 38 = .ok (.invokevirtual 260, 3) := by decide +kernel
theorem dX6_mixedWithDial_41 : decode cX6_mixedWithDial 41 = .ok (.i2l, 1) := by decide +kernel
theorem dX6_mixedWithDial_42 : decode cX6_mixedWithDial 42 = .ok (.invokestatic 220, 3) := by decide +kernel
theorem dX6_mixedWithDial_45 : decode cX6_mixedWithDial 45 = .ok (.lstore 4, 2) := by decide +kernel
theorem dX6_mixedWithDial_47 : decode cX6_mixedWithDial 47 = .ok (.lload 4, 2) := by decide +kernel
theorem dX6_mixedWithDial_49 : decode cX6_mixedWithDial 49 = .ok (.aload_n 0, 1) := by decide +kernel
theorem dX6_mixedWithDial_50 : decode cX6_mixedWithDial 50 = .ok (.iload_n 3, 1) := by decide +kernel
theorem dX6_mixedWithDial_51 : decode cX6_mixedWithDial 51 = .ok (.invokevirtual 263, 3) := by decide +kernel
theorem dX6_mixedWithDial_54 : decode cX6_mixedWithDial 54 = .ok (.i2l, 1) := by decide +kernel
theorem dX6_mixedWithDial_55 : decode cX6_mixedWithDial 55 = .ok (.invokestatic 220, 3) := by decide +kernel
theorem dX6_mixedWithDial_58 : decode cX6_mixedWithDial 58 = .ok (.lreturn, 1) := by decide +kernel
theorem dX6_mixedWithWarden_0 : decode cX6_mixedWithWarden 0 = .ok (.lload_n 1, 1) := by decide +kernel
theorem dX6_mixedWithWarden_1 : decode cX6_mixedWithWarden 1 = .ok (.lstore 4, 2) := by decide +kernel
theorem dX6_mixedWithWarden_3 : decode cX6_mixedWithWarden 3 = .ok (.iconst 0, 1) := by decide +kernel
theorem dX6_mixedWithWarden_4 : decode cX6_mixedWithWarden 4 = .ok (.istore 6, 2) := by decide +kernel
theorem dX6_mixedWithWarden_6 : decode cX6_mixedWithWarden 6 = .ok (.iload 6, 2) := by decide +kernel
theorem dX6_mixedWithWarden_8 : decode cX6_mixedWithWarden 8 = .ok (.bipush 6, 2) := by decide +kernel
theorem dX6_mixedWithWarden_10 : decode cX6_mixedWithWarden 10 = .ok (.if_icmp .ge 24, 3) := by decide +kernel
theorem dX6_mixedWithWarden_13 : decode cX6_mixedWithWarden 13 = .ok (.lload 4, 2) := by decide +kernel
theorem dX6_mixedWithWarden_15 : decode cX6_mixedWithWarden 15 = .ok (.aload_n 0, 1) := by decide +kernel
theorem dX6_mixedWithWarden_16 : decode cX6_mixedWithWarden 16 = .ok (.iload_n 3, 1) := by decide +kernel
theorem dX6_mixedWithWarden_17 : decode cX6_mixedWithWarden 17 = .ok (.iload 6, 2) := by decide +kernel
theorem dX6_mixedWithWarden_19 : decode cX6_mixedWithWarden 19 = .ok (.invokevirtual 178, 3) := by decide +kernel
theorem dX6_mixedWithWarden_22 : decode cX6_mixedWithWarden 22 = .ok (.i2l, 1) := by decide +kernel
theorem dX6_mixedWithWarden_23 : decode cX6_mixedWithWarden 23 = .ok (.invokestatic 220, 3) := by decide +kernel
theorem dX6_mixedWithWarden_26 : decode cX6_mixedWithWarden 26 = .ok (.lstore 4, 2) := by decide +kernel
theorem dX6_mixedWithWarden_28 : decode cX6_mixedWithWarden 28 = .ok (.iinc 6 1, 3) := by decide +kernel
theorem dX6_mixedWithWarden_31 : decode cX6_mixedWithWarden 31 = .ok (.goto (-25), 3) := by decide +kernel
theorem dX6_mixedWithWarden_34 : decode cX6_mixedWithWarden 34 = .ok (.lload 4, 2) := by decide +kernel
theorem dX6_mixedWithWarden_36 : decode cX6_mixedWithWarden 36 = .ok (.aload_n 0, 1) := by decide +kernel
theorem dX6_mixedWithWarden_37 : decode cX6_mixedWithWarden 37 = .ok (.iload_n 3, 1) := by decide +kernel
theorem dX6_mixedWithWarden_38 : decode cX6_mixedWithWarden 38 = .ok (.invokevirtual 266, 3) := by decide +kernel
theorem dX6_mixedWithWarden_41 : decode cX6_mixedWithWarden 41 = .ok (.i2l, 1) := by decide +kernel
theorem dX6_mixedWithWarden_42 : decode cX6_mixedWithWarden 42 = .ok (.invokestatic 220, 3) := by decide +kernel
theorem dX6_mixedWithWarden_45 : decode cX6_mixedWithWarden 45 = .ok (.lstore 4, 2) := by decide +kernel
theorem dX6_mixedWithWarden_47 : decode cX6_mixedWithWarden 47 = .ok (.lload 4, 2) := by decide +kernel
theorem dX6_mixedWithWarden_49 : decode cX6_mixedWithWarden 49 = .ok (.aload_n 0, 1) := by decide +kernel
theorem dX6_mixedWithWarden_50 : decode cX6_mixedWithWarden 50 = .ok (.iload_n 3, 1) := by decide +kernel
theorem dX6_mixedWithWarden_51 : decode cX6_mixedWithWarden 51 = .ok (.invokevirtual 269, 3) := by decide +kernel
theorem dX6_mixedWithWarden_54 : decode cX6_mixedWithWarden 54 = .ok (.i2l, 1) := by decide +kernel
theorem dX6_mixedWithWarden_55 : decode cX6_mixedWithWarden 55 = .ok (.invokestatic 220, 3) := by decide +kernel
theorem dX6_mixedWithWarden_58 : decode cX6_mixedWithWarden 58 = .ok (.lreturn, 1) := by decide +kernel
theorem dX6_dialNumber_0 : decode cX6_dialNumber 0 = .ok (.iload_n 2, 1) := by decide +kernel
theorem dX6_dialNumber_1 : decode cX6_dialNumber 1 = .ok (.tableswitch 118 0 5 #[39, 52, 64, 77, 93, 106], 39) := by decide +kernel
theorem dX6_dialNumber_40 : decode cX6_dialNumber 40 = .ok (.aload_n 0, 1) := by decide +kernel
theorem dX6_dialNumber_41 : decode cX6_dialNumber 41 = .ok (.getfield 10, 3) := by decide +kernel
theorem dX6_dialNumber_44 : decode cX6_dialNumber 44 = .ok (.getfield 55, 3) := by decide +kernel
theorem dX6_dialNumber_47 : decode cX6_dialNumber 47 = .ok (.getfield 97, 3) := by decide +kernel
theorem dX6_dialNumber_50 : decode cX6_dialNumber 50 = .ok (.iload_n 1, 1) := by decide +kernel
theorem dX6_dialNumber_51 : decode cX6_dialNumber 51 = .ok (.iaload, 1) := by decide +kernel
theorem dX6_dialNumber_52 : decode cX6_dialNumber 52 = .ok (.ireturn, 1) := by decide +kernel
theorem dX6_dialNumber_53 : decode cX6_dialNumber 53 = .ok (.aload_n 0, 1) := by decide +kernel
theorem dX6_dialNumber_54 : decode cX6_dialNumber 54 = .ok (.getfield 10, 3) := by decide +kernel
theorem dX6_dialNumber_57 : decode cX6_dialNumber 57 = .ok (.getfield 55, 3) := by decide +kernel
theorem dX6_dialNumber_60 : decode cX6_dialNumber 60 = .ok (.iload_n 1, 1) := by decide +kernel
theorem dX6_dialNumber_61 : decode cX6_dialNumber 61 = .ok (.invokevirtual 272, 3) := by decide +kernel
theorem dX6_dialNumber_64 : decode cX6_dialNumber 64 = .ok (.ireturn, 1) := by decide +kernel
theorem dX6_dialNumber_65 : decode cX6_dialNumber 65 = .ok (.aload_n 0, 1) := by decide +kernel
theorem dX6_dialNumber_66 : decode cX6_dialNumber 66 = .ok (.getfield 10, 3) := by decide +kernel
theorem dX6_dialNumber_69 : decode cX6_dialNumber 69 = .ok (.getfield 55, 3) := by decide +kernel
theorem dX6_dialNumber_72 : decode cX6_dialNumber 72 = .ok (.getfield 106, 3) := by decide +kernel
theorem dX6_dialNumber_75 : decode cX6_dialNumber 75 = .ok (.iload_n 1, 1) := by decide +kernel
theorem dX6_dialNumber_76 : decode cX6_dialNumber 76 = .ok (.iaload, 1) := by decide +kernel
theorem dX6_dialNumber_77 : decode cX6_dialNumber 77 = .ok (.ireturn, 1) := by decide +kernel
theorem dX6_dialNumber_78 : decode cX6_dialNumber 78 = .ok (.aload_n 0, 1) := by decide +kernel
theorem dX6_dialNumber_79 : decode cX6_dialNumber 79 = .ok (.getfield 10, 3) := by decide +kernel
theorem dX6_dialNumber_82 : decode cX6_dialNumber 82 = .ok (.getfield 55, 3) := by decide +kernel
theorem dX6_dialNumber_85 : decode cX6_dialNumber 85 = .ok (.getfield 97, 3) := by decide +kernel
theorem dX6_dialNumber_88 : decode cX6_dialNumber 88 = .ok (.iload_n 1, 1) := by decide +kernel
theorem dX6_dialNumber_89 : decode cX6_dialNumber 89 = .ok (.iaload, 1) := by decide +kernel
theorem dX6_dialNumber_90 : decode cX6_dialNumber 90 = .ok (.bipush 60, 2) := by decide +kernel
theorem dX6_dialNumber_92 : decode cX6_dialNumber 92 = .ok (.idiv, 1) := by decide +kernel
theorem dX6_dialNumber_93 : decode cX6_dialNumber 93 = .ok (.ireturn, 1) := by decide +kernel
theorem dX6_dialNumber_94 : decode cX6_dialNumber 94 = .ok (.aload_n 0, 1) := by decide +kernel
theorem dX6_dialNumber_95 : decode cX6_dialNumber 95 = .ok (.getfield 10, 3) := by decide +kernel
theorem dX6_dialNumber_98 : decode cX6_dialNumber 98 = .ok (.getfield 55, 3) := by decide +kernel
theorem dX6_dialNumber_101 : decode cX6_dialNumber 101 = .ok (.getfield 275, 3) := by decide +kernel
theorem dX6_dialNumber_104 : decode cX6_dialNumber 104 = .ok (.iload_n 1, 1) := by decide +kernel
theorem dX6_dialNumber_105 : decode cX6_dialNumber 105 = .ok (.iaload, 1) := by decide +kernel
theorem dX6_dialNumber_106 : decode cX6_dialNumber 106 = .ok (.ireturn, 1) := by decide +kernel
theorem dX6_dialNumber_107 : decode cX6_dialNumber 107 = .ok (.aload_n 0, 1) := by decide +kernel
theorem dX6_dialNumber_108 : decode cX6_dialNumber 108 = .ok (.getfield 10, 3) := by decide +kernel
theorem dX6_dialNumber_111 : decode cX6_dialNumber 111 = .ok (.getfield 55, 3) := by decide +kernel
theorem dX6_dialNumber_114 : decode cX6_dialNumber 114 = .ok (.iload_n 1, 1) := by decide +kernel
theorem dX6_dialNumber_115 : decode cX6_dialNumber 115 = .ok (.invokevirtual 211, 3) := by decide +kernel
theorem dX6_dialNumber_118 : decode cX6_dialNumber 118 = .ok (.ireturn, 1) := by decide +kernel
theorem dX6_dialNumber_119 : decode cX6_dialNumber 119 = .ok (.aload_n 0, 1) := by decide +kernel
theorem dX6_dialNumber_120 : decode cX6_dialNumber 120 = .ok (.getfield 10, 3) := by decide +kernel
theorem dX6_dialNumber_123 : decode cX6_dialNumber 123 = .ok (.iload_n 1, 1) := by decide +kernel
theorem dX6_dialNumber_124 : decode cX6_dialNumber 124 = .ok (.invokevirtual 278, 3) := by decide +kernel
theorem dX6_dialNumber_127 : decode cX6_dialNumber 127 = .ok (.ifCond .eq 7, 3) := by decide +kernel
theorem dX6_dialNumber_130 : decode cX6_dialNumber 130 = .ok (.iconst 1, 1) := by decide +kernel
theorem dX6_dialNumber_131 : decode cX6_dialNumber 131 = .ok (.goto 4, 3) := by decide +kernel
theorem dX6_dialNumber_134 : decode cX6_dialNumber 134 = .ok (.iconst 0, 1) := by decide +kernel
theorem dX6_dialNumber_135 : decode cX6_dialNumber 135 = .ok (.ireturn, 1) := by decide +kernel
theorem dX6_wardenNumber_0 : decode cX6_wardenNumber 0 = .ok (.iload_n 2, 1) := by decide +kernel
theorem dX6_wardenNumber_1 : decode cX6_wardenNumber 1 = .ok (.tableswitch 89 0 4 #[35, 48, 61, 70, 83], 35) := by decide +kernel
theorem dX6_wardenNumber_36 : decode cX6_wardenNumber 36 = .ok (.aload_n 0, 1) := by decide +kernel
theorem dX6_wardenNumber_37 : decode cX6_wardenNumber 37 = .ok (.getfield 10, 3) := by decide +kernel
theorem dX6_wardenNumber_40 : decode cX6_wardenNumber 40 = .ok (.getfield 65, 3) := by decide +kernel
theorem dX6_wardenNumber_43 : decode cX6_wardenNumber 43 = .ok (.getfield 117, 3) := by decide +kernel
theorem dX6_wardenNumber_46 : decode cX6_wardenNumber 46 = .ok (.iload_n 1, 1) := by decide +kernel
theorem dX6_wardenNumber_47 : decode cX6_wardenNumber 47 = .ok (.iaload, 1) := by decide +kernel
theorem dX6_wardenNumber_48 : decode cX6_wardenNumber 48 = .ok (.ireturn, 1) := by decide +kernel
theorem dX6_wardenNumber_49 : decode cX6_wardenNumber 49 = .ok (.aload_n 0, 1) := by decide +kernel
theorem dX6_wardenNumber_50 : decode cX6_wardenNumber 50 = .ok (.getfield 10, 3) := by decide +kernel
theorem dX6_wardenNumber_53 : decode cX6_wardenNumber 53 = .ok (.getfield 65, 3) := by decide +kernel
theorem dX6_wardenNumber_56 : decode cX6_wardenNumber 56 = .ok (.getfield 120, 3) := by decide +kernel
theorem dX6_wardenNumber_59 : decode cX6_wardenNumber 59 = .ok (.iload_n 1, 1) := by decide +kernel
theorem dX6_wardenNumber_60 : decode cX6_wardenNumber 60 = .ok (.iaload, 1) := by decide +kernel
theorem dX6_wardenNumber_61 : decode cX6_wardenNumber 61 = .ok (.ireturn, 1) := by decide +kernel
theorem dX6_wardenNumber_62 : decode cX6_wardenNumber 62 = .ok (.aload_n 0, 1) := by decide +kernel
theorem dX6_wardenNumber_63 : decode cX6_wardenNumber 63 = .ok (.getfield 10, 3) := by decide +kernel
theorem dX6_wardenNumber_66 : decode cX6_wardenNumber 66 = .ok (.iload_n 1, 1) := by decide +kernel
theorem dX6_wardenNumber_67 : decode cX6_wardenNumber 67 = .ok (.invokevirtual 196, 3) := by decide +kernel
theorem dX6_wardenNumber_70 : decode cX6_wardenNumber 70 = .ok (.ireturn, 1) := by decide +kernel
theorem dX6_wardenNumber_71 : decode cX6_wardenNumber 71 = .ok (.aload_n 0, 1) := by decide +kernel
theorem dX6_wardenNumber_72 : decode cX6_wardenNumber 72 = .ok (.getfield 10, 3) := by decide +kernel
theorem dX6_wardenNumber_75 : decode cX6_wardenNumber 75 = .ok (.getfield 65, 3) := by decide +kernel
theorem dX6_wardenNumber_78 : decode cX6_wardenNumber 78 = .ok (.getfield 281, 3) := by decide +kernel
theorem dX6_wardenNumber_81 : decode cX6_wardenNumber 81 = .ok (.iload_n 1, 1) := by decide +kernel
theorem dX6_wardenNumber_82 : decode cX6_wardenNumber 82 = .ok (.iaload, 1) := by decide +kernel
theorem dX6_wardenNumber_83 : decode cX6_wardenNumber 83 = .ok (.ireturn, 1) := by decide +kernel
theorem dX6_wardenNumber_84 : decode cX6_wardenNumber 84 = .ok (.aload_n 0, 1) := by decide +kernel
theorem dX6_wardenNumber_85 : decode cX6_wardenNumber 85 = .ok (.iload_n 1, 1) := by decide +kernel
theorem dX6_wardenNumber_86 : decode cX6_wardenNumber 86 = .ok (.invokevirtual 284, 3) := by decide +kernel
theorem dX6_wardenNumber_89 : decode cX6_wardenNumber 89 = .ok (.ireturn, 1) := by decide +kernel
theorem dX6_wardenNumber_90 : decode cX6_wardenNumber 90 = .ok (.aload_n 0, 1) := by decide +kernel
theorem dX6_wardenNumber_91 : decode cX6_wardenNumber 91 = .ok (.getfield 10, 3) := by decide +kernel
theorem dX6_wardenNumber_94 : decode cX6_wardenNumber 94 = .ok (.iload_n 1, 1) := by decide +kernel
theorem dX6_wardenNumber_95 : decode cX6_wardenNumber 95 = .ok (.invokevirtual 287, 3) := by decide +kernel
theorem dX6_wardenNumber_98 : decode cX6_wardenNumber 98 = .ok (.ifCond .eq 7, 3) := by decide +kernel
theorem dX6_wardenNumber_101 : decode cX6_wardenNumber 101 = .ok (.iconst 1, 1) := by decide +kernel
theorem dX6_wardenNumber_102 : decode cX6_wardenNumber 102 = .ok (.goto 4, 3) := by decide +kernel
theorem dX6_wardenNumber_105 : decode cX6_wardenNumber 105 = .ok (.iconst 0, 1) := by decide +kernel
theorem dX6_wardenNumber_106 : decode cX6_wardenNumber 106 = .ok (.aload_n 0, 1) := by decide +kernel
theorem dX6_wardenNumber_107 : decode cX6_wardenNumber 107 = .ok (.getfield 10, 3) := by decide +kernel
theorem dX6_wardenNumber_110 : decode cX6_wardenNumber 110 = .ok (.iload_n 1, 1) := by decide +kernel
theorem dX6_wardenNumber_111 : decode cX6_wardenNumber 111 = .ok (.invokestatic 290, 3) := by decide +kernel
theorem dX6_wardenNumber_114 : decode cX6_wardenNumber 114 = .ok (.invokevirtual 287, 3) := by decide +kernel
theorem dX6_wardenNumber_117 : decode cX6_wardenNumber 117 = .ok (.ifCond .eq 7, 3) := by decide +kernel
theorem dX6_wardenNumber_120 : decode cX6_wardenNumber 120 = .ok (.iconst 1, 1) := by decide +kernel
theorem dX6_wardenNumber_121 : decode cX6_wardenNumber 121 = .ok (.goto 4, 3) := by decide +kernel
theorem dX6_wardenNumber_124 : decode cX6_wardenNumber 124 = .ok (.iconst 0, 1) := by decide +kernel
theorem dX6_wardenNumber_125 : decode cX6_wardenNumber 125 = .ok (.iadd, 1) := by decide +kernel
theorem dX6_wardenNumber_126 : decode cX6_wardenNumber 126 = .ok (.ireturn, 1) := by decide +kernel
theorem dX6_townNumber_0 : decode cX6_townNumber 0 = .ok (.iload_n 1, 1) := by decide +kernel
theorem dX6_townNumber_1 : decode cX6_townNumber 1 = .ok (.tableswitch 87 0 5 #[39, 50, 58, 63, 68, 79], 39) := by decide +kernel
theorem dX6_townNumber_40 : decode cX6_townNumber 40 = .ok (.aload_n 0, 1) := by decide +kernel
theorem dX6_townNumber_41 : decode cX6_townNumber 41 = .ok (.getfield 10, 3) := by decide +kernel
theorem dX6_townNumber_44 : decode cX6_townNumber 44 = .ok (.getfield 55, 3) := by decide +kernel
theorem dX6_townNumber_47 : decode cX6_townNumber 47 = .ok (.getfield 293, 3) := by decide +kernel
theorem dX6_townNumber_50 : decode cX6_townNumber 50 = .ok (.ireturn, 1) := by decide +kernel
theorem dX6_townNumber_51 : decode cX6_townNumber 51 = .ok (.aload_n 0, 1) := by decide +kernel
theorem dX6_townNumber_52 : decode cX6_townNumber 52 = .ok (.getfield 10, 3) := by decide +kernel
theorem dX6_townNumber_55 : decode cX6_townNumber 55 = .ok (.getfield 83, 3) := by decide +kernel
theorem dX6_townNumber_58 : decode cX6_townNumber 58 = .ok (.ireturn, 1) := by decide +kernel
theorem dX6_townNumber_59 : decode cX6_townNumber 59 = .ok (.aload_n 0, 1) := by decide +kernel
theorem dX6_townNumber_60 : decode cX6_townNumber 60 = .ok (.invokevirtual 190, 3) := by decide +kernel
theorem dX6_townNumber_63 : decode cX6_townNumber 63 = .ok (.ireturn, 1) := by decide +kernel
theorem dX6_townNumber_64 : decode cX6_townNumber 64 = .ok (.aload_n 0, 1) := by decide +kernel
theorem dX6_townNumber_65 : decode cX6_townNumber 65 = .ok (.invokevirtual 296, 3) := by decide +kernel
theorem dX6_townNumber_68 : decode cX6_townNumber 68 = .ok (.ireturn, 1) := by decide +kernel
theorem dX6_townNumber_69 : decode cX6_townNumber 69 = .ok (.aload_n 0, 1) := by decide +kernel
theorem dX6_townNumber_70 : decode cX6_townNumber 70 = .ok (.getfield 10, 3) := by decide +kernel
theorem dX6_townNumber_73 : decode cX6_townNumber 73 = .ok (.getfield 65, 3) := by decide +kernel
theorem dX6_townNumber_76 : decode cX6_townNumber 76 = .ok (.invokevirtual 69, 3) := by decide +kernel
theorem dX6_townNumber_79 : decode cX6_townNumber 79 = .ok (.ireturn, 1) := by decide +kernel
theorem dX6_townNumber_80 : decode cX6_townNumber 80 = .ok (.aload_n 0, 1) := by decide +kernel
theorem dX6_townNumber_81 : decode cX6_townNumber 81 = .ok (.getfield 10, 3) := by decide +kernel
theorem dX6_townNumber_84 : decode cX6_townNumber 84 = .ok (.invokevirtual 299, 3) := by decide +kernel
theorem dX6_townNumber_87 : decode cX6_townNumber 87 = .ok (.ireturn, 1) := by decide +kernel
theorem dX6_townNumber_88 : decode cX6_townNumber 88 = .ok (.aload_n 0, 1) := by decide +kernel
theorem dX6_townNumber_89 : decode cX6_townNumber 89 = .ok (.getfield 10, 3) := by decide +kernel
theorem dX6_townNumber_92 : decode cX6_townNumber 92 = .ok (.getfield 205, 3) := by decide +kernel
theorem dX6_townNumber_95 : decode cX6_townNumber 95 = .ok (.ireturn, 1) := by decide +kernel
theorem dX6_sumNumber_0 : decode cX6_sumNumber 0 = .ok (.iload_n 1, 1) := by decide +kernel
theorem dX6_sumNumber_1 : decode cX6_sumNumber 1 = .ok (.tableswitch 118 7 12 #[39, 47, 61, 75, 89, 97], 39) := by decide +kernel
theorem dX6_sumNumber_40 : decode cX6_sumNumber 40 = .ok (.aload_n 0, 1) := by decide +kernel
theorem dX6_sumNumber_41 : decode cX6_sumNumber 41 = .ok (.getfield 10, 3) := by decide +kernel
theorem dX6_sumNumber_44 : decode cX6_sumNumber 44 = .ok (.getfield 208, 3) := by decide +kernel
theorem dX6_sumNumber_47 : decode cX6_sumNumber 47 = .ok (.ireturn, 1) := by decide +kernel
theorem dX6_sumNumber_48 : decode cX6_sumNumber 48 = .ok (.aload_n 0, 1) := by decide +kernel
theorem dX6_sumNumber_49 : decode cX6_sumNumber 49 = .ok (.getfield 10, 3) := by decide +kernel
theorem dX6_sumNumber_52 : decode cX6_sumNumber 52 = .ok (.getfield 55, 3) := by decide +kernel
theorem dX6_sumNumber_55 : decode cX6_sumNumber 55 = .ok (.getfield 275, 3) := by decide +kernel
theorem dX6_sumNumber_58 : decode cX6_sumNumber 58 = .ok (.invokestatic 302, 3) := by decide +kernel
theorem dX6_sumNumber_61 : decode cX6_sumNumber 61 = .ok (.ireturn, 1) := by decide +kernel
theorem dX6_sumNumber_62 : decode cX6_sumNumber 62 = .ok (.aload_n 0, 1) := by decide +kernel
theorem dX6_sumNumber_63 : decode cX6_sumNumber 63 = .ok (.getfield 10, 3) := by decide +kernel
theorem dX6_sumNumber_66 : decode cX6_sumNumber 66 = .ok (.getfield 55, 3) := by decide +kernel
theorem dX6_sumNumber_69 : decode cX6_sumNumber 69 = .ok (.getfield 306, 3) := by decide +kernel
theorem dX6_sumNumber_72 : decode cX6_sumNumber 72 = .ok (.invokestatic 302, 3) := by decide +kernel
theorem dX6_sumNumber_75 : decode cX6_sumNumber 75 = .ok (.ireturn, 1) := by decide +kernel
theorem dX6_sumNumber_76 : decode cX6_sumNumber 76 = .ok (.aload_n 0, 1) := by decide +kernel
theorem dX6_sumNumber_77 : decode cX6_sumNumber 77 = .ok (.getfield 10, 3) := by decide +kernel
theorem dX6_sumNumber_80 : decode cX6_sumNumber 80 = .ok (.getfield 55, 3) := by decide +kernel
theorem dX6_sumNumber_83 : decode cX6_sumNumber 83 = .ok (.getfield 309, 3) := by decide +kernel
theorem dX6_sumNumber_86 : decode cX6_sumNumber 86 = .ok (.invokestatic 302, 3) := by decide +kernel
theorem dX6_sumNumber_89 : decode cX6_sumNumber 89 = .ok (.ireturn, 1) := by decide +kernel
theorem dX6_sumNumber_90 : decode cX6_sumNumber 90 = .ok (.aload_n 0, 1) := by decide +kernel
theorem dX6_sumNumber_91 : decode cX6_sumNumber 91 = .ok (.getfield 10, 3) := by decide +kernel
theorem dX6_sumNumber_94 : decode cX6_sumNumber 94 = .ok (.invokevirtual 312, 3) := by decide +kernel
theorem dX6_sumNumber_97 : decode cX6_sumNumber 97 = .ok (.ireturn, 1) := by decide +kernel
theorem dX6_sumNumber_98 : decode cX6_sumNumber 98 = .ok (.aload_n 0, 1) := by decide +kernel
theorem dX6_sumNumber_99 : decode cX6_sumNumber 99 = .ok (.getfield 10, 3) := by decide +kernel
theorem dX6_sumNumber_102 : decode cX6_sumNumber 102 = .ok (.getfield 83, 3) := by decide +kernel
theorem dX6_sumNumber_105 : decode cX6_sumNumber 105 = .ok (.aload_n 0, 1) := by decide +kernel
theorem dX6_sumNumber_106 : decode cX6_sumNumber 106 = .ok (.getfield 10, 3) := by decide +kernel
theorem dX6_sumNumber_109 : decode cX6_sumNumber 109 = .ok (.getfield 55, 3) := by decide +kernel
theorem dX6_sumNumber_112 : decode cX6_sumNumber 112 = .ok (.getfield 293, 3) := by decide +kernel
theorem dX6_sumNumber_115 : decode cX6_sumNumber 115 = .ok (.invokestatic 193, 3) := by decide +kernel
theorem dX6_sumNumber_118 : decode cX6_sumNumber 118 = .ok (.ireturn, 1) := by decide +kernel
theorem dX6_sumNumber_119 : decode cX6_sumNumber 119 = .ok (.aload_n 0, 1) := by decide +kernel
theorem dX6_sumNumber_120 : decode cX6_sumNumber 120 = .ok (.getfield 26, 3) := by decide +kernel
theorem dX6_sumNumber_123 : decode cX6_sumNumber 123 = .ok (.getfield 165, 3) := by decide +kernel
theorem dX6_sumNumber_126 : decode cX6_sumNumber 126 = .ok (.ireturn, 1) := by decide +kernel
theorem dX6_placeOf_0 : decode cX6_placeOf 0 = .ok (.aload_n 0, 1) := by decide +kernel
theorem dX6_placeOf_1 : decode cX6_placeOf 1 = .ok (.getfield 40, 3) := by decide +kernel
theorem dX6_placeOf_4 : decode cX6_placeOf 4 = .ok (.aload_n 0, 1) := by decide +kernel
theorem dX6_placeOf_5 : decode cX6_placeOf 5 = .ok (.getfield 10, 3) := by decide +kernel
theorem dX6_placeOf_8 : decode cX6_placeOf 8 = .ok (.invokevirtual 315, 3) := by decide +kernel
theorem dX6_placeOf_11 : decode cX6_placeOf 11 = .ok (.aload_n 0, 1) := by decide +kernel
theorem dX6_placeOf_12 : decode cX6_placeOf 12 = .ok (.getfield 40, 3) := by decide +kernel
theorem dX6_placeOf_15 : decode cX6_placeOf 15 = .ok (.iload_n 1, 1) := by decide +kernel
theorem dX6_placeOf_16 : decode cX6_placeOf 16 = .ok (.invokevirtual 318, 3) := by decide +kernel
theorem dX6_placeOf_19 : decode cX6_placeOf 19 = .ok (.ireturn, 1) := by decide +kernel
theorem dX6_middleNow_0 : decode cX6_middleNow 0 = .ok (.aload_n 0, 1) := by decide +kernel
theorem dX6_middleNow_1 : decode cX6_middleNow 1 = .ok (.getfield 40, 3) := by decide +kernel
theorem dX6_middleNow_4 : decode cX6_middleNow 4 = .ok (.aload_n 0, 1) := by decide +kernel
theorem dX6_middleNow_5 : decode cX6_middleNow 5 = .ok (.getfield 10, 3) := by decide +kernel
theorem dX6_middleNow_8 : decode cX6_middleNow 8 = .ok (.invokevirtual 315, 3) := by decide +kernel
theorem dX6_middleNow_11 : decode cX6_middleNow 11 = .ok (.aload_n 0, 1) := by decide +kernel
theorem dX6_middleNow_12 : decode cX6_middleNow 12 = .ok (.getfield 40, 3) := by decide +kernel
theorem dX6_middleNow_15 : decode cX6_middleNow 15 = .ok (.invokevirtual 319, 3) := by decide +kernel
theorem dX6_middleNow_18 : decode cX6_middleNow 18 = .ok (.ireturn, 1) := by decide +kernel
theorem dX6_middleNowByAdding_0 : decode cX6_middleNowByAdding 0 = .ok (.aload_n 0, 1) := by decide +kernel
theorem dX6_middleNowByAdding_1 : decode cX6_middleNowByAdding 1 = .ok (.getfield 40, 3) := by decide +kernel
theorem dX6_middleNowByAdding_4 : decode cX6_middleNowByAdding 4 = .ok (.aload_n 0, 1) := by decide +kernel
theorem dX6_middleNowByAdding_5 : decode cX6_middleNowByAdding 5 = .ok (.getfield 10, 3) := by decide +kernel
theorem dX6_middleNowByAdding_8 : decode cX6_middleNowByAdding 8 = .ok (.invokevirtual 315, 3) := by decide +kernel
theorem dX6_middleNowByAdding_11 : decode cX6_middleNowByAdding 11 = .ok (.aload_n 0, 1) := by decide +kernel
theorem dX6_middleNowByAdding_12 : decode cX6_middleNowByAdding 12 = .ok (.getfield 40, 3) := by decide +kernel
theorem dX6_middleNowByAdding_15 : decode cX6_middleNowByAdding 15 = .ok (.invokevirtual 322, 3) := by decide +kernel
theorem dX6_middleNowByAdding_18 : decode cX6_middleNowByAdding 18 = .ok (.ireturn, 1) := by decide +kernel
theorem dX6_middleIf_0 : decode cX6_middleIf 0 = .ok (.aload_n 0, 1) := by decide +kernel
theorem dX6_middleIf_1 : decode cX6_middleIf 1 = .ok (.getfield 40, 3) := by decide +kernel
theorem dX6_middleIf_4 : decode cX6_middleIf 4 = .ok (.aload_n 0, 1) := by decide +kernel
theorem dX6_middleIf_5 : decode cX6_middleIf 5 = .ok (.getfield 10, 3) := by decide +kernel
theorem dX6_middleIf_8 : decode cX6_middleIf 8 = .ok (.invokevirtual 315, 3) := by decide +kernel
theorem dX6_middleIf_11 : decode cX6_middleIf 11 = .ok (.aload_n 0, 1) := by decide +kernel
theorem dX6_middleIf_12 : decode cX6_middleIf 12 = .ok (.getfield 40, 3) := by decide +kernel
theorem dX6_middleIf_15 : decode cX6_middleIf 15 = .ok (.getfield 325, 3) := by decide +kernel
theorem dX6_middleIf_18 : decode cX6_middleIf 18 = .ok (.iload_n 1, 1) := by decide +kernel
theorem dX6_middleIf_19 : decode cX6_middleIf 19 = .ok (.iload_n 2, 1) := by decide +kernel
theorem dX6_middleIf_20 : decode cX6_middleIf 20 = .ok (.iastore, 1) := by decide +kernel
theorem dX6_middleIf_21 : decode cX6_middleIf 21 = .ok (.aload_n 0, 1) := by decide +kernel
theorem dX6_middleIf_22 : decode cX6_middleIf 22 = .ok (.getfield 40, 3) := by decide +kernel
theorem dX6_middleIf_25 : decode cX6_middleIf 25 = .ok (.invokevirtual 319, 3) := by decide +kernel
theorem dX6_middleIf_28 : decode cX6_middleIf 28 = .ok (.ireturn, 1) := by decide +kernel
theorem dX6_holdVote_0 : decode cX6_holdVote 0 = .ok (.aload_n 0, 1) := by decide +kernel
theorem dX6_holdVote_1 : decode cX6_holdVote 1 = .ok (.getfield 10, 3) := by decide +kernel
theorem dX6_holdVote_4 : decode cX6_holdVote 4 = .ok (.aload_n 0, 1) := by decide +kernel
theorem dX6_holdVote_5 : decode cX6_holdVote 5 = .ok (.invokevirtual 190, 3) := by decide +kernel
theorem dX6_holdVote_8 : decode cX6_holdVote 8 = .ok (.invokevirtual 326, 3) := by decide +kernel
theorem dX6_holdVote_11 : decode cX6_holdVote 11 = .ok (.aload_n 0, 1) := by decide +kernel
theorem dX6_holdVote_12 : decode cX6_holdVote 12 = .ok (.getfield 10, 3) := by decide +kernel
theorem dX6_holdVote_15 : decode cX6_holdVote 15 = .ok (.aload_n 0, 1) := by decide +kernel
theorem dX6_holdVote_16 : decode cX6_holdVote 16 = .ok (.getfield 40, 3) := by decide +kernel
theorem dX6_holdVote_19 : decode cX6_holdVote 19 = .ok (.getfield 329, 3) := by decide +kernel
theorem dX6_holdVote_22 : decode cX6_holdVote 22 = .ok (.invokevirtual 332, 3) := by decide +kernel
theorem dX6_holdVote_25 : decode cX6_holdVote 25 = .ok (.return_, 1) := by decide +kernel
theorem dX6_obeyPart_0 : decode cX6_obeyPart 0 = .ok (.aload_n 0, 1) := by decide +kernel
theorem dX6_obeyPart_1 : decode cX6_obeyPart 1 = .ok (.getfield 33, 3) := by decide +kernel
theorem dX6_obeyPart_4 : decode cX6_obeyPart 4 = .ok (.iload_n 1, 1) := by decide +kernel
theorem dX6_obeyPart_5 : decode cX6_obeyPart 5 = .ok (.invokevirtual 246, 3) := by decide +kernel
theorem dX6_obeyPart_8 : decode cX6_obeyPart 8 = .ok (.lookupswitch 90 #[(99, 80), (116, 36), (118, 59)], 36) := by decide +kernel
theorem dX6_obeyPart_44 : decode cX6_obeyPart 44 = .ok (.aload_n 0, 1) := by decide +kernel
theorem dX6_obeyPart_45 : decode cX6_obeyPart 45 = .ok (.getfield 10, 3) := by decide +kernel
theorem dX6_obeyPart_48 : decode cX6_obeyPart 48 = .ok (.getfield 55, 3) := by decide +kernel
theorem dX6_obeyPart_51 : decode cX6_obeyPart 51 = .ok (.aload_n 0, 1) := by decide +kernel
theorem dX6_obeyPart_52 : decode cX6_obeyPart 52 = .ok (.getfield 33, 3) := by decide +kernel
theorem dX6_obeyPart_55 : decode cX6_obeyPart 55 = .ok (.iload_n 1, 1) := by decide +kernel
theorem dX6_obeyPart_56 : decode cX6_obeyPart 56 = .ok (.iconst 1, 1) := by decide +kernel
theorem dX6_obeyPart_57 : decode cX6_obeyPart 57 = .ok (.iadd, 1) := by decide +kernel
theorem dX6_obeyPart_58 : decode cX6_obeyPart 58 = .ok (.invokevirtual 336, 3) := by decide +kernel
theorem dX6_obeyPart_61 : decode cX6_obeyPart 61 = .ok (.invokevirtual 59, 3) := by decide +kernel
theorem dX6_obeyPart_64 : decode cX6_obeyPart 64 = .ok (.pop, 1) := by decide +kernel
theorem dX6_obeyPart_65 : decode cX6_obeyPart 65 = .ok (.iconst 1, 1) := by decide +kernel
theorem dX6_obeyPart_66 : decode cX6_obeyPart 66 = .ok (.ireturn, 1) := by decide +kernel
theorem dX6_obeyPart_67 : decode cX6_obeyPart 67 = .ok (.aload_n 0, 1) := by decide +kernel
theorem dX6_obeyPart_68 : decode cX6_obeyPart 68 = .ok (.getfield 10, 3) := by decide +kernel
theorem dX6_obeyPart_71 : decode cX6_obeyPart 71 = .ok (.getfield 65, 3) := by decide +kernel
theorem dX6_obeyPart_74 : decode cX6_obeyPart 74 = .ok (.invokevirtual 69, 3) := by decide +kernel
theorem dX6_obeyPart_77 : decode cX6_obeyPart 77 = .ok (.ifCond .ne 5, 3) := by decide +kernel
theorem dX6_obeyPart_80 : decode cX6_obeyPart 80 = .ok (.iconst 0, 1) := by decide +kernel
theorem dX6_obeyPart_81 : decode cX6_obeyPart 81 = .ok (.ireturn, 1) := by decide +kernel
theorem dX6_obeyPart_82 : decode cX6_obeyPart 82 = .ok (.aload_n 0, 1) := by decide +kernel
theorem dX6_obeyPart_83 : decode cX6_obeyPart 83 = .ok (.invokevirtual 80, 3) := by decide +kernel
theorem dX6_obeyPart_86 : decode cX6_obeyPart 86 = .ok (.iconst 1, 1) := by decide +kernel
theorem dX6_obeyPart_87 : decode cX6_obeyPart 87 = .ok (.ireturn, 1) := by decide +kernel
theorem dX6_obeyPart_88 : decode cX6_obeyPart 88 = .ok (.aload_n 0, 1) := by decide +kernel
theorem dX6_obeyPart_89 : decode cX6_obeyPart 89 = .ok (.getfield 10, 3) := by decide +kernel
theorem dX6_obeyPart_92 : decode cX6_obeyPart 92 = .ok (.invokevirtual 87, 3) := by decide +kernel
theorem dX6_obeyPart_95 : decode cX6_obeyPart 95 = .ok (.pop, 1) := by decide +kernel
theorem dX6_obeyPart_96 : decode cX6_obeyPart 96 = .ok (.iconst 1, 1) := by decide +kernel
theorem dX6_obeyPart_97 : decode cX6_obeyPart 97 = .ok (.ireturn, 1) := by decide +kernel
theorem dX6_obeyPart_98 : decode cX6_obeyPart 98 = .ok (.aload_n 0, 1) := by decide +kernel
theorem dX6_obeyPart_99 : decode cX6_obeyPart 99 = .ok (.getfield 10, 3) := by decide +kernel
theorem dX6_obeyPart_102 : decode cX6_obeyPart 102 = .ok (.getfield 55, 3) := by decide +kernel
theorem dX6_obeyPart_105 : decode cX6_obeyPart 105 = .ok (.aload_n 0, 1) := by decide +kernel
theorem dX6_obeyPart_106 : decode cX6_obeyPart 106 = .ok (.getfield 33, 3) := by decide +kernel
theorem dX6_obeyPart_109 : decode cX6_obeyPart 109 = .ok (.iload_n 1, 1) := by decide +kernel
theorem dX6_obeyPart_110 : decode cX6_obeyPart 110 = .ok (.iconst 1, 1) := by decide +kernel
theorem dX6_obeyPart_111 : decode cX6_obeyPart 111 = .ok (.iadd, 1) := by decide +kernel
theorem dX6_obeyPart_112 : decode cX6_obeyPart 112 = .ok (.invokevirtual 339, 3) := by decide +kernel
theorem dX6_obeyPart_115 : decode cX6_obeyPart 115 = .ok (.aload_n 0, 1) := by decide +kernel
theorem dX6_obeyPart_116 : decode cX6_obeyPart 116 = .ok (.getfield 33, 3) := by decide +kernel
theorem dX6_obeyPart_119 : decode cX6_obeyPart 119 = .ok (.iload_n 1, 1) := by decide +kernel
theorem dX6_obeyPart_120 : decode cX6_obeyPart 120 = .ok (.iconst 2, 1) := by decide +kernel
theorem dX6_obeyPart_121 : decode cX6_obeyPart 121 = .ok (.iadd, 1) := by decide +kernel
theorem dX6_obeyPart_122 : decode cX6_obeyPart 122 = .ok (.invokevirtual 342, 3) := by decide +kernel
theorem dX6_obeyPart_125 : decode cX6_obeyPart 125 = .ok (.invokevirtual 109, 3) := by decide +kernel
theorem dX6_obeyPart_128 : decode cX6_obeyPart 128 = .ok (.iconst 1, 1) := by decide +kernel
theorem dX6_obeyPart_129 : decode cX6_obeyPart 129 = .ok (.ireturn, 1) := by decide +kernel
theorem dX7_init_0 : decode cX7_init 0 = .ok (.aload_n 0, 1) := by decide +kernel
theorem dX7_init_1 : decode cX7_init 1 = .ok (.invokespecial 1, 3) := by decide +kernel
theorem dX7_init_4 : decode cX7_init 4 = .ok (.aload_n 0, 1) := by decide +kernel
theorem dX7_init_5 : decode cX7_init 5 = .ok (.bipush 69, 2) := by decide +kernel
theorem dX7_init_7 : decode cX7_init 7 = .ok (.newarray .int, 2) := by decide +kernel
theorem dX7_init_9 : decode cX7_init 9 = .ok (.putfield 7, 3) := by decide +kernel
theorem dX7_init_12 : decode cX7_init 12 = .ok (.aload_n 0, 1) := by decide +kernel
theorem dX7_init_13 : decode cX7_init 13 = .ok (.bipush 69, 2) := by decide +kernel
theorem dX7_init_15 : decode cX7_init 15 = .ok (.newarray .int, 2) := by decide +kernel
theorem dX7_init_17 : decode cX7_init 17 = .ok (.putfield 13, 3) := by decide +kernel
theorem dX7_init_20 : decode cX7_init 20 = .ok (.aload_n 0, 1) := by decide +kernel
theorem dX7_init_21 : decode cX7_init 21 = .ok (.sipush 414, 3) := by decide +kernel
theorem dX7_init_24 : decode cX7_init 24 = .ok (.newarray .int, 2) := by decide +kernel
theorem dX7_init_26 : decode cX7_init 26 = .ok (.putfield 16, 3) := by decide +kernel
theorem dX7_init_29 : decode cX7_init 29 = .ok (.aload_n 0, 1) := by decide +kernel
theorem dX7_init_30 : decode cX7_init 30 = .ok (.bipush 69, 2) := by decide +kernel
theorem dX7_init_32 : decode cX7_init 32 = .ok (.newarray .int, 2) := by decide +kernel
theorem dX7_init_34 : decode cX7_init 34 = .ok (.putfield 19, 3) := by decide +kernel
theorem dX7_init_37 : decode cX7_init 37 = .ok (.aload_n 0, 1) := by decide +kernel
theorem dX7_init_38 : decode cX7_init 38 = .ok (.bipush 60, 2) := by decide +kernel
theorem dX7_init_40 : decode cX7_init 40 = .ok (.newarray .int, 2) := by decide +kernel
theorem dX7_init_42 : decode cX7_init 42 = .ok (.putfield 22, 3) := by decide +kernel
theorem dX7_init_45 : decode cX7_init 45 = .ok (.aload_n 0, 1) := by decide +kernel
theorem dX7_init_46 : decode cX7_init 46 = .ok (.getfield 7, 3) := by decide +kernel
theorem dX7_init_49 : decode cX7_init 49 = .ok (.iconst 2, 1) := by decide +kernel
theorem dX7_init_50 : decode cX7_init 50 = .ok (.bipush 15, 2) := by decide +kernel
theorem dX7_init_52 : decode cX7_init 52 = .ok (.iastore, 1) := by decide +kernel
theorem dX7_init_53 : decode cX7_init 53 = .ok (.aload_n 0, 1) := by decide +kernel
theorem dX7_init_54 : decode cX7_init 54 = .ok (.getfield 7, 3) := by decide +kernel
theorem dX7_init_57 : decode cX7_init 57 = .ok (.iconst 3, 1) := by decide +kernel
theorem dX7_init_58 : decode cX7_init 58 = .ok (.iconst 5, 1) := by decide +kernel
theorem dX7_init_59 : decode cX7_init 59 = .ok (.iastore, 1) := by decide +kernel
theorem dX7_init_60 : decode cX7_init 60 = .ok (.iconst 0, 1) := by decide +kernel
theorem dX7_init_61 : decode cX7_init 61 = .ok (.istore_n 1, 1) := by decide +kernel
theorem dX7_init_62 : decode cX7_init 62 = .ok (.iload_n 1, 1) := by decide +kernel
theorem dX7_init_63 : decode cX7_init 63 = .ok (.bipush 7, 2) := by decide +kernel
theorem dX7_init_65 : decode cX7_init 65 = .ok (.if_icmp .ge 19, 3) := by decide +kernel
theorem dX7_init_68 : decode cX7_init 68 = .ok (.aload_n 0, 1) := by decide +kernel
theorem dX7_init_69 : decode cX7_init 69 = .ok (.getfield 7, 3) := by decide +kernel
theorem dX7_init_72 : decode cX7_init 72 = .ok (.bipush 48, 2) := by decide +kernel
theorem dX7_init_74 : decode cX7_init 74 = .ok (.iload_n 1, 1) := by decide +kernel
theorem dX7_init_75 : decode cX7_init 75 = .ok (.iadd, 1) := by decide +kernel
theorem dX7_init_76 : decode cX7_init 76 = .ok (.iconst 3, 1) := by decide +kernel
theorem dX7_init_77 : decode cX7_init 77 = .ok (.iastore, 1) := by decide +kernel
theorem dX7_init_78 : decode cX7_init 78 = .ok (.iinc 1 1, 3) := by decide +kernel
theorem dX7_init_81 : decode cX7_init 81 = .ok (.goto (-19), 3) := by decide +kernel
theorem dX7_init_84 : decode cX7_init 84 = .ok (.return_, 1) := by decide +kernel
theorem dX7_thrown_0 : decode cX7_thrown 0 = .ok (.aload_n 0, 1) := by decide +kernel
theorem dX7_thrown_1 : decode cX7_thrown 1 = .ok (.getfield 25, 3) := by decide +kernel
theorem dX7_thrown_4 : decode cX7_thrown 4 = .ok (.ireturn, 1) := by decide +kernel
theorem dX7_throwing_0 : decode cX7_throwing 0 = .ok (.aload_n 0, 1) := by decide +kernel
theorem dX7_throwing_1 : decode cX7_throwing 1 = .ok (.iload_n 1, 1) := by decide +kernel
theorem dX7_throwing_2 : decode cX7_throwing 2 = .ok (.putfield 25, 3) := by decide +kernel
theorem dX7_throwing_5 : decode cX7_throwing 5 = .ok (.iconst 0, 1) := by decide +kernel
theorem dX7_throwing_6 : decode cX7_throwing 6 = .ok (.ireturn, 1) := by decide +kernel
theorem dX7_in_0 : decode cX7_in 0 = .ok (.iload_n 0, 1) := by decide +kernel
theorem dX7_in_1 : decode cX7_in 1 = .ok (.iload_n 1, 1) := by decide +kernel
theorem dX7_in_2 : decode cX7_in 2 = .ok (.if_icmp .lt 12, 3) := by decide +kernel
theorem dX7_in_5 : decode cX7_in 5 = .ok (.iload_n 0, 1) := by decide +kernel
theorem dX7_in_6 : decode cX7_in 6 = .ok (.iload_n 2, 1) := by decide +kernel
theorem dX7_in_7 : decode cX7_in 7 = .ok (.if_icmp .gt 7, 3) := by decide +kernel
theorem dX7_in_10 : decode cX7_in 10 = .ok (.iconst 1, 1) := by decide +kernel
theorem dX7_in_11 : decode cX7_in 11 = .ok (.goto 4, 3) := by decide +kernel
theorem dX7_in_14 : decode cX7_in 14 = .ok (.iconst 0, 1) := by decide +kernel
theorem dX7_in_15 : decode cX7_in 15 = .ok (.ireturn, 1) := by decide +kernel
theorem dX7_isDial_0 : decode cX7_isDial 0 = .ok (.iload_n 0, 1) := by decide +kernel
theorem dX7_isDial_1 : decode cX7_isDial 1 = .ok (.iconst 0, 1) := by decide +kernel
theorem dX7_isDial_2 : decode cX7_isDial 2 = .ok (.bipush 6, 2) := by decide +kernel
theorem dX7_isDial_4 : decode cX7_isDial 4 = .ok (.invokestatic 29, 3) := by decide +kernel
theorem dX7_isDial_7 : decode cX7_isDial 7 = .ok (.ireturn, 1) := by decide +kernel
theorem dX7_size_0 : decode cX7_size 0 = .ok (.iload_n 0, 1) := by decide +kernel
theorem dX7_size_1 : decode cX7_size 1 = .ok (.ifCond .ge 8, 3) := by decide +kernel
theorem dX7_size_4 : decode cX7_size 4 = .ok (.iload_n 0, 1) := by decide +kernel
theorem dX7_size_5 : decode cX7_size 5 = .ok (.ineg, 1) := by decide +kernel
theorem dX7_size_6 : decode cX7_size 6 = .ok (.goto 4, 3) := by decide +kernel
theorem dX7_size_9 : decode cX7_size 9 = .ok (.iload_n 0, 1) := by decide +kernel
theorem dX7_size_10 : decode cX7_size 10 = .ok (.ireturn, 1) := by decide +kernel
theorem dX7_putAside_0 : decode cX7_putAside 0 = .ok (.iconst 0, 1) := by decide +kernel
theorem dX7_putAside_1 : decode cX7_putAside 1 = .ok (.istore_n 1, 1) := by decide +kernel
theorem dX7_putAside_2 : decode cX7_putAside 2 = .ok (.iload_n 1, 1) := by decide +kernel
theorem dX7_putAside_3 : decode cX7_putAside 3 = .ok (.bipush 69, 2) := by decide +kernel
theorem dX7_putAside_5 : decode cX7_putAside 5 = .ok (.if_icmp .ge 21, 3) := by decide +kernel
theorem dX7_putAside_8 : decode cX7_putAside 8 = .ok (.aload_n 0, 1) := by decide +kernel
theorem dX7_putAside_9 : decode cX7_putAside 9 = .ok (.getfield 13, 3) := by decide +kernel
theorem dX7_putAside_12 : decode cX7_putAside 12 = .ok (.iload_n 1, 1) := by decide +kernel
theorem dX7_putAside_13 : decode cX7_putAside 13 = .ok (.aload_n 0, 1) := by decide +kernel
theorem dX7_putAside_14 : decode cX7_putAside 14 = .ok (.getfield 7, 3) := by decide +kernel
theorem dX7_putAside_17 : decode cX7_putAside 17 = .ok (.iload_n 1, 1) := by decide +kernel
theorem dX7_putAside_18 : decode cX7_putAside 18 = .ok (.iaload, 1) := by decide +kernel
theorem dX7_putAside_19 : decode cX7_putAside 19 = .ok (.iastore, 1) := by decide +kernel
theorem dX7_putAside_20 : decode cX7_putAside 20 = .ok (.iinc 1 1, 3) := by decide +kernel
theorem dX7_putAside_23 : decode cX7_putAside 23 = .ok (.goto (-21), 3) := by decide +kernel
theorem dX7_putAside_26 : decode cX7_putAside 26 = .ok (.return_, 1) := by decide +kernel
theorem dX7_putBack_0 : decode cX7_putBack 0 = .ok (.iconst 0, 1) := by decide +kernel
theorem dX7_putBack_1 : decode cX7_putBack 1 = .ok (.istore_n 1, 1) := by decide +kernel
theorem dX7_putBack_2 : decode cX7_putBack 2 = .ok (.iload_n 1, 1) := by decide +kernel
theorem dX7_putBack_3 : decode cX7_putBack 3 = .ok (.bipush 69, 2) := by decide +kernel
theorem dX7_putBack_5 : decode cX7_putBack 5 = .ok (.if_icmp .ge 21, 3) := by decide +kernel
theorem dX7_putBack_8 : decode cX7_putBack 8 = .ok (.aload_n 0, 1) := by decide +kernel
theorem dX7_putBack_9 : decode cX7_putBack 9 = .ok (.getfield 7, 3) := by decide +kernel
theorem dX7_putBack_12 : decode cX7_putBack 12 = .ok (.iload_n 1, 1) := by decide +kernel
theorem dX7_putBack_13 : decode cX7_putBack 13 = .ok (.aload_n 0, 1) := by decide +kernel
theorem dX7_putBack_14 : decode cX7_putBack 14 = .ok (.getfield 13, 3) := by decide +kernel
theorem dX7_putBack_17 : decode cX7_putBack 17 = .ok (.iload_n 1, 1) := by decide +kernel
theorem dX7_putBack_18 : decode cX7_putBack 18 = .ok (.iaload, 1) := by decide +kernel
theorem dX7_putBack_19 : decode cX7_putBack 19 = .ok (.iastore, 1) := by decide +kernel
theorem dX7_putBack_20 : decode cX7_putBack 20 = .ok (.iinc 1 1, 3) := by decide +kernel
theorem dX7_putBack_23 : decode cX7_putBack 23 = .ok (.goto (-21), 3) := by decide +kernel
theorem dX7_putBack_26 : decode cX7_putBack 26 = .ok (.return_, 1) := by decide +kernel
theorem dX7_save_0 : decode cX7_save 0 = .ok (.aload_n 0, 1) := by decide +kernel
theorem dX7_save_1 : decode cX7_save 1 = .ok (.getfield 33, 3) := by decide +kernel
theorem dX7_save_4 : decode cX7_save 4 = .ok (.bipush 6, 2) := by decide +kernel
theorem dX7_save_6 : decode cX7_save 6 = .ok (.if_icmp .ne 43, 3) := by decide +kernel
theorem dX7_save_9 : decode cX7_save 9 = .ok (.iconst 0, 1) := by decide +kernel
theorem dX7_save_10 : decode cX7_save 10 = .ok (.istore_n 1, 1) := by decide +kernel
theorem dX7_save_11 : decode cX7_save 11 = .ok (.iload_n 1, 1) := by decide +kernel
theorem dX7_save_12 : decode cX7_save 12 = .ok (.sipush 345, 3) := by decide +kernel
theorem dX7_save_15 : decode cX7_save 15 = .ok (.if_icmp .ge 24, 3) := by decide +kernel
theorem dX7_save_18 : decode cX7_save 18 = .ok (.aload_n 0, 1) := by decide +kernel
theorem dX7_save_19 : decode cX7_save 19 = .ok (.getfield 16, 3) := by decide +kernel
theorem dX7_save_22 : decode cX7_save 22 = .ok (.iload_n 1, 1) := by decide +kernel
theorem dX7_save_23 : decode cX7_save 23 = .ok (.aload_n 0, 1) := by decide +kernel
theorem dX7_save_24 : decode cX7_save 24 = .ok (.getfield 16, 3) := by decide +kernel
theorem dX7_save_27 : decode cX7_save 27 = .ok (.bipush 69, 2) := by decide +kernel
theorem dX7_save_29 : decode cX7_save 29 = .ok (.iload_n 1, 1) := by decide +kernel
theorem dX7_save_30 : decode cX7_save 30 = .ok (.iadd, 1) := by decide +kernel
theorem dX7_save_31 : decode cX7_save 31 = .ok (.iaload, 1) := by decide +kernel
theorem dX7_save_32 : decode cX7_save 32 = .ok (.iastore, 1) := by decide +kernel
theorem dX7_save_33 : decode cX7_save 33 = .ok (.iinc 1 1, 3) := by decide +kernel
theorem dX7_save_36 : decode cX7_save 36 = .ok (.goto (-25), 3) := by decide +kernel
theorem dX7_save_39 : decode cX7_save 39 = .ok (.aload_n 0, 1) := by decide +kernel
theorem dX7_save_40 : decode cX7_save 40 = .ok (.dup, 1) := by decide +kernel
theorem dX7_save_41 : decode cX7_save 41 = .ok (.getfield 33, 3) := by decide +kernel
theorem dX7_save_44 : decode cX7_save 44 = .ok (.iconst 1, 1) := by decide +kernel
theorem dX7_save_45 : decode cX7_save 45 = .ok (.isub, 1) := by decide +kernel
theorem dX7_save_46 : decode cX7_save 46 = .ok (.putfield 33, 3) := by decide +kernel
theorem dX7_save_49 : decode cX7_save 49 = .ok (.iconst 0, 1) := by decide +kernel
theorem dX7_save_50 : decode cX7_save 50 = .ok (.istore_n 1, 1) := by decide +kernel
theorem dX7_save_51 : decode cX7_save 51 = .ok (.iload_n 1, 1) := by decide +kernel
theorem dX7_save_52 : decode cX7_save 52 = .ok (.bipush 69, 2) := by decide +kernel
theorem dX7_save_54 : decode cX7_save 54 = .ok (.if_icmp .ge 29, 3) := by decide +kernel
theorem dX7_save_57 : decode cX7_save 57 = .ok (.aload_n 0, 1) := by decide +kernel
theorem dX7_save_58 : decode cX7_save 58 = .ok (.getfield 16, 3) := by decide +kernel
theorem dX7_save_61 : decode cX7_save 61 = .ok (.bipush 69, 2) := by decide +kernel
theorem dX7_save_63 : decode cX7_save 63 = .ok (.aload_n 0, 1) := by decide +kernel
theorem dX7_save_64 : decode cX7_save 64 = .ok (.getfield 33, 3) := by decide +kernel
theorem dX7_save_67 : decode cX7_save 67 = .ok (.imul, 1) := by decide +kernel
theorem dX7_save_68 : decode cX7_save 68 = .ok (.iload_n 1, 1) := by decide +kernel
theorem dX7_save_69 : decode cX7_save 69 = .ok (.iadd, 1) := by decide +kernel
theorem dX7_save_70 : decode cX7_save 70 = .ok (.aload_n 0, 1) := by decide +kernel
theorem dX7_save_71 : decode cX7_save 71 = .ok (.getfield 7, 3) := by decide +kernel
theorem dX7_save_74 : decode cX7_save 74 = .ok (.iload_n 1, 1) := by decide +kernel
theorem dX7_save_75 : decode cX7_save 75 = .ok (.iaload, 1) := by decide +kernel
theorem dX7_save_76 : decode cX7_save 76 = .ok (.iastore, 1) := by decide +kernel
theorem dX7_save_77 : decode cX7_save 77 = .ok (.iinc 1 1, 3) := by decide +kernel
theorem dX7_save_80 : decode cX7_save 80 = .ok (.goto (-29), 3) := by decide +kernel
theorem dX7_save_83 : decode cX7_save 83 = .ok (.aload_n 0, 1) := by decide +kernel
theorem dX7_save_84 : decode cX7_save 84 = .ok (.dup, 1) := by decide +kernel
theorem dX7_save_85 : decode cX7_save 85 = .ok (.getfield 33, 3) := by decide +kernel
theorem dX7_save_88 : decode cX7_save 88 = .ok (.iconst 1, 1) := by decide +kernel
theorem dX7_save_89 : decode cX7_save 89 = .ok (.iadd, 1) := by decide +kernel
theorem dX7_save_90 : decode cX7_save 90 = .ok (.putfield 33, 3) := by decide +kernel
theorem dX7_save_93 : decode cX7_save 93 = .ok (.return_, 1) := by decide +kernel
theorem dX7_shows_0 : decode cX7_shows 0 = .ok (.aload_n 0, 1) := by decide +kernel
theorem dX7_shows_1 : decode cX7_shows 1 = .ok (.getfield 7, 3) := by decide +kernel
theorem dX7_shows_4 : decode cX7_shows 4 = .ok (.bipush 6, 2) := by decide +kernel
theorem dX7_shows_6 : decode cX7_shows 6 = .ok (.iload_n 1, 1) := by decide +kernel
theorem dX7_shows_7 : decode cX7_shows 7 = .ok (.iadd, 1) := by decide +kernel
theorem dX7_shows_8 : decode cX7_shows 8 = .ok (.iaload, 1) := by decide +kernel
theorem dX7_shows_9 : decode cX7_shows 9 = .ok (.istore_n 3, 1) := by decide +kernel
theorem dX7_shows_10 : decode cX7_shows 10 = .ok (.iload_n 2, 1) := by decide +kernel
theorem dX7_shows_11 : decode cX7_shows 11 = .ok (.iload_n 3, 1) := by decide +kernel
theorem dX7_shows_12 : decode cX7_shows 12 = .ok (.if_icmp .le 15, 3) := by decide +kernel
theorem dX7_shows_15 : decode cX7_shows 15 = .ok (.iload_n 2, 1) := by decide +kernel
theorem dX7_shows_16 : decode cX7_shows 16 = .ok (.bipush 60, 2) := by decide +kernel
theorem dX7_shows_18 : decode cX7_shows 18 = .ok (.idiv, 1) := by decide +kernel
theorem dX7_shows_19 : decode cX7_shows 19 = .ok (.iload_n 3, 1) := by decide +kernel
theorem dX7_shows_20 : decode cX7_shows 20 = .ok (.bipush 60, 2) := by decide +kernel
theorem dX7_shows_22 : decode cX7_shows 22 = .ok (.idiv, 1) := by decide +kernel
theorem dX7_shows_23 : decode cX7_shows 23 = .ok (.isub, 1) := by decide +kernel
theorem dX7_shows_24 : decode cX7_shows 24 = .ok (.goto 4, 3) := by decide +kernel
theorem dX7_shows_27 : decode cX7_shows 27 = .ok (.iconst 0, 1) := by decide +kernel
theorem dX7_shows_28 : decode cX7_shows 28 = .ok (.istore 4, 2) := by decide +kernel
theorem dX7_shows_30 : decode cX7_shows 30 = .ok (.aload_n 0, 1) := by decide +kernel
theorem dX7_shows_31 : decode cX7_shows 31 = .ok (.getfield 7, 3) := by decide +kernel
theorem dX7_shows_34 : decode cX7_shows 34 = .ok (.bipush 6, 2) := by decide +kernel
theorem dX7_shows_36 : decode cX7_shows 36 = .ok (.iload_n 1, 1) := by decide +kernel
theorem dX7_shows_37 : decode cX7_shows 37 = .ok (.iadd, 1) := by decide +kernel
theorem dX7_shows_38 : decode cX7_shows 38 = .ok (.iload_n 2, 1) := by decide +kernel
theorem dX7_shows_39 : decode cX7_shows 39 = .ok (.iastore, 1) := by decide +kernel
theorem dX7_shows_40 : decode cX7_shows 40 = .ok (.aload_n 0, 1) := by decide +kernel
theorem dX7_shows_41 : decode cX7_shows 41 = .ok (.getfield 7, 3) := by decide +kernel
theorem dX7_shows_44 : decode cX7_shows 44 = .ok (.bipush 20, 2) := by decide +kernel
theorem dX7_shows_46 : decode cX7_shows 46 = .ok (.iload_n 1, 1) := by decide +kernel
theorem dX7_shows_47 : decode cX7_shows 47 = .ok (.iadd, 1) := by decide +kernel
theorem dX7_shows_48 : decode cX7_shows 48 = .ok (.dup2, 1) := by decide +kernel
theorem dX7_shows_49 : decode cX7_shows 49 = .ok (.iaload, 1) := by decide +kernel
theorem dX7_shows_50 : decode cX7_shows 50 = .ok (.iload 4, 2) := by decide +kernel
theorem dX7_shows_52 : decode cX7_shows 52 = .ok (.iadd, 1) := by decide +kernel
theorem dX7_shows_53 : decode cX7_shows 53 = .ok (.iastore, 1) := by decide +kernel
theorem dX7_shows_54 : decode cX7_shows 54 = .ok (.iload 4, 2) := by decide +kernel
theorem dX7_shows_56 : decode cX7_shows 56 = .ok (.ireturn, 1) := by decide +kernel
theorem dX7_moves_0 : decode cX7_moves 0 = .ok (.aload_n 0, 1) := by decide +kernel
theorem dX7_moves_1 : decode cX7_moves 1 = .ok (.getfield 7, 3) := by decide +kernel
theorem dX7_moves_4 : decode cX7_moves 4 = .ok (.bipush 6, 2) := by decide +kernel
theorem dX7_moves_6 : decode cX7_moves 6 = .ok (.iload_n 1, 1) := by decide +kernel
theorem dX7_moves_7 : decode cX7_moves 7 = .ok (.iadd, 1) := by decide +kernel
theorem dX7_moves_8 : decode cX7_moves 8 = .ok (.iaload, 1) := by decide +kernel
theorem dX7_moves_9 : decode cX7_moves 9 = .ok (.istore_n 3, 1) := by decide +kernel
theorem dX7_moves_10 : decode cX7_moves 10 = .ok (.aload_n 0, 1) := by decide +kernel
theorem dX7_moves_11 : decode cX7_moves 11 = .ok (.iload_n 1, 1) := by decide +kernel
theorem dX7_moves_12 : decode cX7_moves 12 = .ok (.iload_n 2, 1) := by decide +kernel
theorem dX7_moves_13 : decode cX7_moves 13 = .ok (.invokevirtual 36, 3) := by decide +kernel
theorem dX7_moves_16 : decode cX7_moves 16 = .ok (.istore 4, 2) := by decide +kernel
theorem dX7_moves_18 : decode cX7_moves 18 = .ok (.aload_n 0, 1) := by decide +kernel
theorem dX7_moves_19 : decode cX7_moves 19 = .ok (.getfield 7, 3) := by decide +kernel
theorem dX7_moves_22 : decode cX7_moves 22 = .ok (.bipush 34, 2) := by decide +kernel
theorem dX7_moves_24 : decode cX7_moves 24 = .ok (.iload_n 1, 1) := by decide +kernel
theorem dX7_moves_25 : decode cX7_moves 25 = .ok (.iadd, 1) := by decide +kernel
theorem dX7_moves_26 : decode cX7_moves 26 = .ok (.dup2, 1) := by decide +kernel
theorem dX7_moves_27 : decode cX7_moves 27 = .ok (.iaload, 1) := by decide +kernel
theorem dX7_moves_28 : decode cX7_moves 28 = .ok (.iload_n 2, 1) := by decide +kernel
theorem dX7_moves_29 : decode cX7_moves 29 = .ok (.iload_n 3, 1) := by decide +kernel
theorem dX7_moves_30 : decode cX7_moves 30 = .ok (.if_icmp .le 9, 3) := by decide +kernel
theorem dX7_moves_33 : decode cX7_moves 33 = .ok (.iload_n 2, 1) := by decide +kernel
theorem dX7_moves_34 : decode cX7_moves 34 = .ok (.iload_n 3, 1) := by decide +kernel
theorem dX7_moves_35 : decode cX7_moves 35 = .ok (.isub, 1) := by decide +kernel
theorem dX7_moves_36 : decode cX7_moves 36 = .ok (.goto 4, 3) := by decide +kernel
theorem dX7_moves_39 : decode cX7_moves 39 = .ok (.iconst 0, 1) := by decide +kernel
theorem dX7_moves_40 : decode cX7_moves 40 = .ok (.iadd, 1) := by decide +kernel
theorem dX7_moves_41 : decode cX7_moves 41 = .ok (.iastore, 1) := by decide +kernel
theorem dX7_moves_42 : decode cX7_moves 42 = .ok (.aload_n 0, 1) := by decide +kernel
theorem dX7_moves_43 : decode cX7_moves 43 = .ok (.getfield 7, 3) := by decide +kernel
theorem dX7_moves_46 : decode cX7_moves 46 = .ok (.bipush 41, 2) := by decide +kernel
theorem dX7_moves_48 : decode cX7_moves 48 = .ok (.iload_n 1, 1) := by decide +kernel
theorem dX7_moves_49 : decode cX7_moves 49 = .ok (.iadd, 1) := by decide +kernel
theorem dX7_moves_50 : decode cX7_moves 50 = .ok (.dup2, 1) := by decide +kernel
theorem dX7_moves_51 : decode cX7_moves 51 = .ok (.iaload, 1) := by decide +kernel
theorem dX7_moves_52 : decode cX7_moves 52 = .ok (.iload_n 2, 1) := by decide +kernel
theorem dX7_moves_53 : decode cX7_moves 53 = .ok (.iload_n 3, 1) := by decide +kernel
theorem dX7_moves_54 : decode cX7_moves 54 = .ok (.if_icmp .ge 9, 3) := by decide +kernel
theorem dX7_moves_57 : decode cX7_moves 57 = .ok (.iload_n 3, 1) := by decide +kernel
theorem dX7_moves_58 : decode cX7_moves 58 = .ok (.iload_n 2, 1) := by decide +kernel
theorem dX7_moves_59 : decode cX7_moves 59 = .ok (.isub, 1) := by decide +kernel
theorem dX7_moves_60 : decode cX7_moves 60 = .ok (.goto 4, 3) := by decide +kernel
theorem dX7_moves_63 : decode cX7_moves 63 = .ok (.iconst 0, 1) := by decide +kernel
theorem dX7_moves_64 : decode cX7_moves 64 = .ok (.iadd, 1) := by decide +kernel
theorem dX7_moves_65 : decode cX7_moves 65 = .ok (.iastore, 1) := by decide +kernel
theorem dX7_moves_66 : decode cX7_moves 66 = .ok (.return_, 1) := by decide +kernel
theorem dX7_tickOnce_0 : decode cX7_tickOnce 0 = .ok (.iconst 0, 1) := by decide +kernel
theorem dX7_tickOnce_1 : decode cX7_tickOnce 1 = .ok (.istore_n 1, 1) := by decide +kernel
theorem dX7_tickOnce_2 : decode cX7_tickOnce 2 = .ok (.aload_n 0, 1) := by decide +kernel
theorem dX7_tickOnce_3 : decode cX7_tickOnce 3 = .ok (.getfield 7, 3) := by decide +kernel
theorem dX7_tickOnce_6 : decode cX7_tickOnce 6 = .ok (.iconst 0, 1) := by decide +kernel
theorem dX7_tickOnce_7 : decode cX7_tickOnce 7 = .ok (.dup2, 1) := by decide +kernel
theorem dX7_tickOnce_8 : decode cX7_tickOnce 8 = .ok (.iaload, 1) := by decide +kernel
theorem dX7_tickOnce_9 : decode cX7_tickOnce 9 = .ok (.bipush 10, 2) := by decide +kernel
theorem dX7_tickOnce_11 : decode cX7_tickOnce 11 = .ok (.iadd, 1) := by decide +kernel
theorem dX7_tickOnce_12 : decode cX7_tickOnce 12 = .ok (.iastore, 1) := by decide +kernel
theorem dX7_tickOnce_13 : decode cX7_tickOnce 13 = .ok (.iconst 0, 1) := by decide +kernel
theorem dX7_tickOnce_14 : decode cX7_tickOnce 14 = .ok (.istore_n 2, 1) := by decide +kernel
theorem dX7_tickOnce_15 : decode cX7_tickOnce 15 = .ok (.iload_n 2, 1) := by decide +kernel
theorem dX7_tickOnce_16 : decode cX7_tickOnce 16 = .ok (.bipush 7, 2) := by decide +kernel
theorem dX7_tickOnce_18 : decode cX7_tickOnce 18 = .ok (.if_icmp .ge 77, 3) := by decide +kernel
theorem dX7_tickOnce_21 : decode cX7_tickOnce 21 = .ok (.aload_n 0, 1) := by decide +kernel
theorem dX7_tickOnce_22 : decode cX7_tickOnce 22 = .ok (.getfield 7, 3) := by decide +kernel
theorem dX7_tickOnce_25 : decode cX7_tickOnce 25 = .ok (.bipush 6, 2) := by decide +kernel
theorem dX7_tickOnce_27 : decode cX7_tickOnce 27 = .ok (.iload_n 2, 1) := by decide +kernel
theorem dX7_tickOnce_28 : decode cX7_tickOnce 28 = .ok (.iadd, 1) := by decide +kernel
theorem dX7_tickOnce_29 : decode cX7_tickOnce 29 = .ok (.iaload, 1) := by decide +kernel
theorem dX7_tickOnce_30 : decode cX7_tickOnce 30 = .ok (.istore_n 3, 1) := by decide +kernel
theorem dX7_tickOnce_31 : decode cX7_tickOnce 31 = .ok (.iload_n 3, 1) := by decide +kernel
theorem dX7_tickOnce_32 : decode cX7_tickOnce 32 = .ok (.bipush 10, 2) := by decide +kernel
theorem dX7_tickOnce_34 : decode cX7_tickOnce 34 = .ok (.iadd, 1) := by decide +kernel
theorem dX7_tickOnce_35 : decode cX7_tickOnce 35 = .ok (.aload_n 0, 1) := by decide +kernel
theorem dX7_tickOnce_36 : decode cX7_tickOnce 36 = .ok (.getfield 7, 3) := by decide +kernel
theorem dX7_tickOnce_39 : decode cX7_tickOnce 39 = .ok (.bipush 13, 2) := by decide +kernel
theorem dX7_tickOnce_41 : decode cX7_tickOnce 41 = .ok (.iload_n 2, 1) := by decide +kernel
theorem dX7_tickOnce_42 : decode cX7_tickOnce 42 = .ok (.iadd, 1) := by decide +kernel
theorem dX7_tickOnce_43 : decode cX7_tickOnce 43 = .ok (.iaload, 1) := by decide +kernel
theorem dX7_tickOnce_44 : decode cX7_tickOnce 44 = .ok (.iadd, 1) := by decide +kernel
theorem dX7_tickOnce_45 : decode cX7_tickOnce 45 = .ok (.istore 4, 2) := by decide +kernel
theorem dX7_tickOnce_47 : decode cX7_tickOnce 47 = .ok (.iload 4, 2) := by decide +kernel
theorem dX7_tickOnce_49 : decode cX7_tickOnce 49 = .ok (.ldc 40, 2) := by decide +kernel
theorem dX7_tickOnce_51 : decode cX7_tickOnce 51 = .ok (.if_icmp .le 8, 3) := by decide +kernel
theorem dX7_tickOnce_54 : decode cX7_tickOnce 54 = .ok (.ldc 40, 2) := by decide +kernel
theorem dX7_tickOnce_56 : decode cX7_tickOnce 56 = .ok (.goto 5, 3) := by decide +kernel
theorem dX7_tickOnce_59 : decode cX7_tickOnce 59 = .ok (.iload 4, 2) := by decide +kernel
theorem dX7_tickOnce_61 : decode cX7_tickOnce 61 = .ok (.istore 4, 2) := by decide +kernel
theorem dX7_tickOnce_63 : decode cX7_tickOnce 63 = .ok (.aload_n 0, 1) := by decide +kernel
theorem dX7_tickOnce_64 : decode cX7_tickOnce 64 = .ok (.getfield 7, 3) := by decide +kernel
theorem dX7_tickOnce_67 : decode cX7_tickOnce 67 = .ok (.bipush 27, 2) := by decide +kernel
theorem dX7_tickOnce_69 : decode cX7_tickOnce 69 = .ok (.iload_n 2, 1) := by decide +kernel
theorem dX7_tickOnce_70 : decode cX7_tickOnce 70 = .ok (.iadd, 1) := by decide +kernel
theorem dX7_tickOnce_71 : decode cX7_tickOnce 71 = .ok (.dup2, 1) := by decide +kernel
theorem dX7_tickOnce_72 : decode cX7_tickOnce 72 = .ok (.iaload, 1) := by decide +kernel
theorem dX7_tickOnce_73 : decode cX7_tickOnce 73 = .ok (.iload 4, 2) := by decide +kernel
theorem dX7_tickOnce_75 : decode cX7_tickOnce 75 = .ok (.iload_n 3, 1) := by decide +kernel
theorem dX7_tickOnce_76 : decode cX7_tickOnce 76 = .ok (.isub, 1) := by decide +kernel
theorem dX7_tickOnce_77 : decode cX7_tickOnce 77 = .ok (.iadd, 1) := by decide +kernel
theorem dX7_tickOnce_78 : decode cX7_tickOnce 78 = .ok (.iastore, 1) := by decide +kernel
theorem dX7_tickOnce_79 : decode cX7_tickOnce 79 = .ok (.iload_n 1, 1) := by decide +kernel
theorem dX7_tickOnce_80 : decode cX7_tickOnce 80 = .ok (.aload_n 0, 1) := by decide +kernel
theorem dX7_tickOnce_81 : decode cX7_tickOnce 81 = .ok (.iload_n 2, 1) := by decide +kernel
theorem dX7_tickOnce_82 : decode cX7_tickOnce 82 = .ok (.iload 4, 2) := by decide +kernel
theorem dX7_tickOnce_84 : decode cX7_tickOnce 84 = .ok (.invokevirtual 36, 3) := by decide +kernel
theorem dX7_tickOnce_87 : decode cX7_tickOnce 87 = .ok (.iadd, 1) := by decide +kernel
theorem dX7_tickOnce_88 : decode cX7_tickOnce 88 = .ok (.istore_n 1, 1) := by decide +kernel
theorem dX7_tickOnce_89 : decode cX7_tickOnce 89 = .ok (.iinc 2 1, 3) := by decide +kernel
theorem dX7_tickOnce_92 : decode cX7_tickOnce 92 = .ok (.goto (-77), 3) := by decide +kernel
theorem dX7_tickOnce_95 : decode cX7_tickOnce 95 = .ok (.iload_n 1, 1) := by decide +kernel
theorem dX7_tickOnce_96 : decode cX7_tickOnce 96 = .ok (.ireturn, 1) := by decide +kernel
theorem dX7_ticks_0 : decode cX7_ticks 0 = .ok (.iconst 0, 1) := by decide +kernel
theorem dX7_ticks_1 : decode cX7_ticks 1 = .ok (.istore_n 2, 1) := by decide +kernel
theorem dX7_ticks_2 : decode cX7_ticks 2 = .ok (.iconst 0, 1) := by decide +kernel
theorem dX7_ticks_3 : decode cX7_ticks 3 = .ok (.istore_n 3, 1) := by decide +kernel
theorem dX7_ticks_4 : decode cX7_ticks 4 = .ok (.iload_n 3, 1) := by decide +kernel
theorem dX7_ticks_5 : decode cX7_ticks 5 = .ok (.iload_n 1, 1) := by decide +kernel
theorem dX7_ticks_6 : decode cX7_ticks 6 = .ok (.if_icmp .ge 16, 3) := by decide +kernel
theorem dX7_ticks_9 : decode cX7_ticks 9 = .ok (.iload_n 2, 1) := by decide +kernel
theorem dX7_ticks_10 : decode cX7_ticks 10 = .ok (.aload_n 0, 1) := by decide +kernel
theorem dX7_ticks_11 : decode cX7_ticks 11 = .ok (.invokevirtual 41, 3) := by decide +kernel
theorem dX7_ticks_14 : decode cX7_ticks 14 = .ok (.iadd, 1) := by decide +kernel
theorem dX7_ticks_15 : decode cX7_ticks 15 = .ok (.istore_n 2, 1) := by decide +kernel
theorem dX7_ticks_16 : decode cX7_ticks 16 = .ok (.iinc 3 1, 3) := by decide +kernel
theorem dX7_ticks_19 : decode cX7_ticks 19 = .ok (.goto (-15), 3) := by decide +kernel
theorem dX7_ticks_22 : decode cX7_ticks 22 = .ok (.iload_n 2, 1) := by decide +kernel
theorem dX7_ticks_23 : decode cX7_ticks 23 = .ok (.ireturn, 1) := by decide +kernel
theorem dX7_right_0 : decode cX7_right 0 = .ok (.aload_n 0, 1) := by decide +kernel
theorem dX7_right_1 : decode cX7_right 1 = .ok (.getfield 7, 3) := by decide +kernel
theorem dX7_right_4 : decode cX7_right 4 = .ok (.iconst 1, 1) := by decide +kernel
theorem dX7_right_5 : decode cX7_right 5 = .ok (.iaload, 1) := by decide +kernel
theorem dX7_right_6 : decode cX7_right 6 = .ok (.aload_n 0, 1) := by decide +kernel
theorem dX7_right_7 : decode cX7_right 7 = .ok (.getfield 7, 3) := by decide +kernel
theorem dX7_right_10 : decode cX7_right 10 = .ok (.iconst 3, 1) := by decide +kernel
theorem dX7_right_11 : decode cX7_right 11 = .ok (.iaload, 1) := by decide +kernel
theorem dX7_right_12 : decode cX7_right 12 = .ok (.isub, 1) := by decide +kernel
theorem dX7_right_13 : decode cX7_right 13 = .ok (.istore_n 2, 1) := by decide +kernel
theorem dX7_right_14 : decode cX7_right 14 = .ok (.aload_n 0, 1) := by decide +kernel
theorem dX7_right_15 : decode cX7_right 15 = .ok (.getfield 7, 3) := by decide +kernel
theorem dX7_right_18 : decode cX7_right 18 = .ok (.iconst 1, 1) := by decide +kernel
theorem dX7_right_19 : decode cX7_right 19 = .ok (.iaload, 1) := by decide +kernel
theorem dX7_right_20 : decode cX7_right 20 = .ok (.aload_n 0, 1) := by decide +kernel
theorem dX7_right_21 : decode cX7_right 21 = .ok (.getfield 7, 3) := by decide +kernel
theorem dX7_right_24 : decode cX7_right 24 = .ok (.iconst 3, 1) := by decide +kernel
theorem dX7_right_25 : decode cX7_right 25 = .ok (.iaload, 1) := by decide +kernel
theorem dX7_right_26 : decode cX7_right 26 = .ok (.iadd, 1) := by decide +kernel
theorem dX7_right_27 : decode cX7_right 27 = .ok (.istore_n 3, 1) := by decide +kernel
theorem dX7_right_28 : decode cX7_right 28 = .ok (.aload_n 0, 1) := by decide +kernel
theorem dX7_right_29 : decode cX7_right 29 = .ok (.getfield 7, 3) := by decide +kernel
theorem dX7_right_32 : decode cX7_right 32 = .ok (.bipush 6, 2) := by decide +kernel
theorem dX7_right_34 : decode cX7_right 34 = .ok (.iload_n 1, 1) := by decide +kernel
theorem dX7_right_35 : decode cX7_right 35 = .ok (.iadd, 1) := by decide +kernel
theorem dX7_right_36 : decode cX7_right 36 = .ok (.iaload, 1) := by decide +kernel
theorem dX7_right_37 : decode cX7_right 37 = .ok (.istore 4, 2) := by decide +kernel
theorem dX7_right_39 : decode cX7_right 39 = .ok (.iload 4, 2) := by decide +kernel
theorem dX7_right_41 : decode cX7_right 41 = .ok (.iload_n 2, 1) := by decide +kernel
theorem dX7_right_42 : decode cX7_right 42 = .ok (.if_icmp .ge 7, 3) := by decide +kernel
theorem dX7_right_45 : decode cX7_right 45 = .ok (.iload_n 2, 1) := by decide +kernel
theorem dX7_right_46 : decode cX7_right 46 = .ok (.goto 15, 3) := by decide +kernel
theorem dX7_right_49 : decode cX7_right 49 = .ok (.iload 4, 2) := by decide +kernel
theorem dX7_right_51 : decode cX7_right 51 = .ok (.iload_n 3, 1) := by decide +kernel
theorem dX7_right_52 : decode cX7_right 52 = .ok (.if_icmp .le 7, 3) := by decide +kernel
theorem dX7_right_55 : decode cX7_right 55 = .ok (.iload_n 3, 1) := by decide +kernel
theorem dX7_right_56 : decode cX7_right 56 = .ok (.goto 5, 3) := by decide +kernel
theorem dX7_right_59 : decode cX7_right 59 = .ok (.iload 4, 2) := by decide +kernel
theorem dX7_right_61 : decode cX7_right 61 = .ok (.ireturn, 1) := by decide +kernel
theorem dX7_corrects_0 : decode cX7_corrects 0 = .ok (.iconst 0, 1) := by decide +kernel
theorem dX7_corrects_1 : decode cX7_corrects 1 = .ok (.istore_n 1, 1) := by decide +kernel
theorem dX7_corrects_2 : decode cX7_corrects 2 = .ok (.iconst 0, 1) := by decide +kernel
theorem dX7_corrects_3 : decode cX7_corrects 3 = .ok (.istore_n 2, 1) := by decide +kernel
theorem dX7_corrects_4 : decode cX7_corrects 4 = .ok (.iload_n 2, 1) := by decide +kernel
theorem dX7_corrects_5 : decode cX7_corrects 5 = .ok (.bipush 7, 2) := by decide +kernel
theorem dX7_corrects_7 : decode cX7_corrects 7 = .ok (.if_icmp .ge 38, 3) := by decide +kernel
theorem dX7_corrects_10 : decode cX7_corrects 10 = .ok (.aload_n 0, 1) := by decide +kernel
theorem dX7_corrects_11 : decode cX7_corrects 11 = .ok (.iload_n 2, 1) := by decide +kernel
theorem dX7_corrects_12 : decode cX7_corrects 12 = .ok (.invokevirtual 45, 3) := by decide +kernel
theorem dX7_corrects_15 : decode cX7_corrects 15 = .ok (.istore_n 3, 1) := by decide +kernel
theorem dX7_corrects_16 : decode cX7_corrects 16 = .ok (.iload_n 1, 1) := by decide +kernel
theorem dX7_corrects_17 : decode cX7_corrects 17 = .ok (.iload_n 3, 1) := by decide +kernel
theorem dX7_corrects_18 : decode cX7_corrects 18 = .ok (.aload_n 0, 1) := by decide +kernel
theorem dX7_corrects_19 : decode cX7_corrects 19 = .ok (.getfield 7, 3) := by decide +kernel
theorem dX7_corrects_22 : decode cX7_corrects 22 = .ok (.bipush 6, 2) := by decide +kernel
theorem dX7_corrects_24 : decode cX7_corrects 24 = .ok (.iload_n 2, 1) := by decide +kernel
theorem dX7_corrects_25 : decode cX7_corrects 25 = .ok (.iadd, 1) := by decide +kernel
theorem dX7_corrects_26 : decode cX7_corrects 26 = .ok (.iaload, 1) := by decide +kernel
theorem dX7_corrects_27 : decode cX7_corrects 27 = .ok (.isub, 1) := by decide +kernel
theorem dX7_corrects_28 : decode cX7_corrects 28 = .ok (.invokestatic 49, 3) := by decide +kernel
theorem dX7_corrects_31 : decode cX7_corrects 31 = .ok (.iadd, 1) := by decide +kernel
theorem dX7_corrects_32 : decode cX7_corrects 32 = .ok (.istore_n 1, 1) := by decide +kernel
theorem dX7_corrects_33 : decode cX7_corrects 33 = .ok (.aload_n 0, 1) := by decide +kernel
theorem dX7_corrects_34 : decode cX7_corrects 34 = .ok (.iload_n 2, 1) := by decide +kernel
theorem dX7_corrects_35 : decode cX7_corrects 35 = .ok (.iload_n 3, 1) := by decide +kernel
theorem dX7_corrects_36 : decode cX7_corrects 36 = .ok (.invokevirtual 52, 3) := by decide +kernel
theorem dX7_corrects_39 : decode cX7_corrects 39 = .ok (.iinc 2 1, 3) := by decide +kernel
theorem dX7_corrects_42 : decode cX7_corrects 42 = .ok (.goto (-38), 3) := by decide +kernel
theorem dX7_corrects_45 : decode cX7_corrects 45 = .ok (.iload_n 1, 1) := by decide +kernel
theorem dX7_corrects_46 : decode cX7_corrects 46 = .ok (.ireturn, 1) := by decide +kernel
theorem dX7_wrongDials_0 : decode cX7_wrongDials 0 = .ok (.iconst 0, 1) := by decide +kernel
theorem dX7_wrongDials_1 : decode cX7_wrongDials 1 = .ok (.istore_n 1, 1) := by decide +kernel
theorem dX7_wrongDials_2 : decode cX7_wrongDials 2 = .ok (.iconst 0, 1) := by decide +kernel
theorem dX7_wrongDials_3 : decode cX7_wrongDials 3 = .ok (.istore_n 2, 1) := by decide +kernel
theorem dX7_wrongDials_4 : decode cX7_wrongDials 4 = .ok (.iload_n 2, 1) := by decide +kernel
theorem dX7_wrongDials_5 : decode cX7_wrongDials 5 = .ok (.bipush 7, 2) := by decide +kernel
theorem dX7_wrongDials_7 : decode cX7_wrongDials 7 = .ok (.if_icmp .ge 34, 3) := by decide +kernel
theorem dX7_wrongDials_10 : decode cX7_wrongDials 10 = .ok (.iload_n 1, 1) := by decide +kernel
theorem dX7_wrongDials_11 : decode cX7_wrongDials 11 = .ok (.aload_n 0, 1) := by decide +kernel
theorem dX7_wrongDials_12 : decode cX7_wrongDials 12 = .ok (.iload_n 2, 1) := by decide +kernel
theorem dX7_wrongDials_13 : decode cX7_wrongDials 13 = .ok (.invokevirtual 45, 3) := by decide +kernel
theorem dX7_wrongDials_16 : decode cX7_wrongDials 16 = .ok (.aload_n 0, 1) := by decide +kernel
theorem dX7_wrongDials_17 : decode cX7_wrongDials 17 = .ok (.getfield 7, 3) := by decide +kernel
theorem dX7_wrongDials_20 : decode cX7_wrongDials 20 = .ok (.bipush 6, 2) := by decide +kernel
theorem dX7_wrongDials_22 : decode cX7_wrongDials 22 = .ok (.iload_n 2, 1) := by decide +kernel
theorem dX7_wrongDials_23 : decode cX7_wrongDials 23 = .ok (.iadd, 1) := by decide +kernel
theorem dX7_wrongDials_24 : decode cX7_wrongDials 24 = .ok (.iaload, 1) := by decide +kernel
theorem dX7_wrongDials_25 : decode cX7_wrongDials 25 = .ok (.if_icmp .ne 7, 3) := by decide +kernel
theorem dX7_wrongDials_28 : decode cX7_wrongDials 28 = .ok (.iconst 0, 1) := by decide +kernel
theorem dX7_wrongDials_29 : decode cX7_wrongDials 29 = .ok (.goto 4, 3) := by decide +kernel
theorem dX7_wrongDials_32 : decode cX7_wrongDials 32 = .ok (.iconst 1, 1) := by decide +kernel
theorem dX7_wrongDials_33 : decode cX7_wrongDials 33 = .ok (.iadd, 1) := by decide +kernel
theorem dX7_wrongDials_34 : decode cX7_wrongDials 34 = .ok (.istore_n 1, 1) := by decide +kernel
theorem dX7_wrongDials_35 : decode cX7_wrongDials 35 = .ok (.iinc 2 1, 3) := by decide +kernel
theorem dX7_wrongDials_38 : decode cX7_wrongDials 38 = .ok (.goto (-34), 3) := by decide +kernel
theorem dX7_wrongDials_41 : decode cX7_wrongDials 41 = .ok (.iload_n 1, 1) := by decide +kernel
theorem dX7_wrongDials_42 : decode cX7_wrongDials 42 = .ok (.ireturn, 1) := by decide +kernel
theorem dX7_word_0 : decode cX7_word 0 = .ok (.aload_n 0, 1) := by decide +kernel
theorem dX7_word_1 : decode cX7_word 1 = .ok (.getfield 7, 3) := by decide +kernel
theorem dX7_word_4 : decode cX7_word 4 = .ok (.bipush 6, 2) := by decide +kernel
theorem dX7_word_6 : decode cX7_word 6 = .ok (.iload_n 1, 1) := by decide +kernel
theorem dX7_word_7 : decode cX7_word 7 = .ok (.iadd, 1) := by decide +kernel
theorem dX7_word_8 : decode cX7_word 8 = .ok (.iaload, 1) := by decide +kernel
theorem dX7_word_9 : decode cX7_word 9 = .ok (.aload_n 0, 1) := by decide +kernel
theorem dX7_word_10 : decode cX7_word 10 = .ok (.getfield 7, 3) := by decide +kernel
theorem dX7_word_13 : decode cX7_word 13 = .ok (.bipush 55, 2) := by decide +kernel
theorem dX7_word_15 : decode cX7_word 15 = .ok (.iload_n 1, 1) := by decide +kernel
theorem dX7_word_16 : decode cX7_word 16 = .ok (.iadd, 1) := by decide +kernel
theorem dX7_word_17 : decode cX7_word 17 = .ok (.iaload, 1) := by decide +kernel
theorem dX7_word_18 : decode cX7_word 18 = .ok (.iadd, 1) := by decide +kernel
theorem dX7_word_19 : decode cX7_word 19 = .ok (.istore_n 2, 1) := by decide +kernel
theorem dX7_word_20 : decode cX7_word 20 = .ok (.iload_n 2, 1) := by decide +kernel
theorem dX7_word_21 : decode cX7_word 21 = .ok (.ifCond .ge 7, 3) := by decide +kernel
theorem dX7_word_24 : decode cX7_word 24 = .ok (.iconst 0, 1) := by decide +kernel
theorem dX7_word_25 : decode cX7_word 25 = .ok (.goto 15, 3) := by decide +kernel
theorem dX7_word_28 : decode cX7_word 28 = .ok (.iload_n 2, 1) := by decide +kernel
theorem dX7_word_29 : decode cX7_word 29 = .ok (.ldc 40, 2) := by decide +kernel
theorem dX7_word_31 : decode cX7_word 31 = .ok (.if_icmp .le 8, 3) := by decide +kernel
theorem dX7_word_34 : decode cX7_word 34 = .ok (.ldc 40, 2) := by decide +kernel
theorem dX7_word_36 : decode cX7_word 36 = .ok (.goto 4, 3) := by decide +kernel
theorem dX7_word_39 : decode cX7_word 39 = .ok (.iload_n 2, 1) := by decide +kernel
theorem dX7_word_40 : decode cX7_word 40 = .ok (.ireturn, 1) := by decide +kernel
theorem dX7_weights_0 : decode cX7_weights 0 = .ok (.iconst 0, 1) := by decide +kernel
theorem dX7_weights_1 : decode cX7_weights 1 = .ok (.istore_n 1, 1) := by decide +kernel
theorem dX7_weights_2 : decode cX7_weights 2 = .ok (.iconst 0, 1) := by decide +kernel
theorem dX7_weights_3 : decode cX7_weights 3 = .ok (.istore_n 2, 1) := by decide +kernel
theorem dX7_weights_4 : decode cX7_weights 4 = .ok (.iload_n 2, 1) := by decide +kernel
theorem dX7_weights_5 : decode cX7_weights 5 = .ok (.bipush 7, 2) := by decide +kernel
theorem dX7_weights_7 : decode cX7_weights 7 = .ok (.if_icmp .ge 21, 3) := by decide +kernel
theorem dX7_weights_10 : decode cX7_weights 10 = .ok (.iload_n 1, 1) := by decide +kernel
theorem dX7_weights_11 : decode cX7_weights 11 = .ok (.aload_n 0, 1) := by decide +kernel
theorem dX7_weights_12 : decode cX7_weights 12 = .ok (.getfield 7, 3) := by decide +kernel
theorem dX7_weights_15 : decode cX7_weights 15 = .ok (.bipush 48, 2) := by decide +kernel
theorem dX7_weights_17 : decode cX7_weights 17 = .ok (.iload_n 2, 1) := by decide +kernel
theorem dX7_weights_18 : decode cX7_weights 18 = .ok (.iadd, 1) := by decide +kernel
theorem dX7_weights_19 : decode cX7_weights 19 = .ok (.iaload, 1) := by decide +kernel
theorem dX7_weights_20 : decode cX7_weights 20 = .ok (.iadd, 1) := by decide +kernel
theorem dX7_weights_21 : decode cX7_weights 21 = .ok (.istore_n 1, 1) := by decide +kernel
theorem dX7_weights_22 : decode cX7_weights 22 = .ok (.iinc 2 1, 3) := by decide +kernel
theorem dX7_weights_25 : decode cX7_weights 25 = .ok (.goto (-21), 3) := by decide +kernel
theorem dX7_weights_28 : decode cX7_weights 28 = .ok (.iload_n 1, 1) := by decide +kernel
theorem dX7_weights_29 : decode cX7_weights 29 = .ok (.ireturn, 1) := by decide +kernel
theorem dX7_middle_0 : decode cX7_middle 0 = .ok (.iconst (-1), 1) := by decide +kernel
theorem dX7_middle_1 : decode cX7_middle 1 = .ok (.istore_n 1, 1) := by decide +kernel
theorem dX7_middle_2 : decode cX7_middle 2 = .ok (.iconst 0, 1) := by decide +kernel
theorem dX7_middle_3 : decode cX7_middle 3 = .ok (.istore_n 2, 1) := by decide +kernel
theorem dX7_middle_4 : decode cX7_middle 4 = .ok (.iload_n 2, 1) := by decide +kernel
theorem dX7_middle_5 : decode cX7_middle 5 = .ok (.bipush 7, 2) := by decide +kernel
theorem dX7_middle_7 : decode cX7_middle 7 = .ok (.if_icmp .ge 116, 3) := by decide +kernel
theorem dX7_middle_10 : decode cX7_middle 10 = .ok (.iconst 0, 1) := by decide +kernel
theorem dX7_middle_11 : decode cX7_middle 11 = .ok (.istore_n 3, 1) := by decide +kernel
theorem dX7_middle_12 : decode cX7_middle 12 = .ok (.iconst 0, 1) := by decide +kernel
theorem dX7_middle_13 : decode cX7_middle 13 = .ok (.istore 4, 2) := by decide +kernel
theorem dX7_middle_15 : decode cX7_middle 15 = .ok (.iload 4, 2) := by decide +kernel
theorem dX7_middle_17 : decode cX7_middle 17 = .ok (.bipush 7, 2) := by decide +kernel
theorem dX7_middle_19 : decode cX7_middle 19 = .ok (.if_icmp .ge 40, 3) := by decide +kernel
theorem dX7_middle_22 : decode cX7_middle 22 = .ok (.iload_n 3, 1) := by decide +kernel
theorem dX7_middle_23 : decode cX7_middle 23 = .ok (.aload_n 0, 1) := by decide +kernel
theorem dX7_middle_24 : decode cX7_middle 24 = .ok (.iload 4, 2) := by decide +kernel
theorem dX7_middle_26 : decode cX7_middle 26 = .ok (.invokevirtual 56, 3) := by decide +kernel
theorem dX7_middle_29 : decode cX7_middle 29 = .ok (.aload_n 0, 1) := by decide +kernel
theorem dX7_middle_30 : decode cX7_middle 30 = .ok (.iload_n 2, 1) := by decide +kernel
theorem dX7_middle_31 : decode cX7_middle 31 = .ok (.invokevirtual 56, 3) := by decide +kernel
theorem dX7_middle_34 : decode cX7_middle 34 = .ok (.if_icmp .gt 16, 3) := by decide +kernel
theorem dX7_middle_37 : decode cX7_middle 37 = .ok (.aload_n 0, 1) := by decide +kernel
theorem dX7_middle_38 : decode cX7_middle 38 = .ok (.getfield 7, 3) := by decide +kernel
theorem dX7_middle_41 : decode cX7_middle 41 = .ok (.bipush 48, 2) := by decide +kernel
theorem dX7_middle_43 : decode cX7_middle 43 = .ok (.iload 4, 2) := by decide +kernel
theorem dX7_middle_45 : decode cX7_middle 45 = .ok (.iadd, 1) := by decide +kernel
theorem dX7_middle_46 : decode cX7_middle 46 = .ok (.iaload, 1) := by decide +kernel
theorem dX7_middle_47 : decode cX7_middle 47 = .ok (.goto 4, 3) := by decide +kernel
theorem dX7_middle_50 : decode cX7_middle 50 = .ok (.iconst 0, 1) := by decide +kernel
theorem dX7_middle_51 : decode cX7_middle 51 = .ok (.iadd, 1) := by decide +kernel
theorem dX7_middle_52 : decode cX7_middle 52 = .ok (.istore_n 3, 1) := by decide +kernel
theorem dX7_middle_53 : decode cX7_middle 53 = .ok (.iinc 4 1, 3) := by decide +kernel
theorem dX7_middle_56 : decode cX7_middle 56 = .ok (.goto (-41), 3) := by decide +kernel
theorem dX7_middle_59 : decode cX7_middle 59 = .ok (.aload_n 0, 1) := by decide +kernel
theorem dX7_middle_60 : decode cX7_middle 60 = .ok (.getfield 7, 3) := by decide +kernel
theorem dX7_middle_63 : decode cX7_middle 63 = .ok (.bipush 48, 2) := by decide +kernel
theorem dX7_middle_65 : decode cX7_middle 65 = .ok (.iload_n 2, 1) := by decide +kernel
theorem dX7_middle_66 : decode cX7_middle 66 = .ok (.iadd, 1) := by decide +kernel
theorem dX7_middle_67 : decode cX7_middle 67 = .ok (.iaload, 1) := by decide +kernel
theorem dX7_middle_68 : decode cX7_middle 68 = .ok (.ifCond .le 17, 3) := by decide +kernel
theorem dX7_middle_71 : decode cX7_middle 71 = .ok (.iconst 2, 1) := by decide +kernel
theorem dX7_middle_72 : decode cX7_middle 72 = .ok (.iload_n 3, 1) := by decide +kernel
theorem dX7_middle_73 : decode cX7_middle 73 = .ok (.imul, 1) := by decide +kernel
theorem dX7_middle_74 : decode cX7_middle 74 = .ok (.aload_n 0, 1) := by decide +kernel
theorem dX7_middle_75 : decode cX7_middle 75 = .ok (.invokevirtual 59, 3) := by decide +kernel
theorem dX7_middle_78 : decode cX7_middle 78 = .ok (.if_icmp .lt 7, 3) := by decide +kernel
theorem dX7_middle_81 : decode cX7_middle 81 = .ok (.iconst 1, 1) := by decide +kernel
theorem dX7_middle_82 : decode cX7_middle 82 = .ok (.goto 4, 3) := by decide +kernel
theorem dX7_middle_85 : decode cX7_middle 85 = .ok (.iconst 0, 1) := by decide +kernel
theorem dX7_middle_86 : decode cX7_middle 86 = .ok (.istore 4, 2) := by decide +kernel
theorem dX7_middle_88 : decode cX7_middle 88 = .ok (.iload 4, 2) := by decide +kernel
theorem dX7_middle_90 : decode cX7_middle 90 = .ok (.ifCond .eq 25, 3) := by decide +kernel
theorem dX7_middle_93 : decode cX7_middle 93 = .ok (.iload_n 1, 1) := by decide +kernel
theorem dX7_middle_94 : decode cX7_middle 94 = .ok (.iconst (-1), 1) := by decide +kernel
theorem dX7_middle_95 : decode cX7_middle 95 = .ok (.if_icmp .eq 12, 3) := by decide +kernel
theorem dX7_middle_98 : decode cX7_middle 98 = .ok (.aload_n 0, 1) := by decide +kernel
theorem dX7_middle_99 : decode cX7_middle 99 = .ok (.iload_n 2, 1) := by decide +kernel
theorem dX7_middle_100 : decode cX7_middle 100 = .ok (.invokevirtual 56, 3) := by decide +kernel
theorem dX7_middle_103 : decode cX7_middle 103 = .ok (.iload_n 1, 1) := by decide +kernel
theorem dX7_middle_104 : decode cX7_middle 104 = .ok (.if_icmp .ge 11, 3) := by decide +kernel
theorem dX7_middle_107 : decode cX7_middle 107 = .ok (.aload_n 0, 1) := by decide +kernel
theorem dX7_middle_108 : decode cX7_middle 108 = .ok (.iload_n 2, 1) := by decide +kernel
theorem dX7_middle_109 : decode cX7_middle 109 = .ok (.invokevirtual 56, 3) := by decide +kernel
theorem dX7_middle_112 : decode cX7_middle 112 = .ok (.goto 4, 3) := by decide +kernel
theorem dX7_middle_115 : decode cX7_middle 115 = .ok (.iload_n 1, 1) := by decide +kernel
theorem dX7_middle_116 : decode cX7_middle 116 = .ok (.istore_n 1, 1) := by decide +kernel
theorem dX7_middle_117 : decode cX7_middle 117 = .ok (.iinc 2 1, 3) := by decide +kernel
theorem dX7_middle_120 : decode cX7_middle 120 = .ok (.goto (-116), 3) := by decide +kernel
theorem dX7_middle_123 : decode cX7_middle 123 = .ok (.iload_n 1, 1) := by decide +kernel
theorem dX7_middle_124 : decode cX7_middle 124 = .ok (.ireturn, 1) := by decide +kernel
theorem dX7_behind_0 : decode cX7_behind 0 = .ok (.iload_n 0, 1) := by decide +kernel
theorem dX7_behind_1 : decode cX7_behind 1 = .ok (.iconst 1, 1) := by decide +kernel
theorem dX7_behind_2 : decode cX7_behind 2 = .ok (.iadd, 1) := by decide +kernel
theorem dX7_behind_3 : decode cX7_behind 3 = .ok (.bipush 7, 2) := by decide +kernel
theorem dX7_behind_5 : decode cX7_behind 5 = .ok (.irem, 1) := by decide +kernel
theorem dX7_behind_6 : decode cX7_behind 6 = .ok (.ireturn, 1) := by decide +kernel
theorem dX7_quarrel_0 : decode cX7_quarrel 0 = .ok (.aload_n 0, 1) := by decide +kernel
theorem dX7_quarrel_1 : decode cX7_quarrel 1 = .ok (.iload_n 1, 1) := by decide +kernel
theorem dX7_quarrel_2 : decode cX7_quarrel 2 = .ok (.invokevirtual 56, 3) := by decide +kernel
theorem dX7_quarrel_5 : decode cX7_quarrel 5 = .ok (.aload_n 0, 1) := by decide +kernel
theorem dX7_quarrel_6 : decode cX7_quarrel 6 = .ok (.iload_n 1, 1) := by decide +kernel
theorem dX7_quarrel_7 : decode cX7_quarrel 7 = .ok (.invokestatic 62, 3) := by decide +kernel
theorem dX7_quarrel_10 : decode cX7_quarrel 10 = .ok (.invokevirtual 56, 3) := by decide +kernel
theorem dX7_quarrel_13 : decode cX7_quarrel 13 = .ok (.isub, 1) := by decide +kernel
theorem dX7_quarrel_14 : decode cX7_quarrel 14 = .ok (.invokestatic 49, 3) := by decide +kernel
theorem dX7_quarrel_17 : decode cX7_quarrel 17 = .ok (.aload_n 0, 1) := by decide +kernel
theorem dX7_quarrel_18 : decode cX7_quarrel 18 = .ok (.getfield 7, 3) := by decide +kernel
theorem dX7_quarrel_21 : decode cX7_quarrel 21 = .ok (.iconst 2, 1) := by decide +kernel
theorem dX7_quarrel_22 : decode cX7_quarrel 22 = .ok (.iaload, 1) := by decide +kernel
theorem dX7_quarrel_23 : decode cX7_quarrel 23 = .ok (.if_icmp .le 7, 3) := by decide +kernel
theorem dX7_quarrel_26 : decode cX7_quarrel 26 = .ok (.iconst 1, 1) := by decide +kernel
theorem dX7_quarrel_27 : decode cX7_quarrel 27 = .ok (.goto 4, 3) := by decide +kernel
theorem dX7_quarrel_30 : decode cX7_quarrel 30 = .ok (.iconst 0, 1) := by decide +kernel
theorem dX7_quarrel_31 : decode cX7_quarrel 31 = .ok (.ireturn, 1) := by decide +kernel
theorem dX7_quarrels_0 : decode cX7_quarrels 0 = .ok (.iconst 0, 1) := by decide +kernel
theorem dX7_quarrels_1 : decode cX7_quarrels 1 = .ok (.istore_n 1, 1) := by decide +kernel
theorem dX7_quarrels_2 : decode cX7_quarrels 2 = .ok (.iconst 0, 1) := by decide +kernel
theorem dX7_quarrels_3 : decode cX7_quarrels 3 = .ok (.istore_n 2, 1) := by decide +kernel
theorem dX7_quarrels_4 : decode cX7_quarrels 4 = .ok (.iload_n 2, 1) := by decide +kernel
theorem dX7_quarrels_5 : decode cX7_quarrels 5 = .ok (.bipush 7, 2) := by decide +kernel
theorem dX7_quarrels_7 : decode cX7_quarrels 7 = .ok (.if_icmp .ge 25, 3) := by decide +kernel
theorem dX7_quarrels_10 : decode cX7_quarrels 10 = .ok (.iload_n 1, 1) := by decide +kernel
theorem dX7_quarrels_11 : decode cX7_quarrels 11 = .ok (.aload_n 0, 1) := by decide +kernel
theorem dX7_quarrels_12 : decode cX7_quarrels 12 = .ok (.iload_n 2, 1) := by decide +kernel
theorem dX7_quarrels_13 : decode cX7_quarrels 13 = .ok (.invokevirtual 65, 3) := by decide +kernel
theorem dX7_quarrels_16 : decode cX7_quarrels 16 = .ok (.ifCond .eq 7, 3) := by decide +kernel
theorem dX7_quarrels_19 : decode cX7_quarrels 19 = .ok (.iconst 1, 1) := by decide +kernel
theorem dX7_quarrels_20 : decode cX7_quarrels 20 = .ok (.goto 4, 3) := by decide +kernel
theorem dX7_quarrels_23 : decode cX7_quarrels 23 = .ok (.iconst 0, 1) := by decide +kernel
theorem dX7_quarrels_24 : decode cX7_quarrels 24 = .ok (.iadd, 1) := by decide +kernel
theorem dX7_quarrels_25 : decode cX7_quarrels 25 = .ok (.istore_n 1, 1) := by decide +kernel
theorem dX7_quarrels_26 : decode cX7_quarrels 26 = .ok (.iinc 2 1, 3) := by decide +kernel
theorem dX7_quarrels_29 : decode cX7_quarrels 29 = .ok (.goto (-25), 3) := by decide +kernel
theorem dX7_quarrels_32 : decode cX7_quarrels 32 = .ok (.iload_n 1, 1) := by decide +kernel
theorem dX7_quarrels_33 : decode cX7_quarrels 33 = .ok (.ireturn, 1) := by decide +kernel
theorem dX7_loses_0 : decode cX7_loses 0 = .ok (.aload_n 0, 1) := by decide +kernel
theorem dX7_loses_1 : decode cX7_loses 1 = .ok (.getfield 7, 3) := by decide +kernel
theorem dX7_loses_4 : decode cX7_loses 4 = .ok (.bipush 48, 2) := by decide +kernel
theorem dX7_loses_6 : decode cX7_loses 6 = .ok (.iload_n 1, 1) := by decide +kernel
theorem dX7_loses_7 : decode cX7_loses 7 = .ok (.iadd, 1) := by decide +kernel
theorem dX7_loses_8 : decode cX7_loses 8 = .ok (.iaload, 1) := by decide +kernel
theorem dX7_loses_9 : decode cX7_loses 9 = .ok (.ifCond .le 29, 3) := by decide +kernel
theorem dX7_loses_12 : decode cX7_loses 12 = .ok (.aload_n 0, 1) := by decide +kernel
theorem dX7_loses_13 : decode cX7_loses 13 = .ok (.getfield 7, 3) := by decide +kernel
theorem dX7_loses_16 : decode cX7_loses 16 = .ok (.bipush 48, 2) := by decide +kernel
theorem dX7_loses_18 : decode cX7_loses 18 = .ok (.iload_n 1, 1) := by decide +kernel
theorem dX7_loses_19 : decode cX7_loses 19 = .ok (.iadd, 1) := by decide +kernel
theorem dX7_loses_20 : decode cX7_loses 20 = .ok (.dup2, 1) := by decide +kernel
theorem dX7_loses_21 : decode cX7_loses 21 = .ok (.iaload, 1) := by decide +kernel
theorem dX7_loses_22 : decode cX7_loses 22 = .ok (.iconst 1, 1) := by decide +kernel
theorem dX7_loses_23 : decode cX7_loses 23 = .ok (.isub, 1) := by decide +kernel
theorem dX7_loses_24 : decode cX7_loses 24 = .ok (.iastore, 1) := by decide +kernel
theorem dX7_loses_25 : decode cX7_loses 25 = .ok (.aload_n 0, 1) := by decide +kernel
theorem dX7_loses_26 : decode cX7_loses 26 = .ok (.getfield 7, 3) := by decide +kernel
theorem dX7_loses_29 : decode cX7_loses 29 = .ok (.bipush 62, 2) := by decide +kernel
theorem dX7_loses_31 : decode cX7_loses 31 = .ok (.iload_n 1, 1) := by decide +kernel
theorem dX7_loses_32 : decode cX7_loses 32 = .ok (.iadd, 1) := by decide +kernel
theorem dX7_loses_33 : decode cX7_loses 33 = .ok (.dup2, 1) := by decide +kernel
theorem dX7_loses_34 : decode cX7_loses 34 = .ok (.iaload, 1) := by decide +kernel
theorem dX7_loses_35 : decode cX7_loses 35 = .ok (.iconst 1, 1) := by decide +kernel
theorem dX7_loses_36 : decode cX7_loses 36 = .ok (.iadd, 1) := by decide +kernel
theorem dX7_loses_37 : decode cX7_loses 37 = .ok (.iastore, 1) := by decide +kernel
theorem dX7_loses_38 : decode cX7_loses 38 = .ok (.return_, 1) := by decide +kernel
theorem dX7_votes_0 : decode cX7_votes 0 = .ok (.aload_n 0, 1) := by decide +kernel
theorem dX7_votes_1 : decode cX7_votes 1 = .ok (.invokevirtual 69, 3) := by decide +kernel
theorem dX7_votes_4 : decode cX7_votes 4 = .ok (.istore_n 1, 1) := by decide +kernel
theorem dX7_votes_5 : decode cX7_votes 5 = .ok (.aload_n 0, 1) := by decide +kernel
theorem dX7_votes_6 : decode cX7_votes 6 = .ok (.getfield 7, 3) := by decide +kernel
theorem dX7_votes_9 : decode cX7_votes 9 = .ok (.iconst 4, 1) := by decide +kernel
theorem dX7_votes_10 : decode cX7_votes 10 = .ok (.dup2, 1) := by decide +kernel
theorem dX7_votes_11 : decode cX7_votes 11 = .ok (.iaload, 1) := by decide +kernel
theorem dX7_votes_12 : decode cX7_votes 12 = .ok (.iconst 1, 1) := by decide +kernel
theorem dX7_votes_13 : decode cX7_votes 13 = .ok (.iadd, 1) := by decide +kernel
theorem dX7_votes_14 : decode cX7_votes 14 = .ok (.iastore, 1) := by decide +kernel
theorem dX7_votes_15 : decode cX7_votes 15 = .ok (.aload_n 0, 1) := by decide +kernel
theorem dX7_votes_16 : decode cX7_votes 16 = .ok (.getfield 7, 3) := by decide +kernel
theorem dX7_votes_19 : decode cX7_votes 19 = .ok (.iconst 5, 1) := by decide +kernel
theorem dX7_votes_20 : decode cX7_votes 20 = .ok (.dup2, 1) := by decide +kernel
theorem dX7_votes_21 : decode cX7_votes 21 = .ok (.iaload, 1) := by decide +kernel
theorem dX7_votes_22 : decode cX7_votes 22 = .ok (.iload_n 1, 1) := by decide +kernel
theorem dX7_votes_23 : decode cX7_votes 23 = .ok (.aload_n 0, 1) := by decide +kernel
theorem dX7_votes_24 : decode cX7_votes 24 = .ok (.getfield 7, 3) := by decide +kernel
theorem dX7_votes_27 : decode cX7_votes 27 = .ok (.iconst 1, 1) := by decide +kernel
theorem dX7_votes_28 : decode cX7_votes 28 = .ok (.iaload, 1) := by decide +kernel
theorem dX7_votes_29 : decode cX7_votes 29 = .ok (.if_icmp .le 7, 3) := by decide +kernel
theorem dX7_votes_32 : decode cX7_votes 32 = .ok (.iconst 0, 1) := by decide +kernel
theorem dX7_votes_33 : decode cX7_votes 33 = .ok (.goto 4, 3) := by decide +kernel
theorem dX7_votes_36 : decode cX7_votes 36 = .ok (.iconst 1, 1) := by decide +kernel
theorem dX7_votes_37 : decode cX7_votes 37 = .ok (.iadd, 1) := by decide +kernel
theorem dX7_votes_38 : decode cX7_votes 38 = .ok (.iastore, 1) := by decide +kernel
theorem dX7_votes_39 : decode cX7_votes 39 = .ok (.aload_n 0, 1) := by decide +kernel
theorem dX7_votes_40 : decode cX7_votes 40 = .ok (.getfield 7, 3) := by decide +kernel
theorem dX7_votes_43 : decode cX7_votes 43 = .ok (.iconst 1, 1) := by decide +kernel
theorem dX7_votes_44 : decode cX7_votes 44 = .ok (.iload_n 1, 1) := by decide +kernel
theorem dX7_votes_45 : decode cX7_votes 45 = .ok (.aload_n 0, 1) := by decide +kernel
theorem dX7_votes_46 : decode cX7_votes 46 = .ok (.getfield 7, 3) := by decide +kernel
theorem dX7_votes_49 : decode cX7_votes 49 = .ok (.iconst 1, 1) := by decide +kernel
theorem dX7_votes_50 : decode cX7_votes 50 = .ok (.iaload, 1) := by decide +kernel
theorem dX7_votes_51 : decode cX7_votes 51 = .ok (.if_icmp .le 7, 3) := by decide +kernel
theorem dX7_votes_54 : decode cX7_votes 54 = .ok (.iload_n 1, 1) := by decide +kernel
theorem dX7_votes_55 : decode cX7_votes 55 = .ok (.goto 9, 3) := by decide +kernel
theorem dX7_votes_58 : decode cX7_votes 58 = .ok (.aload_n 0, 1) := by decide +kernel
theorem dX7_votes_59 : decode cX7_votes 59 = .ok (.getfield 7, 3) := by decide +kernel
theorem dX7_votes_62 : decode cX7_votes 62 = .ok (.iconst 1, 1) := by decide +kernel
theorem dX7_votes_63 : decode cX7_votes 63 = .ok (.iaload, 1) := by decide +kernel
theorem dX7_votes_64 : decode cX7_votes 64 = .ok (.iastore, 1) := by decide +kernel
theorem dX7_votes_65 : decode cX7_votes 65 = .ok (.iconst 0, 1) := by decide +kernel
theorem dX7_votes_66 : decode cX7_votes 66 = .ok (.istore_n 2, 1) := by decide +kernel
theorem dX7_votes_67 : decode cX7_votes 67 = .ok (.iload_n 2, 1) := by decide +kernel
theorem dX7_votes_68 : decode cX7_votes 68 = .ok (.bipush 7, 2) := by decide +kernel
theorem dX7_votes_70 : decode cX7_votes 70 = .ok (.if_icmp .ge 77, 3) := by decide +kernel
theorem dX7_votes_73 : decode cX7_votes 73 = .ok (.aload_n 0, 1) := by decide +kernel
theorem dX7_votes_74 : decode cX7_votes 74 = .ok (.iload_n 2, 1) := by decide +kernel
theorem dX7_votes_75 : decode cX7_votes 75 = .ok (.invokevirtual 65, 3) := by decide +kernel
theorem dX7_votes_78 : decode cX7_votes 78 = .ok (.ifCond .eq 63, 3) := by decide +kernel
theorem dX7_votes_81 : decode cX7_votes 81 = .ok (.aload_n 0, 1) := by decide +kernel
theorem dX7_votes_82 : decode cX7_votes 82 = .ok (.iload_n 2, 1) := by decide +kernel
theorem dX7_votes_83 : decode cX7_votes 83 = .ok (.invokevirtual 56, 3) := by decide +kernel
theorem dX7_votes_86 : decode cX7_votes 86 = .ok (.aload_n 0, 1) := by decide +kernel
theorem dX7_votes_87 : decode cX7_votes 87 = .ok (.getfield 7, 3) := by decide +kernel
theorem dX7_votes_90 : decode cX7_votes 90 = .ok (.iconst 1, 1) := by decide +kernel
theorem dX7_votes_91 : decode cX7_votes 91 = .ok (.iaload, 1) := by decide +kernel
theorem dX7_votes_92 : decode cX7_votes 92 = .ok (.isub, 1) := by decide +kernel
theorem dX7_votes_93 : decode cX7_votes 93 = .ok (.invokestatic 49, 3) := by decide +kernel
theorem dX7_votes_96 : decode cX7_votes 96 = .ok (.istore_n 3, 1) := by decide +kernel
theorem dX7_votes_97 : decode cX7_votes 97 = .ok (.aload_n 0, 1) := by decide +kernel
theorem dX7_votes_98 : decode cX7_votes 98 = .ok (.iload_n 2, 1) := by decide +kernel
theorem dX7_votes_99 : decode cX7_votes 99 = .ok (.invokestatic 62, 3) := by decide +kernel
theorem dX7_votes_102 : decode cX7_votes 102 = .ok (.invokevirtual 56, 3) := by decide +kernel
theorem dX7_votes_105 : decode cX7_votes 105 = .ok (.aload_n 0, 1) := by decide +kernel
theorem dX7_votes_106 : decode cX7_votes 106 = .ok (.getfield 7, 3) := by decide +kernel
theorem dX7_votes_109 : decode cX7_votes 109 = .ok (.iconst 1, 1) := by decide +kernel
theorem dX7_votes_110 : decode cX7_votes 110 = .ok (.iaload, 1) := by decide +kernel
theorem dX7_votes_111 : decode cX7_votes 111 = .ok (.isub, 1) := by decide +kernel
theorem dX7_votes_112 : decode cX7_votes 112 = .ok (.invokestatic 49, 3) := by decide +kernel
theorem dX7_votes_115 : decode cX7_votes 115 = .ok (.istore 4, 2) := by decide +kernel
theorem dX7_votes_117 : decode cX7_votes 117 = .ok (.iload_n 3, 1) := by decide +kernel
theorem dX7_votes_118 : decode cX7_votes 118 = .ok (.iload 4, 2) := by decide +kernel
theorem dX7_votes_120 : decode cX7_votes 120 = .ok (.if_icmp .eq 21, 3) := by decide +kernel
theorem dX7_votes_123 : decode cX7_votes 123 = .ok (.aload_n 0, 1) := by decide +kernel
theorem dX7_votes_124 : decode cX7_votes 124 = .ok (.iload_n 3, 1) := by decide +kernel
theorem dX7_votes_125 : decode cX7_votes 125 = .ok (.iload 4, 2) := by decide +kernel
theorem dX7_votes_127 : decode cX7_votes 127 = .ok (.if_icmp .le 7, 3) := by decide +kernel
theorem dX7_votes_130 : decode cX7_votes 130 = .ok (.iload_n 2, 1) := by decide +kernel
theorem dX7_votes_131 : decode cX7_votes 131 = .ok (.goto 7, 3) := by decide +kernel
theorem dX7_votes_134 : decode cX7_votes 134 = .ok (.iload_n 2, 1) := by decide +kernel
theorem dX7_votes_135 : decode cX7_votes 135 = .ok (.invokestatic 62, 3) := by decide +kernel
theorem dX7_votes_138 : decode cX7_votes 138 = .ok (.invokevirtual 72, 3) := by decide +kernel
theorem dX7_votes_141 : decode cX7_votes 141 = .ok (.iinc 2 1, 3) := by decide +kernel
theorem dX7_votes_144 : decode cX7_votes 144 = .ok (.goto (-77), 3) := by decide +kernel
theorem dX7_votes_147 : decode cX7_votes 147 = .ok (.aload_n 0, 1) := by decide +kernel
theorem dX7_votes_148 : decode cX7_votes 148 = .ok (.getfield 7, 3) := by decide +kernel
theorem dX7_votes_151 : decode cX7_votes 151 = .ok (.iconst 1, 1) := by decide +kernel
theorem dX7_votes_152 : decode cX7_votes 152 = .ok (.iaload, 1) := by decide +kernel
theorem dX7_votes_153 : decode cX7_votes 153 = .ok (.ireturn, 1) := by decide +kernel
theorem dX7_tick_0 : decode cX7_tick 0 = .ok (.aload_n 0, 1) := by decide +kernel
theorem dX7_tick_1 : decode cX7_tick 1 = .ok (.iconst 0, 1) := by decide +kernel
theorem dX7_tick_2 : decode cX7_tick 2 = .ok (.putfield 25, 3) := by decide +kernel
theorem dX7_tick_5 : decode cX7_tick 5 = .ok (.iload_n 1, 1) := by decide +kernel
theorem dX7_tick_6 : decode cX7_tick 6 = .ok (.iconst 1, 1) := by decide +kernel
theorem dX7_tick_7 : decode cX7_tick 7 = .ok (.bipush 99, 2) := by decide +kernel
theorem dX7_tick_9 : decode cX7_tick 9 = .ok (.invokestatic 29, 3) := by decide +kernel
theorem dX7_tick_12 : decode cX7_tick 12 = .ok (.ifCond .ne 9, 3) := by decide +kernel
theorem dX7_tick_15 : decode cX7_tick 15 = .ok (.aload_n 0, 1) := by decide +kernel
theorem dX7_tick_16 : decode cX7_tick 16 = .ok (.iconst 1, 1) := by decide +kernel
theorem dX7_tick_17 : decode cX7_tick 17 = .ok (.invokevirtual 76, 3) := by decide +kernel
theorem dX7_tick_20 : decode cX7_tick 20 = .ok (.ireturn, 1) := by decide +kernel
theorem dX7_tick_21 : decode cX7_tick 21 = .ok (.aload_n 0, 1) := by decide +kernel
theorem dX7_tick_22 : decode cX7_tick 22 = .ok (.invokevirtual 79, 3) := by decide +kernel
theorem dX7_tick_25 : decode cX7_tick 25 = .ok (.aload_n 0, 1) := by decide +kernel
theorem dX7_tick_26 : decode cX7_tick 26 = .ok (.iload_n 1, 1) := by decide +kernel
theorem dX7_tick_27 : decode cX7_tick 27 = .ok (.invokevirtual 82, 3) := by decide +kernel
theorem dX7_tick_30 : decode cX7_tick 30 = .ok (.ireturn, 1) := by decide +kernel
theorem dX7_vote_0 : decode cX7_vote 0 = .ok (.aload_n 0, 1) := by decide +kernel
theorem dX7_vote_1 : decode cX7_vote 1 = .ok (.iconst 0, 1) := by decide +kernel
theorem dX7_vote_2 : decode cX7_vote 2 = .ok (.putfield 25, 3) := by decide +kernel
theorem dX7_vote_5 : decode cX7_vote 5 = .ok (.aload_n 0, 1) := by decide +kernel
theorem dX7_vote_6 : decode cX7_vote 6 = .ok (.invokevirtual 59, 3) := by decide +kernel
theorem dX7_vote_9 : decode cX7_vote 9 = .ok (.ifCond .ne 9, 3) := by decide +kernel
theorem dX7_vote_12 : decode cX7_vote 12 = .ok (.aload_n 0, 1) := by decide +kernel
theorem dX7_vote_13 : decode cX7_vote 13 = .ok (.iconst 1, 1) := by decide +kernel
theorem dX7_vote_14 : decode cX7_vote 14 = .ok (.invokevirtual 76, 3) := by decide +kernel
theorem dX7_vote_17 : decode cX7_vote 17 = .ok (.ireturn, 1) := by decide +kernel
theorem dX7_vote_18 : decode cX7_vote 18 = .ok (.aload_n 0, 1) := by decide +kernel
theorem dX7_vote_19 : decode cX7_vote 19 = .ok (.invokevirtual 79, 3) := by decide +kernel
theorem dX7_vote_22 : decode cX7_vote 22 = .ok (.aload_n 0, 1) := by decide +kernel
theorem dX7_vote_23 : decode cX7_vote 23 = .ok (.invokevirtual 85, 3) := by decide +kernel
theorem dX7_vote_26 : decode cX7_vote 26 = .ok (.ireturn, 1) := by decide +kernel
theorem dX7_correct_0 : decode cX7_correct 0 = .ok (.aload_n 0, 1) := by decide +kernel
theorem dX7_correct_1 : decode cX7_correct 1 = .ok (.iconst 0, 1) := by decide +kernel
theorem dX7_correct_2 : decode cX7_correct 2 = .ok (.putfield 25, 3) := by decide +kernel
theorem dX7_correct_5 : decode cX7_correct 5 = .ok (.aload_n 0, 1) := by decide +kernel
theorem dX7_correct_6 : decode cX7_correct 6 = .ok (.invokevirtual 79, 3) := by decide +kernel
theorem dX7_correct_9 : decode cX7_correct 9 = .ok (.aload_n 0, 1) := by decide +kernel
theorem dX7_correct_10 : decode cX7_correct 10 = .ok (.invokevirtual 88, 3) := by decide +kernel
theorem dX7_correct_13 : decode cX7_correct 13 = .ok (.ireturn, 1) := by decide +kernel
theorem dX7_put_0 : decode cX7_put 0 = .ok (.aload_n 0, 1) := by decide +kernel
theorem dX7_put_1 : decode cX7_put 1 = .ok (.iconst 0, 1) := by decide +kernel
theorem dX7_put_2 : decode cX7_put 2 = .ok (.putfield 25, 3) := by decide +kernel
theorem dX7_put_5 : decode cX7_put 5 = .ok (.iload_n 1, 1) := by decide +kernel
theorem dX7_put_6 : decode cX7_put 6 = .ok (.invokestatic 91, 3) := by decide +kernel
theorem dX7_put_9 : decode cX7_put 9 = .ok (.ifCond .ne 9, 3) := by decide +kernel
theorem dX7_put_12 : decode cX7_put 12 = .ok (.aload_n 0, 1) := by decide +kernel
theorem dX7_put_13 : decode cX7_put 13 = .ok (.iconst 1, 1) := by decide +kernel
theorem dX7_put_14 : decode cX7_put 14 = .ok (.invokevirtual 76, 3) := by decide +kernel
theorem dX7_put_17 : decode cX7_put 17 = .ok (.ireturn, 1) := by decide +kernel
theorem dX7_put_18 : decode cX7_put 18 = .ok (.iload_n 2, 1) := by decide +kernel
theorem dX7_put_19 : decode cX7_put 19 = .ok (.iconst 0, 1) := by decide +kernel
theorem dX7_put_20 : decode cX7_put 20 = .ok (.ldc 40, 2) := by decide +kernel
theorem dX7_put_22 : decode cX7_put 22 = .ok (.invokestatic 29, 3) := by decide +kernel
theorem dX7_put_25 : decode cX7_put 25 = .ok (.ifCond .ne 9, 3) := by decide +kernel
theorem dX7_put_28 : decode cX7_put 28 = .ok (.aload_n 0, 1) := by decide +kernel
theorem dX7_put_29 : decode cX7_put 29 = .ok (.iconst 2, 1) := by decide +kernel
theorem dX7_put_30 : decode cX7_put 30 = .ok (.invokevirtual 76, 3) := by decide +kernel
theorem dX7_put_33 : decode cX7_put 33 = .ok (.ireturn, 1) := by decide +kernel
theorem dX7_put_34 : decode cX7_put 34 = .ok (.aload_n 0, 1) := by decide +kernel
theorem dX7_put_35 : decode cX7_put 35 = .ok (.invokevirtual 79, 3) := by decide +kernel
theorem dX7_put_38 : decode cX7_put 38 = .ok (.aload_n 0, 1) := by decide +kernel
theorem dX7_put_39 : decode cX7_put 39 = .ok (.getfield 7, 3) := by decide +kernel
theorem dX7_put_42 : decode cX7_put 42 = .ok (.bipush 6, 2) := by decide +kernel
theorem dX7_put_44 : decode cX7_put 44 = .ok (.iload_n 1, 1) := by decide +kernel
theorem dX7_put_45 : decode cX7_put 45 = .ok (.iadd, 1) := by decide +kernel
theorem dX7_put_46 : decode cX7_put 46 = .ok (.iaload, 1) := by decide +kernel
theorem dX7_put_47 : decode cX7_put 47 = .ok (.istore_n 3, 1) := by decide +kernel
theorem dX7_put_48 : decode cX7_put 48 = .ok (.aload_n 0, 1) := by decide +kernel
theorem dX7_put_49 : decode cX7_put 49 = .ok (.iload_n 1, 1) := by decide +kernel
theorem dX7_put_50 : decode cX7_put 50 = .ok (.iload_n 2, 1) := by decide +kernel
theorem dX7_put_51 : decode cX7_put 51 = .ok (.invokevirtual 52, 3) := by decide +kernel
theorem dX7_put_54 : decode cX7_put 54 = .ok (.iload_n 3, 1) := by decide +kernel
theorem dX7_put_55 : decode cX7_put 55 = .ok (.ireturn, 1) := by decide +kernel
theorem dX7_drift_0 : decode cX7_drift 0 = .ok (.aload_n 0, 1) := by decide +kernel
theorem dX7_drift_1 : decode cX7_drift 1 = .ok (.iconst 0, 1) := by decide +kernel
theorem dX7_drift_2 : decode cX7_drift 2 = .ok (.putfield 25, 3) := by decide +kernel
theorem dX7_drift_5 : decode cX7_drift 5 = .ok (.iload_n 1, 1) := by decide +kernel
theorem dX7_drift_6 : decode cX7_drift 6 = .ok (.invokestatic 91, 3) := by decide +kernel
theorem dX7_drift_9 : decode cX7_drift 9 = .ok (.ifCond .ne 9, 3) := by decide +kernel
theorem dX7_drift_12 : decode cX7_drift 12 = .ok (.aload_n 0, 1) := by decide +kernel
theorem dX7_drift_13 : decode cX7_drift 13 = .ok (.iconst 1, 1) := by decide +kernel
theorem dX7_drift_14 : decode cX7_drift 14 = .ok (.invokevirtual 76, 3) := by decide +kernel
theorem dX7_drift_17 : decode cX7_drift 17 = .ok (.ireturn, 1) := by decide +kernel
theorem dX7_drift_18 : decode cX7_drift 18 = .ok (.iload_n 2, 1) := by decide +kernel
theorem dX7_drift_19 : decode cX7_drift 19 = .ok (.bipush (-5), 2) := by decide +kernel
theorem dX7_drift_21 : decode cX7_drift 21 = .ok (.iconst 5, 1) := by decide +kernel
theorem dX7_drift_22 : decode cX7_drift 22 = .ok (.invokestatic 29, 3) := by decide +kernel
theorem dX7_drift_25 : decode cX7_drift 25 = .ok (.ifCond .ne 9, 3) := by decide +kernel
theorem dX7_drift_28 : decode cX7_drift 28 = .ok (.aload_n 0, 1) := by decide +kernel
theorem dX7_drift_29 : decode cX7_drift 29 = .ok (.iconst 2, 1) := by decide +kernel
theorem dX7_drift_30 : decode cX7_drift 30 = .ok (.invokevirtual 76, 3) := by decide +kernel
theorem dX7_drift_33 : decode cX7_drift 33 = .ok (.ireturn, 1) := by decide +kernel
theorem dX7_drift_34 : decode cX7_drift 34 = .ok (.aload_n 0, 1) := by decide +kernel
theorem dX7_drift_35 : decode cX7_drift 35 = .ok (.invokevirtual 79, 3) := by decide +kernel
theorem dX7_drift_38 : decode cX7_drift 38 = .ok (.aload_n 0, 1) := by decide +kernel
theorem dX7_drift_39 : decode cX7_drift 39 = .ok (.getfield 7, 3) := by decide +kernel
theorem dX7_drift_42 : decode cX7_drift 42 = .ok (.bipush 13, 2) := by decide +kernel
theorem dX7_drift_44 : decode cX7_drift 44 = .ok (.iload_n 1, 1) := by decide +kernel
theorem dX7_drift_45 : decode cX7_drift 45 = .ok (.iadd, 1) := by decide +kernel
theorem dX7_drift_46 : decode cX7_drift 46 = .ok (.iaload, 1) := by decide +kernel
theorem dX7_drift_47 : decode cX7_drift 47 = .ok (.istore_n 3, 1) := by decide +kernel
theorem dX7_drift_48 : decode cX7_drift 48 = .ok (.aload_n 0, 1) := by decide +kernel
theorem dX7_drift_49 : decode cX7_drift 49 = .ok (.getfield 7, 3) := by decide +kernel
theorem dX7_drift_52 : decode cX7_drift 52 = .ok (.bipush 13, 2) := by decide +kernel
theorem dX7_drift_54 : decode cX7_drift 54 = .ok (.iload_n 1, 1) := by decide +kernel
theorem dX7_drift_55 : decode cX7_drift 55 = .ok (.iadd, 1) := by decide +kernel
theorem dX7_drift_56 : decode cX7_drift 56 = .ok (.iload_n 2, 1) := by decide +kernel
theorem dX7_drift_57 : decode cX7_drift 57 = .ok (.iastore, 1) := by decide +kernel
theorem dX7_drift_58 : decode cX7_drift 58 = .ok (.iload_n 3, 1) := by decide +kernel
theorem dX7_drift_59 : decode cX7_drift 59 = .ok (.ireturn, 1) := by decide +kernel
theorem dX7_warden_0 : decode cX7_warden 0 = .ok (.aload_n 0, 1) := by decide +kernel
theorem dX7_warden_1 : decode cX7_warden 1 = .ok (.iconst 0, 1) := by decide +kernel
theorem dX7_warden_2 : decode cX7_warden 2 = .ok (.putfield 25, 3) := by decide +kernel
theorem dX7_warden_5 : decode cX7_warden 5 = .ok (.iload_n 1, 1) := by decide +kernel
theorem dX7_warden_6 : decode cX7_warden 6 = .ok (.invokestatic 91, 3) := by decide +kernel
theorem dX7_warden_9 : decode cX7_warden 9 = .ok (.ifCond .ne 9, 3) := by decide +kernel
theorem dX7_warden_12 : decode cX7_warden 12 = .ok (.aload_n 0, 1) := by decide +kernel
theorem dX7_warden_13 : decode cX7_warden 13 = .ok (.iconst 1, 1) := by decide +kernel
theorem dX7_warden_14 : decode cX7_warden 14 = .ok (.invokevirtual 76, 3) := by decide +kernel
theorem dX7_warden_17 : decode cX7_warden 17 = .ok (.ireturn, 1) := by decide +kernel
theorem dX7_warden_18 : decode cX7_warden 18 = .ok (.iload_n 2, 1) := by decide +kernel
theorem dX7_warden_19 : decode cX7_warden 19 = .ok (.iconst 0, 1) := by decide +kernel
theorem dX7_warden_20 : decode cX7_warden 20 = .ok (.bipush 9, 2) := by decide +kernel
theorem dX7_warden_22 : decode cX7_warden 22 = .ok (.invokestatic 29, 3) := by decide +kernel
theorem dX7_warden_25 : decode cX7_warden 25 = .ok (.ifCond .eq 14, 3) := by decide +kernel
theorem dX7_warden_28 : decode cX7_warden 28 = .ok (.iload_n 3, 1) := by decide +kernel
theorem dX7_warden_29 : decode cX7_warden 29 = .ok (.bipush (-60), 2) := by decide +kernel
theorem dX7_warden_31 : decode cX7_warden 31 = .ok (.bipush 60, 2) := by decide +kernel
theorem dX7_warden_33 : decode cX7_warden 33 = .ok (.invokestatic 29, 3) := by decide +kernel
theorem dX7_warden_36 : decode cX7_warden 36 = .ok (.ifCond .ne 9, 3) := by decide +kernel
theorem dX7_warden_39 : decode cX7_warden 39 = .ok (.aload_n 0, 1) := by decide +kernel
theorem dX7_warden_40 : decode cX7_warden 40 = .ok (.iconst 2, 1) := by decide +kernel
theorem dX7_warden_41 : decode cX7_warden 41 = .ok (.invokevirtual 76, 3) := by decide +kernel
theorem dX7_warden_44 : decode cX7_warden 44 = .ok (.ireturn, 1) := by decide +kernel
theorem dX7_warden_45 : decode cX7_warden 45 = .ok (.aload_n 0, 1) := by decide +kernel
theorem dX7_warden_46 : decode cX7_warden 46 = .ok (.invokevirtual 79, 3) := by decide +kernel
theorem dX7_warden_49 : decode cX7_warden 49 = .ok (.aload_n 0, 1) := by decide +kernel
theorem dX7_warden_50 : decode cX7_warden 50 = .ok (.getfield 7, 3) := by decide +kernel
theorem dX7_warden_53 : decode cX7_warden 53 = .ok (.bipush 48, 2) := by decide +kernel
theorem dX7_warden_55 : decode cX7_warden 55 = .ok (.iload_n 1, 1) := by decide +kernel
theorem dX7_warden_56 : decode cX7_warden 56 = .ok (.iadd, 1) := by decide +kernel
theorem dX7_warden_57 : decode cX7_warden 57 = .ok (.iaload, 1) := by decide +kernel
theorem dX7_warden_58 : decode cX7_warden 58 = .ok (.istore 4, 2) := by decide +kernel
theorem dX7_warden_60 : decode cX7_warden 60 = .ok (.aload_n 0, 1) := by decide +kernel
theorem dX7_warden_61 : decode cX7_warden 61 = .ok (.getfield 7, 3) := by decide +kernel
theorem dX7_warden_64 : decode cX7_warden 64 = .ok (.bipush 48, 2) := by decide +kernel
theorem dX7_warden_66 : decode cX7_warden 66 = .ok (.iload_n 1, 1) := by decide +kernel
theorem dX7_warden_67 : decode cX7_warden 67 = .ok (.iadd, 1) := by decide +kernel
theorem dX7_warden_68 : decode cX7_warden 68 = .ok (.iload_n 2, 1) := by decide +kernel
theorem dX7_warden_69 : decode cX7_warden 69 = .ok (.iastore, 1) := by decide +kernel
theorem dX7_warden_70 : decode cX7_warden 70 = .ok (.aload_n 0, 1) := by decide +kernel
theorem dX7_warden_71 : decode cX7_warden 71 = .ok (.getfield 7, 3) := by decide +kernel
theorem dX7_warden_74 : decode cX7_warden 74 = .ok (.bipush 55, 2) := by decide +kernel
theorem dX7_warden_76 : decode cX7_warden 76 = .ok (.iload_n 1, 1) := by decide +kernel
theorem dX7_warden_77 : decode cX7_warden 77 = .ok (.iadd, 1) := by decide +kernel
theorem dX7_warden_78 : decode cX7_warden 78 = .ok (.iload_n 3, 1) := by decide +kernel
theorem dX7_warden_79 : decode cX7_warden 79 = .ok (.iastore, 1) := by decide +kernel
theorem dX7_warden_80 : decode cX7_warden 80 = .ok (.iload 4, 2) := by decide +kernel
theorem dX7_warden_82 : decode cX7_warden 82 = .ok (.ireturn, 1) := by decide +kernel
theorem dX7_set_0 : decode cX7_set 0 = .ok (.aload_n 0, 1) := by decide +kernel
theorem dX7_set_1 : decode cX7_set 1 = .ok (.iconst 0, 1) := by decide +kernel
theorem dX7_set_2 : decode cX7_set 2 = .ok (.putfield 25, 3) := by decide +kernel
theorem dX7_set_5 : decode cX7_set 5 = .ok (.iload_n 1, 1) := by decide +kernel
theorem dX7_set_6 : decode cX7_set 6 = .ok (.iconst 0, 1) := by decide +kernel
theorem dX7_set_7 : decode cX7_set 7 = .ok (.iconst 1, 1) := by decide +kernel
theorem dX7_set_8 : decode cX7_set 8 = .ok (.invokestatic 29, 3) := by decide +kernel
theorem dX7_set_11 : decode cX7_set 11 = .ok (.ifCond .ne 9, 3) := by decide +kernel
theorem dX7_set_14 : decode cX7_set 14 = .ok (.aload_n 0, 1) := by decide +kernel
theorem dX7_set_15 : decode cX7_set 15 = .ok (.iconst 1, 1) := by decide +kernel
theorem dX7_set_16 : decode cX7_set 16 = .ok (.invokevirtual 76, 3) := by decide +kernel
theorem dX7_set_19 : decode cX7_set 19 = .ok (.ireturn, 1) := by decide +kernel
theorem dX7_set_20 : decode cX7_set 20 = .ok (.iload_n 2, 1) := by decide +kernel
theorem dX7_set_21 : decode cX7_set 21 = .ok (.iconst 0, 1) := by decide +kernel
theorem dX7_set_22 : decode cX7_set 22 = .ok (.bipush 99, 2) := by decide +kernel
theorem dX7_set_24 : decode cX7_set 24 = .ok (.invokestatic 29, 3) := by decide +kernel
theorem dX7_set_27 : decode cX7_set 27 = .ok (.ifCond .ne 9, 3) := by decide +kernel
theorem dX7_set_30 : decode cX7_set 30 = .ok (.aload_n 0, 1) := by decide +kernel
theorem dX7_set_31 : decode cX7_set 31 = .ok (.iconst 2, 1) := by decide +kernel
theorem dX7_set_32 : decode cX7_set 32 = .ok (.invokevirtual 76, 3) := by decide +kernel
theorem dX7_set_35 : decode cX7_set 35 = .ok (.ireturn, 1) := by decide +kernel
theorem dX7_set_36 : decode cX7_set 36 = .ok (.aload_n 0, 1) := by decide +kernel
theorem dX7_set_37 : decode cX7_set 37 = .ok (.invokevirtual 79, 3) := by decide +kernel
theorem dX7_set_40 : decode cX7_set 40 = .ok (.aload_n 0, 1) := by decide +kernel
theorem dX7_set_41 : decode cX7_set 41 = .ok (.getfield 7, 3) := by decide +kernel
theorem dX7_set_44 : decode cX7_set 44 = .ok (.iconst 2, 1) := by decide +kernel
theorem dX7_set_45 : decode cX7_set 45 = .ok (.iload_n 1, 1) := by decide +kernel
theorem dX7_set_46 : decode cX7_set 46 = .ok (.iadd, 1) := by decide +kernel
theorem dX7_set_47 : decode cX7_set 47 = .ok (.iaload, 1) := by decide +kernel
theorem dX7_set_48 : decode cX7_set 48 = .ok (.istore_n 3, 1) := by decide +kernel
theorem dX7_set_49 : decode cX7_set 49 = .ok (.aload_n 0, 1) := by decide +kernel
theorem dX7_set_50 : decode cX7_set 50 = .ok (.getfield 7, 3) := by decide +kernel
theorem dX7_set_53 : decode cX7_set 53 = .ok (.iconst 2, 1) := by decide +kernel
theorem dX7_set_54 : decode cX7_set 54 = .ok (.iload_n 1, 1) := by decide +kernel
theorem dX7_set_55 : decode cX7_set 55 = .ok (.iadd, 1) := by decide +kernel
theorem dX7_set_56 : decode cX7_set 56 = .ok (.iload_n 2, 1) := by decide +kernel
theorem dX7_set_57 : decode cX7_set 57 = .ok (.iastore, 1) := by decide +kernel
theorem dX7_set_58 : decode cX7_set 58 = .ok (.iload_n 3, 1) := by decide +kernel
theorem dX7_set_59 : decode cX7_set 59 = .ok (.ireturn, 1) := by decide +kernel
theorem dX7_append_0 : decode cX7_append 0 = .ok (.aload_n 0, 1) := by decide +kernel
theorem dX7_append_1 : decode cX7_append 1 = .ok (.iconst 0, 1) := by decide +kernel
theorem dX7_append_2 : decode cX7_append 2 = .ok (.putfield 25, 3) := by decide +kernel
theorem dX7_append_5 : decode cX7_append 5 = .ok (.iload_n 1, 1) := by decide +kernel
theorem dX7_append_6 : decode cX7_append 6 = .ok (.bipush 33, 2) := by decide +kernel
theorem dX7_append_8 : decode cX7_append 8 = .ok (.bipush 126, 2) := by decide +kernel
theorem dX7_append_10 : decode cX7_append 10 = .ok (.invokestatic 29, 3) := by decide +kernel
theorem dX7_append_13 : decode cX7_append 13 = .ok (.ifCond .ne 9, 3) := by decide +kernel
theorem dX7_append_16 : decode cX7_append 16 = .ok (.aload_n 0, 1) := by decide +kernel
theorem dX7_append_17 : decode cX7_append 17 = .ok (.iconst 1, 1) := by decide +kernel
theorem dX7_append_18 : decode cX7_append 18 = .ok (.invokevirtual 76, 3) := by decide +kernel
theorem dX7_append_21 : decode cX7_append 21 = .ok (.ireturn, 1) := by decide +kernel
theorem dX7_append_22 : decode cX7_append 22 = .ok (.aload_n 0, 1) := by decide +kernel
theorem dX7_append_23 : decode cX7_append 23 = .ok (.getfield 94, 3) := by decide +kernel
theorem dX7_append_26 : decode cX7_append 26 = .ok (.bipush 60, 2) := by decide +kernel
theorem dX7_append_28 : decode cX7_append 28 = .ok (.if_icmp .ne 9, 3) := by decide +kernel
theorem dX7_append_31 : decode cX7_append 31 = .ok (.aload_n 0, 1) := by decide +kernel
theorem dX7_append_32 : decode cX7_append 32 = .ok (.iconst 2, 1) := by decide +kernel
theorem dX7_append_33 : decode cX7_append 33 = .ok (.invokevirtual 76, 3) := by decide +kernel
theorem dX7_append_36 : decode cX7_append 36 = .ok (.ireturn, 1) := by decide +kernel
theorem dX7_append_37 : decode cX7_append 37 = .ok (.aload_n 0, 1) := by decide +kernel
theorem dX7_append_38 : decode cX7_append 38 = .ok (.getfield 22, 3) := by decide +kernel
theorem dX7_append_41 : decode cX7_append 41 = .ok (.aload_n 0, 1) := by decide +kernel
theorem dX7_append_42 : decode cX7_append 42 = .ok (.getfield 94, 3) := by decide +kernel
theorem dX7_append_45 : decode cX7_append 45 = .ok (.iload_n 1, 1) := by decide +kernel
theorem dX7_append_46 : decode cX7_append 46 = .ok (.iastore, 1) := by decide +kernel
theorem dX7_append_47 : decode cX7_append 47 = .ok (.aload_n 0, 1) := by decide +kernel
theorem dX7_append_48 : decode cX7_append 48 = .ok (.dup, 1) := by decide +kernel
theorem dX7_append_49 : decode cX7_append 49 = .ok (.getfield 94, 3) := by decide +kernel
theorem dX7_append_52 : decode cX7_append 52 = .ok (.iconst 1, 1) := by decide +kernel
theorem dX7_append_53 : decode cX7_append 53 = .ok (.iadd, 1) := by decide +kernel
theorem dX7_append_54 : decode cX7_append 54 = .ok (.putfield 94, 3) := by decide +kernel
theorem dX7_append_57 : decode cX7_append 57 = .ok (.aload_n 0, 1) := by decide +kernel
theorem dX7_append_58 : decode cX7_append 58 = .ok (.getfield 94, 3) := by decide +kernel
theorem dX7_append_61 : decode cX7_append 61 = .ok (.ireturn, 1) := by decide +kernel
theorem dX7_clearBuffer_0 : decode cX7_clearBuffer 0 = .ok (.aload_n 0, 1) := by decide +kernel
theorem dX7_clearBuffer_1 : decode cX7_clearBuffer 1 = .ok (.iconst 0, 1) := by decide +kernel
theorem dX7_clearBuffer_2 : decode cX7_clearBuffer 2 = .ok (.putfield 25, 3) := by decide +kernel
theorem dX7_clearBuffer_5 : decode cX7_clearBuffer 5 = .ok (.aload_n 0, 1) := by decide +kernel
theorem dX7_clearBuffer_6 : decode cX7_clearBuffer 6 = .ok (.getfield 94, 3) := by decide +kernel
theorem dX7_clearBuffer_9 : decode cX7_clearBuffer 9 = .ok (.istore_n 1, 1) := by decide +kernel
theorem dX7_clearBuffer_10 : decode cX7_clearBuffer 10 = .ok (.aload_n 0, 1) := by decide +kernel
theorem dX7_clearBuffer_11 : decode cX7_clearBuffer 11 = .ok (.iconst 0, 1) := by decide +kernel
theorem dX7_clearBuffer_12 : decode cX7_clearBuffer 12 = .ok (.putfield 94, 3) := by decide +kernel
theorem dX7_clearBuffer_15 : decode cX7_clearBuffer 15 = .ok (.iload_n 1, 1) := by decide +kernel
theorem dX7_clearBuffer_16 : decode cX7_clearBuffer 16 = .ok (.ireturn, 1) := by decide +kernel
theorem dX7_sign_0 : decode cX7_sign 0 = .ok (.aload_n 0, 1) := by decide +kernel
theorem dX7_sign_1 : decode cX7_sign 1 = .ok (.getfield 97, 3) := by decide +kernel
theorem dX7_sign_4 : decode cX7_sign 4 = .ok (.aload_n 0, 1) := by decide +kernel
theorem dX7_sign_5 : decode cX7_sign 5 = .ok (.getfield 94, 3) := by decide +kernel
theorem dX7_sign_8 : decode cX7_sign 8 = .ok (.if_icmp .ge 15, 3) := by decide +kernel
theorem dX7_sign_11 : decode cX7_sign 11 = .ok (.aload_n 0, 1) := by decide +kernel
theorem dX7_sign_12 : decode cX7_sign 12 = .ok (.getfield 22, 3) := by decide +kernel
theorem dX7_sign_15 : decode cX7_sign 15 = .ok (.aload_n 0, 1) := by decide +kernel
theorem dX7_sign_16 : decode cX7_sign 16 = .ok (.getfield 97, 3) := by decide +kernel
theorem dX7_sign_19 : decode cX7_sign 19 = .ok (.iaload, 1) := by decide +kernel
theorem dX7_sign_20 : decode cX7_sign 20 = .ok (.goto 4, 3) := by decide +kernel
theorem dX7_sign_23 : decode cX7_sign 23 = .ok (.iconst 0, 1) := by decide +kernel
theorem dX7_sign_24 : decode cX7_sign 24 = .ok (.istore_n 3, 1) := by decide +kernel
theorem dX7_sign_25 : decode cX7_sign 25 = .ok (.aload_n 0, 1) := by decide +kernel
theorem dX7_sign_26 : decode cX7_sign 26 = .ok (.aload_n 0, 1) := by decide +kernel
theorem dX7_sign_27 : decode cX7_sign 27 = .ok (.getfield 100, 3) := by decide +kernel
theorem dX7_sign_30 : decode cX7_sign 30 = .ok (.ifCond .ne 23, 3) := by decide +kernel
theorem dX7_sign_33 : decode cX7_sign 33 = .ok (.aload_n 0, 1) := by decide +kernel
theorem dX7_sign_34 : decode cX7_sign 34 = .ok (.getfield 97, 3) := by decide +kernel
theorem dX7_sign_37 : decode cX7_sign 37 = .ok (.aload_n 0, 1) := by decide +kernel
theorem dX7_sign_38 : decode cX7_sign 38 = .ok (.getfield 94, 3) := by decide +kernel
theorem dX7_sign_41 : decode cX7_sign 41 = .ok (.if_icmp .ge 12, 3) := by decide +kernel
theorem dX7_sign_44 : decode cX7_sign 44 = .ok (.iload_n 3, 1) := by decide +kernel
theorem dX7_sign_45 : decode cX7_sign 45 = .ok (.iload_n 1, 1) := by decide +kernel
theorem dX7_sign_46 : decode cX7_sign 46 = .ok (.iload_n 2, 1) := by decide +kernel
theorem dX7_sign_47 : decode cX7_sign 47 = .ok (.invokestatic 29, 3) := by decide +kernel
theorem dX7_sign_50 : decode cX7_sign 50 = .ok (.ifCond .ne 7, 3) := by decide +kernel
theorem dX7_sign_53 : decode cX7_sign 53 = .ok (.iconst 1, 1) := by decide +kernel
theorem dX7_sign_54 : decode cX7_sign 54 = .ok (.goto 4, 3) := by decide +kernel
theorem dX7_sign_57 : decode cX7_sign 57 = .ok (.iconst 0, 1) := by decide +kernel
theorem dX7_sign_58 : decode cX7_sign 58 = .ok (.putfield 100, 3) := by decide +kernel
theorem dX7_sign_61 : decode cX7_sign 61 = .ok (.aload_n 0, 1) := by decide +kernel
theorem dX7_sign_62 : decode cX7_sign 62 = .ok (.dup, 1) := by decide +kernel
theorem dX7_sign_63 : decode cX7_sign 63 = .ok (.getfield 97, 3) := by decide +kernel
theorem dX7_sign_66 : decode cX7_sign 66 = .ok (.aload_n 0, 1) := by decide +kernel
theorem dX7_sign_67 : decode cX7_sign 67 = .ok (.getfield 100, 3) := by decide +kernel
theorem dX7_sign_70 : decode cX7_sign 70 = .ok (.ifCond .eq 7, 3) := by decide +kernel
theorem dX7_sign_73 : decode cX7_sign 73 = .ok (.iconst 0, 1) := by decide +kernel
theorem dX7_sign_74 : decode cX7_sign 74 = .ok (.goto 4, 3) := by decide +kernel
theorem dX7_sign_77 : decode cX7_sign 77 = .ok (.iconst 1, 1) := by decide +kernel
theorem dX7_sign_78 : decode cX7_sign 78 = .ok (.iadd, 1) := by decide +kernel
theorem dX7_sign_79 : decode cX7_sign 79 = .ok (.putfield 97, 3) := by decide +kernel
theorem dX7_sign_82 : decode cX7_sign 82 = .ok (.iload_n 3, 1) := by decide +kernel
theorem dX7_sign_83 : decode cX7_sign 83 = .ok (.ireturn, 1) := by decide +kernel
theorem dX7_isNext_0 : decode cX7_isNext 0 = .ok (.aload_n 0, 1) := by decide +kernel
theorem dX7_isNext_1 : decode cX7_isNext 1 = .ok (.getfield 100, 3) := by decide +kernel
theorem dX7_isNext_4 : decode cX7_isNext 4 = .ok (.ifCond .ne 35, 3) := by decide +kernel
theorem dX7_isNext_7 : decode cX7_isNext 7 = .ok (.aload_n 0, 1) := by decide +kernel
theorem dX7_isNext_8 : decode cX7_isNext 8 = .ok (.getfield 97, 3) := by decide +kernel
theorem dX7_isNext_11 : decode cX7_isNext 11 = .ok (.aload_n 0, 1) := by decide +kernel
theorem dX7_isNext_12 : decode cX7_isNext 12 = .ok (.getfield 94, 3) := by decide +kernel
theorem dX7_isNext_15 : decode cX7_isNext 15 = .ok (.if_icmp .ge 24, 3) := by decide +kernel
theorem dX7_isNext_18 : decode cX7_isNext 18 = .ok (.aload_n 0, 1) := by decide +kernel
theorem dX7_isNext_19 : decode cX7_isNext 19 = .ok (.getfield 22, 3) := by decide +kernel
theorem dX7_isNext_22 : decode cX7_isNext 22 = .ok (.aload_n 0, 1) := by decide +kernel
theorem dX7_isNext_23 : decode cX7_isNext 23 = .ok (.getfield 97, 3) := by decide +kernel
theorem dX7_isNext_26 : decode cX7_isNext 26 = .ok (.iaload, 1) := by decide +kernel
theorem dX7_isNext_27 : decode cX7_isNext 27 = .ok (.iload_n 1, 1) := by decide +kernel
theorem dX7_isNext_28 : decode cX7_isNext 28 = .ok (.iload_n 2, 1) := by decide +kernel
theorem dX7_isNext_29 : decode cX7_isNext 29 = .ok (.invokestatic 29, 3) := by decide +kernel
theorem dX7_isNext_32 : decode cX7_isNext 32 = .ok (.ifCond .eq 7, 3) := by decide +kernel
theorem dX7_isNext_35 : decode cX7_isNext 35 = .ok (.iconst 1, 1) := by decide +kernel
theorem dX7_isNext_36 : decode cX7_isNext 36 = .ok (.goto 4, 3) := by decide +kernel
theorem dX7_isNext_39 : decode cX7_isNext 39 = .ok (.iconst 0, 1) := by decide +kernel
theorem dX7_isNext_40 : decode cX7_isNext 40 = .ok (.ireturn, 1) := by decide +kernel
theorem dX7_part_0 : decode cX7_part 0 = .ok (.aload_n 0, 1) := by decide +kernel
theorem dX7_part_1 : decode cX7_part 1 = .ok (.bipush 116, 2) := by decide +kernel
theorem dX7_part_3 : decode cX7_part 3 = .ok (.bipush 116, 2) := by decide +kernel
theorem dX7_part_5 : decode cX7_part 5 = .ok (.invokevirtual 104, 3) := by decide +kernel
theorem dX7_part_8 : decode cX7_part 8 = .ok (.ifCond .eq 80, 3) := by decide +kernel
theorem dX7_part_11 : decode cX7_part 11 = .ok (.aload_n 0, 1) := by decide +kernel
theorem dX7_part_12 : decode cX7_part 12 = .ok (.dup, 1) := by decide +kernel
theorem dX7_part_13 : decode cX7_part 13 = .ok (.getfield 97, 3) := by decide +kernel
theorem dX7_part_16 : decode cX7_part 16 = .ok (.iconst 1, 1) := by decide +kernel
theorem dX7_part_17 : decode cX7_part 17 = .ok (.iadd, 1) := by decide +kernel
theorem dX7_part_18 : decode cX7_part 18 = .ok (.putfield 97, 3) := by decide +kernel
theorem dX7_part_21 : decode cX7_part 21 = .ok (.aload_n 0, 1) := by decide +kernel
theorem dX7_part_22 : decode cX7_part 22 = .ok (.bipush 49, 2) := by decide +kernel
theorem dX7_part_24 : decode cX7_part 24 = .ok (.bipush 57, 2) := by decide +kernel
theorem dX7_part_26 : decode cX7_part 26 = .ok (.invokevirtual 108, 3) := by decide +kernel
theorem dX7_part_29 : decode cX7_part 29 = .ok (.bipush 48, 2) := by decide +kernel
theorem dX7_part_31 : decode cX7_part 31 = .ok (.isub, 1) := by decide +kernel
theorem dX7_part_32 : decode cX7_part 32 = .ok (.istore_n 2, 1) := by decide +kernel
theorem dX7_part_33 : decode cX7_part 33 = .ok (.aload_n 0, 1) := by decide +kernel
theorem dX7_part_34 : decode cX7_part 34 = .ok (.bipush 48, 2) := by decide +kernel
theorem dX7_part_36 : decode cX7_part 36 = .ok (.bipush 57, 2) := by decide +kernel
theorem dX7_part_38 : decode cX7_part 38 = .ok (.invokevirtual 104, 3) := by decide +kernel
theorem dX7_part_41 : decode cX7_part 41 = .ok (.ifCond .eq 31, 3) := by decide +kernel
theorem dX7_part_44 : decode cX7_part 44 = .ok (.bipush 10, 2) := by decide +kernel
theorem dX7_part_46 : decode cX7_part 46 = .ok (.iload_n 2, 1) := by decide +kernel
theorem dX7_part_47 : decode cX7_part 47 = .ok (.imul, 1) := by decide +kernel
theorem dX7_part_48 : decode cX7_part 48 = .ok (.aload_n 0, 1) := by decide +kernel
theorem dX7_part_49 : decode cX7_part 49 = .ok (.getfield 22, 3) := by decide +kernel
theorem dX7_part_52 : decode cX7_part 52 = .ok (.aload_n 0, 1) := by decide +kernel
theorem dX7_part_53 : decode cX7_part 53 = .ok (.getfield 97, 3) := by decide +kernel
theorem dX7_part_56 : decode cX7_part 56 = .ok (.iaload, 1) := by decide +kernel
theorem dX7_part_57 : decode cX7_part 57 = .ok (.iadd, 1) := by decide +kernel
theorem dX7_part_58 : decode cX7_part 58 = .ok (.bipush 48, 2) := by decide +kernel
theorem dX7_part_60 : decode cX7_part 60 = .ok (.isub, 1) := by decide +kernel
theorem dX7_part_61 : decode cX7_part 61 = .ok (.istore_n 2, 1) := by decide +kernel
theorem dX7_part_62 : decode cX7_part 62 = .ok (.aload_n 0, 1) := by decide +kernel
theorem dX7_part_63 : decode cX7_part 63 = .ok (.dup, 1) := by decide +kernel
theorem dX7_part_64 : decode cX7_part 64 = .ok (.getfield 97, 3) := by decide +kernel
theorem dX7_part_67 : decode cX7_part 67 = .ok (.iconst 1, 1) := by decide +kernel
theorem dX7_part_68 : decode cX7_part 68 = .ok (.iadd, 1) := by decide +kernel
theorem dX7_part_69 : decode cX7_part 69 = .ok (.putfield 97, 3) := by decide +kernel
theorem dX7_part_72 : decode cX7_part 72 = .ok (.iload_n 1, 1) := by decide +kernel
theorem dX7_part_73 : decode cX7_part 73 = .ok (.ifCond .eq 11, 3) := by decide +kernel
theorem dX7_part_76 : decode cX7_part 76 = .ok (.aload_n 0, 1) := by decide +kernel
theorem dX7_part_77 : decode cX7_part 77 = .ok (.iload_n 2, 1) := by decide +kernel
theorem dX7_part_78 : decode cX7_part 78 = .ok (.invokevirtual 82, 3) := by decide +kernel
theorem dX7_part_81 : decode cX7_part 81 = .ok (.goto 4, 3) := by decide +kernel
theorem dX7_part_84 : decode cX7_part 84 = .ok (.iconst 0, 1) := by decide +kernel
theorem dX7_part_85 : decode cX7_part 85 = .ok (.istore_n 3, 1) := by decide +kernel
theorem dX7_part_86 : decode cX7_part 86 = .ok (.iconst 1, 1) := by decide +kernel
theorem dX7_part_87 : decode cX7_part 87 = .ok (.ireturn, 1) := by decide +kernel
theorem dX7_part_88 : decode cX7_part 88 = .ok (.aload_n 0, 1) := by decide +kernel
theorem dX7_part_89 : decode cX7_part 89 = .ok (.bipush 118, 2) := by decide +kernel
theorem dX7_part_91 : decode cX7_part 91 = .ok (.bipush 118, 2) := by decide +kernel
theorem dX7_part_93 : decode cX7_part 93 = .ok (.invokevirtual 104, 3) := by decide +kernel
theorem dX7_part_96 : decode cX7_part 96 = .ok (.ifCond .eq 57, 3) := by decide +kernel
theorem dX7_part_99 : decode cX7_part 99 = .ok (.aload_n 0, 1) := by decide +kernel
theorem dX7_part_100 : decode cX7_part 100 = .ok (.dup, 1) := by decide +kernel
theorem dX7_part_101 : decode cX7_part 101 = .ok (.getfield 97, 3) := by decide +kernel
theorem dX7_part_104 : decode cX7_part 104 = .ok (.iconst 1, 1) := by decide +kernel
theorem dX7_part_105 : decode cX7_part 105 = .ok (.iadd, 1) := by decide +kernel
theorem dX7_part_106 : decode cX7_part 106 = .ok (.putfield 97, 3) := by decide +kernel
theorem dX7_part_109 : decode cX7_part 109 = .ok (.aload_n 0, 1) := by decide +kernel
theorem dX7_part_110 : decode cX7_part 110 = .ok (.invokevirtual 59, 3) := by decide +kernel
theorem dX7_part_113 : decode cX7_part 113 = .ok (.ifCond .le 7, 3) := by decide +kernel
theorem dX7_part_116 : decode cX7_part 116 = .ok (.iconst 1, 1) := by decide +kernel
theorem dX7_part_117 : decode cX7_part 117 = .ok (.goto 4, 3) := by decide +kernel
theorem dX7_part_120 : decode cX7_part 120 = .ok (.iconst 0, 1) := by decide +kernel
theorem dX7_part_121 : decode cX7_part 121 = .ok (.istore_n 2, 1) := by decide +kernel
theorem dX7_part_122 : decode cX7_part 122 = .ok (.iload_n 1, 1) := by decide +kernel
theorem dX7_part_123 : decode cX7_part 123 = .ok (.ifCond .eq 14, 3) := by decide +kernel
theorem dX7_part_126 : decode cX7_part 126 = .ok (.iload_n 2, 1) := by decide +kernel
theorem dX7_part_127 : decode cX7_part 127 = .ok (.ifCond .eq 10, 3) := by decide +kernel
theorem dX7_part_130 : decode cX7_part 130 = .ok (.aload_n 0, 1) := by decide +kernel
theorem dX7_part_131 : decode cX7_part 131 = .ok (.invokevirtual 85, 3) := by decide +kernel
theorem dX7_part_134 : decode cX7_part 134 = .ok (.goto 4, 3) := by decide +kernel
theorem dX7_part_137 : decode cX7_part 137 = .ok (.iconst 0, 1) := by decide +kernel
theorem dX7_part_138 : decode cX7_part 138 = .ok (.istore_n 3, 1) := by decide +kernel
theorem dX7_part_139 : decode cX7_part 139 = .ok (.iload_n 1, 1) := by decide +kernel
theorem dX7_part_140 : decode cX7_part 140 = .ok (.ifCond .eq 7, 3) := by decide +kernel
theorem dX7_part_143 : decode cX7_part 143 = .ok (.iload_n 2, 1) := by decide +kernel
theorem dX7_part_144 : decode cX7_part 144 = .ok (.ifCond .eq 7, 3) := by decide +kernel
theorem dX7_part_147 : decode cX7_part 147 = .ok (.iconst 1, 1) := by decide +kernel
theorem dX7_part_148 : decode cX7_part 148 = .ok (.goto 4, 3) := by decide +kernel
theorem dX7_part_151 : decode cX7_part 151 = .ok (.iconst 0, 1) := by decide +kernel
theorem dX7_part_152 : decode cX7_part 152 = .ok (.ireturn, 1) := by decide +kernel
theorem dX7_part_153 : decode cX7_part 153 = .ok (.aload_n 0, 1) := by decide +kernel
theorem dX7_part_154 : decode cX7_part 154 = .ok (.bipush 99, 2) := by decide +kernel
theorem dX7_part_156 : decode cX7_part 156 = .ok (.bipush 99, 2) := by decide +kernel
theorem dX7_part_158 : decode cX7_part 158 = .ok (.invokevirtual 104, 3) := by decide +kernel
theorem dX7_part_161 : decode cX7_part 161 = .ok (.ifCond .eq 28, 3) := by decide +kernel
theorem dX7_part_164 : decode cX7_part 164 = .ok (.aload_n 0, 1) := by decide +kernel
theorem dX7_part_165 : decode cX7_part 165 = .ok (.dup, 1) := by decide +kernel
theorem dX7_part_166 : decode cX7_part 166 = .ok (.getfield 97, 3) := by decide +kernel
theorem dX7_part_169 : decode cX7_part 169 = .ok (.iconst 1, 1) := by decide +kernel
theorem dX7_part_170 : decode cX7_part 170 = .ok (.iadd, 1) := by decide +kernel
theorem dX7_part_171 : decode cX7_part 171 = .ok (.putfield 97, 3) := by decide +kernel
theorem dX7_part_174 : decode cX7_part 174 = .ok (.iload_n 1, 1) := by decide +kernel
theorem dX7_part_175 : decode cX7_part 175 = .ok (.ifCond .eq 10, 3) := by decide +kernel
theorem dX7_part_178 : decode cX7_part 178 = .ok (.aload_n 0, 1) := by decide +kernel
theorem dX7_part_179 : decode cX7_part 179 = .ok (.invokevirtual 88, 3) := by decide +kernel
theorem dX7_part_182 : decode cX7_part 182 = .ok (.goto 4, 3) := by decide +kernel
theorem dX7_part_185 : decode cX7_part 185 = .ok (.iconst 0, 1) := by decide +kernel
theorem dX7_part_186 : decode cX7_part 186 = .ok (.istore_n 2, 1) := by decide +kernel
theorem dX7_part_187 : decode cX7_part 187 = .ok (.iconst 1, 1) := by decide +kernel
theorem dX7_part_188 : decode cX7_part 188 = .ok (.ireturn, 1) := by decide +kernel
theorem dX7_part_189 : decode cX7_part 189 = .ok (.aload_n 0, 1) := by decide +kernel
theorem dX7_part_190 : decode cX7_part 190 = .ok (.bipush 100, 2) := by decide +kernel
theorem dX7_part_192 : decode cX7_part 192 = .ok (.bipush 100, 2) := by decide +kernel
theorem dX7_part_194 : decode cX7_part 194 = .ok (.invokevirtual 108, 3) := by decide +kernel
theorem dX7_part_197 : decode cX7_part 197 = .ok (.istore_n 2, 1) := by decide +kernel
theorem dX7_part_198 : decode cX7_part 198 = .ok (.aload_n 0, 1) := by decide +kernel
theorem dX7_part_199 : decode cX7_part 199 = .ok (.bipush 48, 2) := by decide +kernel
theorem dX7_part_201 : decode cX7_part 201 = .ok (.bipush 54, 2) := by decide +kernel
theorem dX7_part_203 : decode cX7_part 203 = .ok (.invokevirtual 108, 3) := by decide +kernel
theorem dX7_part_206 : decode cX7_part 206 = .ok (.bipush 48, 2) := by decide +kernel
theorem dX7_part_208 : decode cX7_part 208 = .ok (.isub, 1) := by decide +kernel
theorem dX7_part_209 : decode cX7_part 209 = .ok (.istore_n 3, 1) := by decide +kernel
theorem dX7_part_210 : decode cX7_part 210 = .ok (.aload_n 0, 1) := by decide +kernel
theorem dX7_part_211 : decode cX7_part 211 = .ok (.bipush 45, 2) := by decide +kernel
theorem dX7_part_213 : decode cX7_part 213 = .ok (.bipush 45, 2) := by decide +kernel
theorem dX7_part_215 : decode cX7_part 215 = .ok (.invokevirtual 104, 3) := by decide +kernel
theorem dX7_part_218 : decode cX7_part 218 = .ok (.istore 4, 2) := by decide +kernel
theorem dX7_part_220 : decode cX7_part 220 = .ok (.iload 4, 2) := by decide +kernel
theorem dX7_part_222 : decode cX7_part 222 = .ok (.ifCond .eq 14, 3) := by decide +kernel
theorem dX7_part_225 : decode cX7_part 225 = .ok (.aload_n 0, 1) := by decide +kernel
theorem dX7_part_226 : decode cX7_part 226 = .ok (.bipush 45, 2) := by decide +kernel
theorem dX7_part_228 : decode cX7_part 228 = .ok (.bipush 45, 2) := by decide +kernel
theorem dX7_part_230 : decode cX7_part 230 = .ok (.invokevirtual 108, 3) := by decide +kernel
theorem dX7_part_233 : decode cX7_part 233 = .ok (.goto 11, 3) := by decide +kernel
theorem dX7_part_236 : decode cX7_part 236 = .ok (.aload_n 0, 1) := by decide +kernel
theorem dX7_part_237 : decode cX7_part 237 = .ok (.bipush 43, 2) := by decide +kernel
theorem dX7_part_239 : decode cX7_part 239 = .ok (.bipush 43, 2) := by decide +kernel
theorem dX7_part_241 : decode cX7_part 241 = .ok (.invokevirtual 108, 3) := by decide +kernel
theorem dX7_part_244 : decode cX7_part 244 = .ok (.istore 5, 2) := by decide +kernel
theorem dX7_part_246 : decode cX7_part 246 = .ok (.aload_n 0, 1) := by decide +kernel
theorem dX7_part_247 : decode cX7_part 247 = .ok (.bipush 48, 2) := by decide +kernel
theorem dX7_part_249 : decode cX7_part 249 = .ok (.bipush 53, 2) := by decide +kernel
theorem dX7_part_251 : decode cX7_part 251 = .ok (.invokevirtual 108, 3) := by decide +kernel
theorem dX7_part_254 : decode cX7_part 254 = .ok (.bipush 48, 2) := by decide +kernel
theorem dX7_part_256 : decode cX7_part 256 = .ok (.isub, 1) := by decide +kernel
theorem dX7_part_257 : decode cX7_part 257 = .ok (.istore 6, 2) := by decide +kernel
theorem dX7_part_259 : decode cX7_part 259 = .ok (.iload_n 1, 1) := by decide +kernel
theorem dX7_part_260 : decode cX7_part 260 = .ok (.ifCond .eq 25, 3) := by decide +kernel
theorem dX7_part_263 : decode cX7_part 263 = .ok (.aload_n 0, 1) := by decide +kernel
theorem dX7_part_264 : decode cX7_part 264 = .ok (.getfield 7, 3) := by decide +kernel
theorem dX7_part_267 : decode cX7_part 267 = .ok (.bipush 13, 2) := by decide +kernel
theorem dX7_part_269 : decode cX7_part 269 = .ok (.iload_n 3, 1) := by decide +kernel
theorem dX7_part_270 : decode cX7_part 270 = .ok (.iadd, 1) := by decide +kernel
theorem dX7_part_271 : decode cX7_part 271 = .ok (.iload 4, 2) := by decide +kernel
theorem dX7_part_273 : decode cX7_part 273 = .ok (.ifCond .eq 9, 3) := by decide +kernel
theorem dX7_part_276 : decode cX7_part 276 = .ok (.iload 6, 2) := by decide +kernel
theorem dX7_part_278 : decode cX7_part 278 = .ok (.ineg, 1) := by decide +kernel
theorem dX7_part_279 : decode cX7_part 279 = .ok (.goto 5, 3) := by decide +kernel
theorem dX7_part_282 : decode cX7_part 282 = .ok (.iload 6, 2) := by decide +kernel
theorem dX7_part_284 : decode cX7_part 284 = .ok (.iastore, 1) := by decide +kernel
theorem dX7_part_285 : decode cX7_part 285 = .ok (.iconst 1, 1) := by decide +kernel
theorem dX7_part_286 : decode cX7_part 286 = .ok (.ireturn, 1) := by decide +kernel
theorem dX7_go_0 : decode cX7_go 0 = .ok (.aload_n 0, 1) := by decide +kernel
theorem dX7_go_1 : decode cX7_go 1 = .ok (.iconst 0, 1) := by decide +kernel
theorem dX7_go_2 : decode cX7_go 2 = .ok (.putfield 97, 3) := by decide +kernel
theorem dX7_go_5 : decode cX7_go 5 = .ok (.aload_n 0, 1) := by decide +kernel
theorem dX7_go_6 : decode cX7_go 6 = .ok (.iconst 0, 1) := by decide +kernel
theorem dX7_go_7 : decode cX7_go 7 = .ok (.putfield 100, 3) := by decide +kernel
theorem dX7_go_10 : decode cX7_go 10 = .ok (.iconst 0, 1) := by decide +kernel
theorem dX7_go_11 : decode cX7_go 11 = .ok (.istore_n 2, 1) := by decide +kernel
theorem dX7_go_12 : decode cX7_go 12 = .ok (.iconst 1, 1) := by decide +kernel
theorem dX7_go_13 : decode cX7_go 13 = .ok (.istore_n 3, 1) := by decide +kernel
theorem dX7_go_14 : decode cX7_go 14 = .ok (.iload_n 3, 1) := by decide +kernel
theorem dX7_go_15 : decode cX7_go 15 = .ok (.ifCond .eq 70, 3) := by decide +kernel
theorem dX7_go_18 : decode cX7_go 18 = .ok (.aload_n 0, 1) := by decide +kernel
theorem dX7_go_19 : decode cX7_go 19 = .ok (.iload_n 1, 1) := by decide +kernel
theorem dX7_go_20 : decode cX7_go 20 = .ok (.invokevirtual 111, 3) := by decide +kernel
theorem dX7_go_23 : decode cX7_go 23 = .ok (.ifCond .ne 5, 3) := by decide +kernel
theorem dX7_go_26 : decode cX7_go 26 = .ok (.iload_n 2, 1) := by decide +kernel
theorem dX7_go_27 : decode cX7_go 27 = .ok (.ireturn, 1) := by decide +kernel
theorem dX7_go_28 : decode cX7_go 28 = .ok (.iinc 2 1, 3) := by decide +kernel
theorem dX7_go_31 : decode cX7_go 31 = .ok (.aload_n 0, 1) := by decide +kernel
theorem dX7_go_32 : decode cX7_go 32 = .ok (.getfield 100, 3) := by decide +kernel
theorem dX7_go_35 : decode cX7_go 35 = .ok (.ifCond .ne 18, 3) := by decide +kernel
theorem dX7_go_38 : decode cX7_go 38 = .ok (.aload_n 0, 1) := by decide +kernel
theorem dX7_go_39 : decode cX7_go 39 = .ok (.getfield 97, 3) := by decide +kernel
theorem dX7_go_42 : decode cX7_go 42 = .ok (.aload_n 0, 1) := by decide +kernel
theorem dX7_go_43 : decode cX7_go 43 = .ok (.getfield 94, 3) := by decide +kernel
theorem dX7_go_46 : decode cX7_go 46 = .ok (.if_icmp .ge 7, 3) := by decide +kernel
theorem dX7_go_49 : decode cX7_go 49 = .ok (.iconst 1, 1) := by decide +kernel
theorem dX7_go_50 : decode cX7_go 50 = .ok (.goto 4, 3) := by decide +kernel
theorem dX7_go_53 : decode cX7_go 53 = .ok (.iconst 0, 1) := by decide +kernel
theorem dX7_go_54 : decode cX7_go 54 = .ok (.istore_n 3, 1) := by decide +kernel
theorem dX7_go_55 : decode cX7_go 55 = .ok (.iload_n 3, 1) := by decide +kernel
theorem dX7_go_56 : decode cX7_go 56 = .ok (.ifCond .eq (-42), 3) := by decide +kernel
theorem dX7_go_59 : decode cX7_go 59 = .ok (.aload_n 0, 1) := by decide +kernel
theorem dX7_go_60 : decode cX7_go 60 = .ok (.bipush 59, 2) := by decide +kernel
theorem dX7_go_62 : decode cX7_go 62 = .ok (.bipush 59, 2) := by decide +kernel
theorem dX7_go_64 : decode cX7_go 64 = .ok (.invokevirtual 108, 3) := by decide +kernel
theorem dX7_go_67 : decode cX7_go 67 = .ok (.istore 4, 2) := by decide +kernel
theorem dX7_go_69 : decode cX7_go 69 = .ok (.aload_n 0, 1) := by decide +kernel
theorem dX7_go_70 : decode cX7_go 70 = .ok (.getfield 100, 3) := by decide +kernel
theorem dX7_go_73 : decode cX7_go 73 = .ok (.ifCond .ne 7, 3) := by decide +kernel
theorem dX7_go_76 : decode cX7_go 76 = .ok (.iconst 1, 1) := by decide +kernel
theorem dX7_go_77 : decode cX7_go 77 = .ok (.goto 4, 3) := by decide +kernel
theorem dX7_go_80 : decode cX7_go 80 = .ok (.iconst 0, 1) := by decide +kernel
theorem dX7_go_81 : decode cX7_go 81 = .ok (.istore_n 3, 1) := by decide +kernel
theorem dX7_go_82 : decode cX7_go 82 = .ok (.goto (-68), 3) := by decide +kernel
theorem dX7_go_85 : decode cX7_go 85 = .ok (.iload_n 2, 1) := by decide +kernel
theorem dX7_go_86 : decode cX7_go 86 = .ok (.ireturn, 1) := by decide +kernel
theorem dX7_firstError_0 : decode cX7_firstError 0 = .ok (.aload_n 0, 1) := by decide +kernel
theorem dX7_firstError_1 : decode cX7_firstError 1 = .ok (.iconst 0, 1) := by decide +kernel
theorem dX7_firstError_2 : decode cX7_firstError 2 = .ok (.putfield 25, 3) := by decide +kernel
theorem dX7_firstError_5 : decode cX7_firstError 5 = .ok (.aload_n 0, 1) := by decide +kernel
theorem dX7_firstError_6 : decode cX7_firstError 6 = .ok (.iconst 0, 1) := by decide +kernel
theorem dX7_firstError_7 : decode cX7_firstError 7 = .ok (.invokevirtual 115, 3) := by decide +kernel
theorem dX7_firstError_10 : decode cX7_firstError 10 = .ok (.istore_n 1, 1) := by decide +kernel
theorem dX7_firstError_11 : decode cX7_firstError 11 = .ok (.aload_n 0, 1) := by decide +kernel
theorem dX7_firstError_12 : decode cX7_firstError 12 = .ok (.getfield 100, 3) := by decide +kernel
theorem dX7_firstError_15 : decode cX7_firstError 15 = .ok (.ifCond .eq 10, 3) := by decide +kernel
theorem dX7_firstError_18 : decode cX7_firstError 18 = .ok (.aload_n 0, 1) := by decide +kernel
theorem dX7_firstError_19 : decode cX7_firstError 19 = .ok (.getfield 97, 3) := by decide +kernel
theorem dX7_firstError_22 : decode cX7_firstError 22 = .ok (.goto 7, 3) := by decide +kernel
theorem dX7_firstError_25 : decode cX7_firstError 25 = .ok (.aload_n 0, 1) := by decide +kernel
theorem dX7_firstError_26 : decode cX7_firstError 26 = .ok (.getfield 94, 3) := by decide +kernel
theorem dX7_firstError_29 : decode cX7_firstError 29 = .ok (.ireturn, 1) := by decide +kernel
theorem dX7_obey_0 : decode cX7_obey 0 = .ok (.aload_n 0, 1) := by decide +kernel
theorem dX7_obey_1 : decode cX7_obey 1 = .ok (.iconst 0, 1) := by decide +kernel
theorem dX7_obey_2 : decode cX7_obey 2 = .ok (.putfield 25, 3) := by decide +kernel
theorem dX7_obey_5 : decode cX7_obey 5 = .ok (.aload_n 0, 1) := by decide +kernel
theorem dX7_obey_6 : decode cX7_obey 6 = .ok (.iconst 0, 1) := by decide +kernel
theorem dX7_obey_7 : decode cX7_obey 7 = .ok (.invokevirtual 115, 3) := by decide +kernel
theorem dX7_obey_10 : decode cX7_obey 10 = .ok (.istore_n 1, 1) := by decide +kernel
theorem dX7_obey_11 : decode cX7_obey 11 = .ok (.aload_n 0, 1) := by decide +kernel
theorem dX7_obey_12 : decode cX7_obey 12 = .ok (.getfield 100, 3) := by decide +kernel
theorem dX7_obey_15 : decode cX7_obey 15 = .ok (.ifCond .eq 9, 3) := by decide +kernel
theorem dX7_obey_18 : decode cX7_obey 18 = .ok (.aload_n 0, 1) := by decide +kernel
theorem dX7_obey_19 : decode cX7_obey 19 = .ok (.iconst 1, 1) := by decide +kernel
theorem dX7_obey_20 : decode cX7_obey 20 = .ok (.invokevirtual 76, 3) := by decide +kernel
theorem dX7_obey_23 : decode cX7_obey 23 = .ok (.ireturn, 1) := by decide +kernel
theorem dX7_obey_24 : decode cX7_obey 24 = .ok (.aload_n 0, 1) := by decide +kernel
theorem dX7_obey_25 : decode cX7_obey 25 = .ok (.invokevirtual 79, 3) := by decide +kernel
theorem dX7_obey_28 : decode cX7_obey 28 = .ok (.aload_n 0, 1) := by decide +kernel
theorem dX7_obey_29 : decode cX7_obey 29 = .ok (.iconst 1, 1) := by decide +kernel
theorem dX7_obey_30 : decode cX7_obey 30 = .ok (.invokevirtual 115, 3) := by decide +kernel
theorem dX7_obey_33 : decode cX7_obey 33 = .ok (.istore_n 2, 1) := by decide +kernel
theorem dX7_obey_34 : decode cX7_obey 34 = .ok (.aload_n 0, 1) := by decide +kernel
theorem dX7_obey_35 : decode cX7_obey 35 = .ok (.iconst 0, 1) := by decide +kernel
theorem dX7_obey_36 : decode cX7_obey 36 = .ok (.putfield 94, 3) := by decide +kernel
theorem dX7_obey_39 : decode cX7_obey 39 = .ok (.iload_n 2, 1) := by decide +kernel
theorem dX7_obey_40 : decode cX7_obey 40 = .ok (.ireturn, 1) := by decide +kernel
theorem dX7_keep_0 : decode cX7_keep 0 = .ok (.aload_n 0, 1) := by decide +kernel
theorem dX7_keep_1 : decode cX7_keep 1 = .ok (.iconst 0, 1) := by decide +kernel
theorem dX7_keep_2 : decode cX7_keep 2 = .ok (.putfield 25, 3) := by decide +kernel
theorem dX7_keep_5 : decode cX7_keep 5 = .ok (.iconst 0, 1) := by decide +kernel
theorem dX7_keep_6 : decode cX7_keep 6 = .ok (.istore_n 1, 1) := by decide +kernel
theorem dX7_keep_7 : decode cX7_keep 7 = .ok (.iload_n 1, 1) := by decide +kernel
theorem dX7_keep_8 : decode cX7_keep 8 = .ok (.bipush 69, 2) := by decide +kernel
theorem dX7_keep_10 : decode cX7_keep 10 = .ok (.if_icmp .ge 21, 3) := by decide +kernel
theorem dX7_keep_13 : decode cX7_keep 13 = .ok (.aload_n 0, 1) := by decide +kernel
theorem dX7_keep_14 : decode cX7_keep 14 = .ok (.getfield 19, 3) := by decide +kernel
theorem dX7_keep_17 : decode cX7_keep 17 = .ok (.iload_n 1, 1) := by decide +kernel
theorem dX7_keep_18 : decode cX7_keep 18 = .ok (.aload_n 0, 1) := by decide +kernel
theorem dX7_keep_19 : decode cX7_keep 19 = .ok (.getfield 7, 3) := by decide +kernel
theorem dX7_keep_22 : decode cX7_keep 22 = .ok (.iload_n 1, 1) := by decide +kernel
theorem dX7_keep_23 : decode cX7_keep 23 = .ok (.iaload, 1) := by decide +kernel
theorem dX7_keep_24 : decode cX7_keep 24 = .ok (.iastore, 1) := by decide +kernel
theorem dX7_keep_25 : decode cX7_keep 25 = .ok (.iinc 1 1, 3) := by decide +kernel
theorem dX7_keep_28 : decode cX7_keep 28 = .ok (.goto (-21), 3) := by decide +kernel
theorem dX7_keep_31 : decode cX7_keep 31 = .ok (.aload_n 0, 1) := by decide +kernel
theorem dX7_keep_32 : decode cX7_keep 32 = .ok (.iconst 1, 1) := by decide +kernel
theorem dX7_keep_33 : decode cX7_keep 33 = .ok (.putfield 119, 3) := by decide +kernel
theorem dX7_keep_36 : decode cX7_keep 36 = .ok (.aload_n 0, 1) := by decide +kernel
theorem dX7_keep_37 : decode cX7_keep 37 = .ok (.getfield 7, 3) := by decide +kernel
theorem dX7_keep_40 : decode cX7_keep 40 = .ok (.iconst 1, 1) := by decide +kernel
theorem dX7_keep_41 : decode cX7_keep 41 = .ok (.iaload, 1) := by decide +kernel
theorem dX7_keep_42 : decode cX7_keep 42 = .ok (.ireturn, 1) := by decide +kernel
theorem dX7_goBack_0 : decode cX7_goBack 0 = .ok (.aload_n 0, 1) := by decide +kernel
theorem dX7_goBack_1 : decode cX7_goBack 1 = .ok (.iconst 0, 1) := by decide +kernel
theorem dX7_goBack_2 : decode cX7_goBack 2 = .ok (.putfield 25, 3) := by decide +kernel
theorem dX7_goBack_5 : decode cX7_goBack 5 = .ok (.aload_n 0, 1) := by decide +kernel
theorem dX7_goBack_6 : decode cX7_goBack 6 = .ok (.getfield 119, 3) := by decide +kernel
theorem dX7_goBack_9 : decode cX7_goBack 9 = .ok (.ifCond .ne 9, 3) := by decide +kernel
theorem dX7_goBack_12 : decode cX7_goBack 12 = .ok (.aload_n 0, 1) := by decide +kernel
theorem dX7_goBack_13 : decode cX7_goBack 13 = .ok (.iconst 1, 1) := by decide +kernel
theorem dX7_goBack_14 : decode cX7_goBack 14 = .ok (.invokevirtual 76, 3) := by decide +kernel
theorem dX7_goBack_17 : decode cX7_goBack 17 = .ok (.ireturn, 1) := by decide +kernel
theorem dX7_goBack_18 : decode cX7_goBack 18 = .ok (.aload_n 0, 1) := by decide +kernel
theorem dX7_goBack_19 : decode cX7_goBack 19 = .ok (.invokevirtual 79, 3) := by decide +kernel
theorem dX7_goBack_22 : decode cX7_goBack 22 = .ok (.iconst 0, 1) := by decide +kernel
theorem dX7_goBack_23 : decode cX7_goBack 23 = .ok (.istore_n 1, 1) := by decide +kernel
theorem dX7_goBack_24 : decode cX7_goBack 24 = .ok (.iload_n 1, 1) := by decide +kernel
theorem dX7_goBack_25 : decode cX7_goBack 25 = .ok (.bipush 69, 2) := by decide +kernel
theorem dX7_goBack_27 : decode cX7_goBack 27 = .ok (.if_icmp .ge 21, 3) := by decide +kernel
theorem dX7_goBack_30 : decode cX7_goBack 30 = .ok (.aload_n 0, 1) := by decide +kernel
theorem dX7_goBack_31 : decode cX7_goBack 31 = .ok (.getfield 7, 3) := by decide +kernel
theorem dX7_goBack_34 : decode cX7_goBack 34 = .ok (.iload_n 1, 1) := by decide +kernel
theorem dX7_goBack_35 : decode cX7_goBack 35 = .ok (.aload_n 0, 1) := by decide +kernel
theorem dX7_goBack_36 : decode cX7_goBack 36 = .ok (.getfield 19, 3) := by decide +kernel
theorem dX7_goBack_39 : decode cX7_goBack 39 = .ok (.iload_n 1, 1) := by decide +kernel
theorem dX7_goBack_40 : decode cX7_goBack 40 = .ok (.iaload, 1) := by decide +kernel
theorem dX7_goBack_41 : decode cX7_goBack 41 = .ok (.iastore, 1) := by decide +kernel
theorem dX7_goBack_42 : decode cX7_goBack 42 = .ok (.iinc 1 1, 3) := by decide +kernel
theorem dX7_goBack_45 : decode cX7_goBack 45 = .ok (.goto (-21), 3) := by decide +kernel
theorem dX7_goBack_48 : decode cX7_goBack 48 = .ok (.aload_n 0, 1) := by decide +kernel
theorem dX7_goBack_49 : decode cX7_goBack 49 = .ok (.getfield 7, 3) := by decide +kernel
theorem dX7_goBack_52 : decode cX7_goBack 52 = .ok (.iconst 1, 1) := by decide +kernel
theorem dX7_goBack_53 : decode cX7_goBack 53 = .ok (.iaload, 1) := by decide +kernel
theorem dX7_goBack_54 : decode cX7_goBack 54 = .ok (.ireturn, 1) := by decide +kernel
theorem dX7_undo_0 : decode cX7_undo 0 = .ok (.aload_n 0, 1) := by decide +kernel
theorem dX7_undo_1 : decode cX7_undo 1 = .ok (.iconst 0, 1) := by decide +kernel
theorem dX7_undo_2 : decode cX7_undo 2 = .ok (.putfield 25, 3) := by decide +kernel
theorem dX7_undo_5 : decode cX7_undo 5 = .ok (.aload_n 0, 1) := by decide +kernel
theorem dX7_undo_6 : decode cX7_undo 6 = .ok (.getfield 33, 3) := by decide +kernel
theorem dX7_undo_9 : decode cX7_undo 9 = .ok (.ifCond .ne 9, 3) := by decide +kernel
theorem dX7_undo_12 : decode cX7_undo 12 = .ok (.aload_n 0, 1) := by decide +kernel
theorem dX7_undo_13 : decode cX7_undo 13 = .ok (.iconst 1, 1) := by decide +kernel
theorem dX7_undo_14 : decode cX7_undo 14 = .ok (.invokevirtual 76, 3) := by decide +kernel
theorem dX7_undo_17 : decode cX7_undo 17 = .ok (.ireturn, 1) := by decide +kernel
theorem dX7_undo_18 : decode cX7_undo 18 = .ok (.aload_n 0, 1) := by decide +kernel
theorem dX7_undo_19 : decode cX7_undo 19 = .ok (.dup, 1) := by decide +kernel
theorem dX7_undo_20 : decode cX7_undo 20 = .ok (.getfield 33, 3) := by decide +kernel
theorem dX7_undo_23 : decode cX7_undo 23 = .ok (.iconst 1, 1) := by decide +kernel
theorem dX7_undo_24 : decode cX7_undo 24 = .ok (.isub, 1) := by decide +kernel
theorem dX7_undo_25 : decode cX7_undo 25 = .ok (.putfield 33, 3) := by decide +kernel
theorem dX7_undo_28 : decode cX7_undo 28 = .ok (.iconst 0, 1) := by decide +kernel
theorem dX7_undo_29 : decode cX7_undo 29 = .ok (.istore_n 1, 1) := by decide +kernel
theorem dX7_undo_30 : decode cX7_undo 30 = .ok (.iload_n 1, 1) := by decide +kernel
theorem dX7_undo_31 : decode cX7_undo 31 = .ok (.bipush 69, 2) := by decide +kernel
theorem dX7_undo_33 : decode cX7_undo 33 = .ok (.if_icmp .ge 29, 3) := by decide +kernel
theorem dX7_undo_36 : decode cX7_undo 36 = .ok (.aload_n 0, 1) := by decide +kernel
theorem dX7_undo_37 : decode cX7_undo 37 = .ok (.getfield 7, 3) := by decide +kernel
theorem dX7_undo_40 : decode cX7_undo 40 = .ok (.iload_n 1, 1) := by decide +kernel
theorem dX7_undo_41 : decode cX7_undo 41 = .ok (.aload_n 0, 1) := by decide +kernel
theorem dX7_undo_42 : decode cX7_undo 42 = .ok (.getfield 16, 3) := by decide +kernel
theorem dX7_undo_45 : decode cX7_undo 45 = .ok (.bipush 69, 2) := by decide +kernel
theorem dX7_undo_47 : decode cX7_undo 47 = .ok (.aload_n 0, 1) := by decide +kernel
theorem dX7_undo_48 : decode cX7_undo 48 = .ok (.getfield 33, 3) := by decide +kernel
theorem dX7_undo_51 : decode cX7_undo 51 = .ok (.imul, 1) := by decide +kernel
theorem dX7_undo_52 : decode cX7_undo 52 = .ok (.iload_n 1, 1) := by decide +kernel
theorem dX7_undo_53 : decode cX7_undo 53 = .ok (.iadd, 1) := by decide +kernel
theorem dX7_undo_54 : decode cX7_undo 54 = .ok (.iaload, 1) := by decide +kernel
theorem dX7_undo_55 : decode cX7_undo 55 = .ok (.iastore, 1) := by decide +kernel
theorem dX7_undo_56 : decode cX7_undo 56 = .ok (.iinc 1 1, 3) := by decide +kernel
theorem dX7_undo_59 : decode cX7_undo 59 = .ok (.goto (-29), 3) := by decide +kernel
theorem dX7_undo_62 : decode cX7_undo 62 = .ok (.aload_n 0, 1) := by decide +kernel
theorem dX7_undo_63 : decode cX7_undo 63 = .ok (.getfield 33, 3) := by decide +kernel
theorem dX7_undo_66 : decode cX7_undo 66 = .ok (.ireturn, 1) := by decide +kernel
theorem dX7_ofDial_0 : decode cX7_ofDial 0 = .ok (.iload_n 2, 1) := by decide +kernel
theorem dX7_ofDial_1 : decode cX7_ofDial 1 = .ok (.tableswitch 132 0 5 #[39, 49, 79, 89, 102, 112], 39) := by decide +kernel
theorem dX7_ofDial_40 : decode cX7_ofDial 40 = .ok (.aload_n 0, 1) := by decide +kernel
theorem dX7_ofDial_41 : decode cX7_ofDial 41 = .ok (.getfield 7, 3) := by decide +kernel
theorem dX7_ofDial_44 : decode cX7_ofDial 44 = .ok (.bipush 6, 2) := by decide +kernel
theorem dX7_ofDial_46 : decode cX7_ofDial 46 = .ok (.iload_n 1, 1) := by decide +kernel
theorem dX7_ofDial_47 : decode cX7_ofDial 47 = .ok (.iadd, 1) := by decide +kernel
theorem dX7_ofDial_48 : decode cX7_ofDial 48 = .ok (.iaload, 1) := by decide +kernel
theorem dX7_ofDial_49 : decode cX7_ofDial 49 = .ok (.ireturn, 1) := by decide +kernel
theorem dX7_ofDial_50 : decode cX7_ofDial 50 = .ok (.aload_n 0, 1) := by decide +kernel
theorem dX7_ofDial_51 : decode cX7_ofDial 51 = .ok (.getfield 7, 3) := by decide +kernel
theorem dX7_ofDial_54 : decode cX7_ofDial 54 = .ok (.bipush 27, 2) := by decide +kernel
theorem dX7_ofDial_56 : decode cX7_ofDial 56 = .ok (.iload_n 1, 1) := by decide +kernel
theorem dX7_ofDial_57 : decode cX7_ofDial 57 = .ok (.iadd, 1) := by decide +kernel
theorem dX7_ofDial_58 : decode cX7_ofDial 58 = .ok (.iaload, 1) := by decide +kernel
theorem dX7_ofDial_59 : decode cX7_ofDial 59 = .ok (.aload_n 0, 1) := by decide +kernel
theorem dX7_ofDial_60 : decode cX7_ofDial 60 = .ok (.getfield 7, 3) := by decide +kernel
theorem dX7_ofDial_63 : decode cX7_ofDial 63 = .ok (.bipush 34, 2) := by decide +kernel
theorem dX7_ofDial_65 : decode cX7_ofDial 65 = .ok (.iload_n 1, 1) := by decide +kernel
theorem dX7_ofDial_66 : decode cX7_ofDial 66 = .ok (.iadd, 1) := by decide +kernel
theorem dX7_ofDial_67 : decode cX7_ofDial 67 = .ok (.iaload, 1) := by decide +kernel
theorem dX7_ofDial_68 : decode cX7_ofDial 68 = .ok (.iadd, 1) := by decide +kernel
theorem dX7_ofDial_69 : decode cX7_ofDial 69 = .ok (.aload_n 0, 1) := by decide +kernel
theorem dX7_ofDial_70 : decode cX7_ofDial 70 = .ok (.getfield 7, 3) := by decide +kernel
theorem dX7_ofDial_73 : decode cX7_ofDial 73 = .ok (.bipush 41, 2) := by decide +kernel
theorem dX7_ofDial_75 : decode cX7_ofDial 75 = .ok (.iload_n 1, 1) := by decide +kernel
theorem dX7_ofDial_76 : decode cX7_ofDial 76 = .ok (.iadd, 1) := by decide +kernel
theorem dX7_ofDial_77 : decode cX7_ofDial 77 = .ok (.iaload, 1) := by decide +kernel
theorem dX7_ofDial_78 : decode cX7_ofDial 78 = .ok (.isub, 1) := by decide +kernel
theorem dX7_ofDial_79 : decode cX7_ofDial 79 = .ok (.ireturn, 1) := by decide +kernel
theorem dX7_ofDial_80 : decode cX7_ofDial 80 = .ok (.aload_n 0, 1) := by decide +kernel
theorem dX7_ofDial_81 : decode cX7_ofDial 81 = .ok (.getfield 7, 3) := by decide +kernel
theorem dX7_ofDial_84 : decode cX7_ofDial 84 = .ok (.bipush 13, 2) := by decide +kernel
theorem dX7_ofDial_86 : decode cX7_ofDial 86 = .ok (.iload_n 1, 1) := by decide +kernel
theorem dX7_ofDial_87 : decode cX7_ofDial 87 = .ok (.iadd, 1) := by decide +kernel
theorem dX7_ofDial_88 : decode cX7_ofDial 88 = .ok (.iaload, 1) := by decide +kernel
theorem dX7_ofDial_89 : decode cX7_ofDial 89 = .ok (.ireturn, 1) := by decide +kernel
theorem dX7_ofDial_90 : decode cX7_ofDial 90 = .ok (.aload_n 0, 1) := by decide +kernel
theorem dX7_ofDial_91 : decode cX7_ofDial 91 = .ok (.getfield 7, 3) := by decide +kernel
theorem dX7_ofDial_94 : decode cX7_ofDial 94 = .ok (.bipush 6, 2) := by decide +kernel
theorem dX7_ofDial_96 : decode cX7_ofDial 96 = .ok (.iload_n 1, 1) := by decide +kernel
theorem dX7_ofDial_97 : decode cX7_ofDial 97 = .ok (.iadd, 1) := by decide +kernel
theorem dX7_ofDial_98 : decode cX7_ofDial 98 = .ok (.iaload, 1) := by decide +kernel
theorem dX7_ofDial_99 : decode cX7_ofDial 99 = .ok (.bipush 60, 2) := by decide +kernel
theorem dX7_ofDial_101 : decode cX7_ofDial 101 = .ok (.idiv, 1) := by decide +kernel
theorem dX7_ofDial_102 : decode cX7_ofDial 102 = .ok (.ireturn, 1) := by decide +kernel
theorem dX7_ofDial_103 : decode cX7_ofDial 103 = .ok (.aload_n 0, 1) := by decide +kernel
theorem dX7_ofDial_104 : decode cX7_ofDial 104 = .ok (.getfield 7, 3) := by decide +kernel
theorem dX7_ofDial_107 : decode cX7_ofDial 107 = .ok (.bipush 20, 2) := by decide +kernel
theorem dX7_ofDial_109 : decode cX7_ofDial 109 = .ok (.iload_n 1, 1) := by decide +kernel
theorem dX7_ofDial_110 : decode cX7_ofDial 110 = .ok (.iadd, 1) := by decide +kernel
theorem dX7_ofDial_111 : decode cX7_ofDial 111 = .ok (.iaload, 1) := by decide +kernel
theorem dX7_ofDial_112 : decode cX7_ofDial 112 = .ok (.ireturn, 1) := by decide +kernel
theorem dX7_ofDial_113 : decode cX7_ofDial 113 = .ok (.aload_n 0, 1) := by decide +kernel
theorem dX7_ofDial_114 : decode cX7_ofDial 114 = .ok (.getfield 7, 3) := by decide +kernel
theorem dX7_ofDial_117 : decode cX7_ofDial 117 = .ok (.bipush 6, 2) := by decide +kernel
theorem dX7_ofDial_119 : decode cX7_ofDial 119 = .ok (.iload_n 1, 1) := by decide +kernel
theorem dX7_ofDial_120 : decode cX7_ofDial 120 = .ok (.iadd, 1) := by decide +kernel
theorem dX7_ofDial_121 : decode cX7_ofDial 121 = .ok (.iaload, 1) := by decide +kernel
theorem dX7_ofDial_122 : decode cX7_ofDial 122 = .ok (.aload_n 0, 1) := by decide +kernel
theorem dX7_ofDial_123 : decode cX7_ofDial 123 = .ok (.getfield 7, 3) := by decide +kernel
theorem dX7_ofDial_126 : decode cX7_ofDial 126 = .ok (.iconst 0, 1) := by decide +kernel
theorem dX7_ofDial_127 : decode cX7_ofDial 127 = .ok (.iaload, 1) := by decide +kernel
theorem dX7_ofDial_128 : decode cX7_ofDial 128 = .ok (.isub, 1) := by decide +kernel
theorem dX7_ofDial_129 : decode cX7_ofDial 129 = .ok (.invokestatic 49, 3) := by decide +kernel
theorem dX7_ofDial_132 : decode cX7_ofDial 132 = .ok (.ireturn, 1) := by decide +kernel
theorem dX7_ofDial_133 : decode cX7_ofDial 133 = .ok (.aload_n 0, 1) := by decide +kernel
theorem dX7_ofDial_134 : decode cX7_ofDial 134 = .ok (.iload_n 1, 1) := by decide +kernel
theorem dX7_ofDial_135 : decode cX7_ofDial 135 = .ok (.invokevirtual 45, 3) := by decide +kernel
theorem dX7_ofDial_138 : decode cX7_ofDial 138 = .ok (.aload_n 0, 1) := by decide +kernel
theorem dX7_ofDial_139 : decode cX7_ofDial 139 = .ok (.getfield 7, 3) := by decide +kernel
theorem dX7_ofDial_142 : decode cX7_ofDial 142 = .ok (.bipush 6, 2) := by decide +kernel
theorem dX7_ofDial_144 : decode cX7_ofDial 144 = .ok (.iload_n 1, 1) := by decide +kernel
theorem dX7_ofDial_145 : decode cX7_ofDial 145 = .ok (.iadd, 1) := by decide +kernel
theorem dX7_ofDial_146 : decode cX7_ofDial 146 = .ok (.iaload, 1) := by decide +kernel
theorem dX7_ofDial_147 : decode cX7_ofDial 147 = .ok (.if_icmp .ne 7, 3) := by decide +kernel
theorem dX7_ofDial_150 : decode cX7_ofDial 150 = .ok (.iconst 0, 1) := by decide +kernel
theorem dX7_ofDial_151 : decode cX7_ofDial 151 = .ok (.goto 4, 3) := by decide +kernel
theorem dX7_ofDial_154 : decode cX7_ofDial 154 = .ok (.iconst 1, 1) := by decide +kernel
theorem dX7_ofDial_155 : decode cX7_ofDial 155 = .ok (.ireturn, 1) := by decide +kernel
theorem dX7_dial_0 : decode cX7_dial 0 = .ok (.aload_n 0, 1) := by decide +kernel
theorem dX7_dial_1 : decode cX7_dial 1 = .ok (.iconst 0, 1) := by decide +kernel
theorem dX7_dial_2 : decode cX7_dial 2 = .ok (.putfield 25, 3) := by decide +kernel
theorem dX7_dial_5 : decode cX7_dial 5 = .ok (.iload_n 1, 1) := by decide +kernel
theorem dX7_dial_6 : decode cX7_dial 6 = .ok (.invokestatic 91, 3) := by decide +kernel
theorem dX7_dial_9 : decode cX7_dial 9 = .ok (.ifCond .ne 11, 3) := by decide +kernel
theorem dX7_dial_12 : decode cX7_dial 12 = .ok (.aload_n 0, 1) := by decide +kernel
theorem dX7_dial_13 : decode cX7_dial 13 = .ok (.iconst 1, 1) := by decide +kernel
theorem dX7_dial_14 : decode cX7_dial 14 = .ok (.invokevirtual 76, 3) := by decide +kernel
theorem dX7_dial_17 : decode cX7_dial 17 = .ok (.goto 27, 3) := by decide +kernel
theorem dX7_dial_20 : decode cX7_dial 20 = .ok (.iload_n 2, 1) := by decide +kernel
theorem dX7_dial_21 : decode cX7_dial 21 = .ok (.iconst 0, 1) := by decide +kernel
theorem dX7_dial_22 : decode cX7_dial 22 = .ok (.bipush 6, 2) := by decide +kernel
theorem dX7_dial_24 : decode cX7_dial 24 = .ok (.invokestatic 29, 3) := by decide +kernel
theorem dX7_dial_27 : decode cX7_dial 27 = .ok (.ifCond .eq 12, 3) := by decide +kernel
theorem dX7_dial_30 : decode cX7_dial 30 = .ok (.aload_n 0, 1) := by decide +kernel
theorem dX7_dial_31 : decode cX7_dial 31 = .ok (.iload_n 1, 1) := by decide +kernel
theorem dX7_dial_32 : decode cX7_dial 32 = .ok (.iload_n 2, 1) := by decide +kernel
theorem dX7_dial_33 : decode cX7_dial 33 = .ok (.invokevirtual 122, 3) := by decide +kernel
theorem dX7_dial_36 : decode cX7_dial 36 = .ok (.goto 8, 3) := by decide +kernel
theorem dX7_dial_39 : decode cX7_dial 39 = .ok (.aload_n 0, 1) := by decide +kernel
theorem dX7_dial_40 : decode cX7_dial 40 = .ok (.iconst 2, 1) := by decide +kernel
theorem dX7_dial_41 : decode cX7_dial 41 = .ok (.invokevirtual 76, 3) := by decide +kernel
theorem dX7_dial_44 : decode cX7_dial 44 = .ok (.ireturn, 1) := by decide +kernel
theorem dX7_placeOf_0 : decode cX7_placeOf 0 = .ok (.iconst 0, 1) := by decide +kernel
theorem dX7_placeOf_1 : decode cX7_placeOf 1 = .ok (.istore_n 2, 1) := by decide +kernel
theorem dX7_placeOf_2 : decode cX7_placeOf 2 = .ok (.iconst 0, 1) := by decide +kernel
theorem dX7_placeOf_3 : decode cX7_placeOf 3 = .ok (.istore_n 3, 1) := by decide +kernel
theorem dX7_placeOf_4 : decode cX7_placeOf 4 = .ok (.iload_n 3, 1) := by decide +kernel
theorem dX7_placeOf_5 : decode cX7_placeOf 5 = .ok (.bipush 7, 2) := by decide +kernel
theorem dX7_placeOf_7 : decode cX7_placeOf 7 = .ok (.if_icmp .ge 48, 3) := by decide +kernel
theorem dX7_placeOf_10 : decode cX7_placeOf 10 = .ok (.iload_n 2, 1) := by decide +kernel
theorem dX7_placeOf_11 : decode cX7_placeOf 11 = .ok (.aload_n 0, 1) := by decide +kernel
theorem dX7_placeOf_12 : decode cX7_placeOf 12 = .ok (.iload_n 3, 1) := by decide +kernel
theorem dX7_placeOf_13 : decode cX7_placeOf 13 = .ok (.invokevirtual 56, 3) := by decide +kernel
theorem dX7_placeOf_16 : decode cX7_placeOf 16 = .ok (.aload_n 0, 1) := by decide +kernel
theorem dX7_placeOf_17 : decode cX7_placeOf 17 = .ok (.iload_n 1, 1) := by decide +kernel
theorem dX7_placeOf_18 : decode cX7_placeOf 18 = .ok (.invokevirtual 56, 3) := by decide +kernel
theorem dX7_placeOf_21 : decode cX7_placeOf 21 = .ok (.if_icmp .lt 21, 3) := by decide +kernel
theorem dX7_placeOf_24 : decode cX7_placeOf 24 = .ok (.aload_n 0, 1) := by decide +kernel
theorem dX7_placeOf_25 : decode cX7_placeOf 25 = .ok (.iload_n 3, 1) := by decide +kernel
theorem dX7_placeOf_26 : decode cX7_placeOf 26 = .ok (.invokevirtual 56, 3) := by decide +kernel
theorem dX7_placeOf_29 : decode cX7_placeOf 29 = .ok (.aload_n 0, 1) := by decide +kernel
theorem dX7_placeOf_30 : decode cX7_placeOf 30 = .ok (.iload_n 1, 1) := by decide +kernel
theorem dX7_placeOf_31 : decode cX7_placeOf 31 = .ok (.invokevirtual 56, 3) := by decide +kernel
theorem dX7_placeOf_34 : decode cX7_placeOf 34 = .ok (.if_icmp .ne 12, 3) := by decide +kernel
theorem dX7_placeOf_37 : decode cX7_placeOf 37 = .ok (.iload_n 3, 1) := by decide +kernel
theorem dX7_placeOf_38 : decode cX7_placeOf 38 = .ok (.iload_n 1, 1) := by decide +kernel
theorem dX7_placeOf_39 : decode cX7_placeOf 39 = .ok (.if_icmp .ge 7, 3) := by decide +kernel
theorem dX7_placeOf_42 : decode cX7_placeOf 42 = .ok (.iconst 1, 1) := by decide +kernel
theorem dX7_placeOf_43 : decode cX7_placeOf 43 = .ok (.goto 4, 3) := by decide +kernel
theorem dX7_placeOf_46 : decode cX7_placeOf 46 = .ok (.iconst 0, 1) := by decide +kernel
theorem dX7_placeOf_47 : decode cX7_placeOf 47 = .ok (.iadd, 1) := by decide +kernel
theorem dX7_placeOf_48 : decode cX7_placeOf 48 = .ok (.istore_n 2, 1) := by decide +kernel
theorem dX7_placeOf_49 : decode cX7_placeOf 49 = .ok (.iinc 3 1, 3) := by decide +kernel
theorem dX7_placeOf_52 : decode cX7_placeOf 52 = .ok (.goto (-48), 3) := by decide +kernel
theorem dX7_placeOf_55 : decode cX7_placeOf 55 = .ok (.iload_n 2, 1) := by decide +kernel
theorem dX7_placeOf_56 : decode cX7_placeOf 56 = .ok (.ireturn, 1) := by decide +kernel
theorem dX7_ofWarden_0 : decode cX7_ofWarden 0 = .ok (.iload_n 2, 1) := by decide +kernel
theorem dX7_ofWarden_1 : decode cX7_ofWarden 1 = .ok (.tableswitch 77 0 4 #[35, 45, 55, 61, 71], 35) := by decide +kernel
theorem dX7_ofWarden_36 : decode cX7_ofWarden 36 = .ok (.aload_n 0, 1) := by decide +kernel
theorem dX7_ofWarden_37 : decode cX7_ofWarden 37 = .ok (.getfield 7, 3) := by decide +kernel
theorem dX7_ofWarden_40 : decode cX7_ofWarden 40 = .ok (.bipush 48, 2) := by decide +kernel
theorem dX7_ofWarden_42 : decode cX7_ofWarden 42 = .ok (.iload_n 1, 1) := by decide +kernel
theorem dX7_ofWarden_43 : decode cX7_ofWarden 43 = .ok (.iadd, 1) := by decide +kernel
theorem dX7_ofWarden_44 : decode cX7_ofWarden 44 = .ok (.iaload, 1) := by decide +kernel
theorem dX7_ofWarden_45 : decode cX7_ofWarden 45 = .ok (.ireturn, 1) := by decide +kernel
theorem dX7_ofWarden_46 : decode cX7_ofWarden 46 = .ok (.aload_n 0, 1) := by decide +kernel
theorem dX7_ofWarden_47 : decode cX7_ofWarden 47 = .ok (.getfield 7, 3) := by decide +kernel
theorem dX7_ofWarden_50 : decode cX7_ofWarden 50 = .ok (.bipush 55, 2) := by decide +kernel
theorem dX7_ofWarden_52 : decode cX7_ofWarden 52 = .ok (.iload_n 1, 1) := by decide +kernel
theorem dX7_ofWarden_53 : decode cX7_ofWarden 53 = .ok (.iadd, 1) := by decide +kernel
theorem dX7_ofWarden_54 : decode cX7_ofWarden 54 = .ok (.iaload, 1) := by decide +kernel
theorem dX7_ofWarden_55 : decode cX7_ofWarden 55 = .ok (.ireturn, 1) := by decide +kernel
theorem dX7_ofWarden_56 : decode cX7_ofWarden 56 = .ok (.aload_n 0, 1) := by decide +kernel
theorem dX7_ofWarden_57 : decode cX7_ofWarden 57 = .ok (.iload_n 1, 1) := by decide +kernel
theorem dX7_ofWarden_58 : decode cX7_ofWarden 58 = .ok (.invokevirtual 56, 3) := by decide +kernel
theorem dX7_ofWarden_61 : decode cX7_ofWarden 61 = .ok (.ireturn, 1) := by decide +kernel
theorem dX7_ofWarden_62 : decode cX7_ofWarden 62 = .ok (.aload_n 0, 1) := by decide +kernel
theorem dX7_ofWarden_63 : decode cX7_ofWarden 63 = .ok (.getfield 7, 3) := by decide +kernel
theorem dX7_ofWarden_66 : decode cX7_ofWarden 66 = .ok (.bipush 62, 2) := by decide +kernel
theorem dX7_ofWarden_68 : decode cX7_ofWarden 68 = .ok (.iload_n 1, 1) := by decide +kernel
theorem dX7_ofWarden_69 : decode cX7_ofWarden 69 = .ok (.iadd, 1) := by decide +kernel
theorem dX7_ofWarden_70 : decode cX7_ofWarden 70 = .ok (.iaload, 1) := by decide +kernel
theorem dX7_ofWarden_71 : decode cX7_ofWarden 71 = .ok (.ireturn, 1) := by decide +kernel
theorem dX7_ofWarden_72 : decode cX7_ofWarden 72 = .ok (.aload_n 0, 1) := by decide +kernel
theorem dX7_ofWarden_73 : decode cX7_ofWarden 73 = .ok (.iload_n 1, 1) := by decide +kernel
theorem dX7_ofWarden_74 : decode cX7_ofWarden 74 = .ok (.invokevirtual 125, 3) := by decide +kernel
theorem dX7_ofWarden_77 : decode cX7_ofWarden 77 = .ok (.ireturn, 1) := by decide +kernel
theorem dX7_ofWarden_78 : decode cX7_ofWarden 78 = .ok (.aload_n 0, 1) := by decide +kernel
theorem dX7_ofWarden_79 : decode cX7_ofWarden 79 = .ok (.iload_n 1, 1) := by decide +kernel
theorem dX7_ofWarden_80 : decode cX7_ofWarden 80 = .ok (.invokevirtual 65, 3) := by decide +kernel
theorem dX7_ofWarden_83 : decode cX7_ofWarden 83 = .ok (.ifCond .eq 7, 3) := by decide +kernel
theorem dX7_ofWarden_86 : decode cX7_ofWarden 86 = .ok (.iconst 1, 1) := by decide +kernel
theorem dX7_ofWarden_87 : decode cX7_ofWarden 87 = .ok (.goto 4, 3) := by decide +kernel
theorem dX7_ofWarden_90 : decode cX7_ofWarden 90 = .ok (.iconst 0, 1) := by decide +kernel
theorem dX7_ofWarden_91 : decode cX7_ofWarden 91 = .ok (.aload_n 0, 1) := by decide +kernel
theorem dX7_ofWarden_92 : decode cX7_ofWarden 92 = .ok (.iload_n 1, 1) := by decide +kernel
theorem dX7_ofWarden_93 : decode cX7_ofWarden 93 = .ok (.bipush 7, 2) := by decide +kernel
theorem dX7_ofWarden_95 : decode cX7_ofWarden 95 = .ok (.iadd, 1) := by decide +kernel
theorem dX7_ofWarden_96 : decode cX7_ofWarden 96 = .ok (.iconst 1, 1) := by decide +kernel
theorem dX7_ofWarden_97 : decode cX7_ofWarden 97 = .ok (.isub, 1) := by decide +kernel
theorem dX7_ofWarden_98 : decode cX7_ofWarden 98 = .ok (.bipush 7, 2) := by decide +kernel
theorem dX7_ofWarden_100 : decode cX7_ofWarden 100 = .ok (.irem, 1) := by decide +kernel
theorem dX7_ofWarden_101 : decode cX7_ofWarden 101 = .ok (.invokevirtual 65, 3) := by decide +kernel
theorem dX7_ofWarden_104 : decode cX7_ofWarden 104 = .ok (.ifCond .eq 7, 3) := by decide +kernel
theorem dX7_ofWarden_107 : decode cX7_ofWarden 107 = .ok (.iconst 1, 1) := by decide +kernel
theorem dX7_ofWarden_108 : decode cX7_ofWarden 108 = .ok (.goto 4, 3) := by decide +kernel
theorem dX7_ofWarden_111 : decode cX7_ofWarden 111 = .ok (.iconst 0, 1) := by decide +kernel
theorem dX7_ofWarden_112 : decode cX7_ofWarden 112 = .ok (.iadd, 1) := by decide +kernel
theorem dX7_ofWarden_113 : decode cX7_ofWarden 113 = .ok (.ireturn, 1) := by decide +kernel
theorem dX7_says_0 : decode cX7_says 0 = .ok (.aload_n 0, 1) := by decide +kernel
theorem dX7_says_1 : decode cX7_says 1 = .ok (.iconst 0, 1) := by decide +kernel
theorem dX7_says_2 : decode cX7_says 2 = .ok (.putfield 25, 3) := by decide +kernel
theorem dX7_says_5 : decode cX7_says 5 = .ok (.iload_n 1, 1) := by decide +kernel
theorem dX7_says_6 : decode cX7_says 6 = .ok (.invokestatic 91, 3) := by decide +kernel
theorem dX7_says_9 : decode cX7_says 9 = .ok (.ifCond .ne 11, 3) := by decide +kernel
theorem dX7_says_12 : decode cX7_says 12 = .ok (.aload_n 0, 1) := by decide +kernel
theorem dX7_says_13 : decode cX7_says 13 = .ok (.iconst 1, 1) := by decide +kernel
theorem dX7_says_14 : decode cX7_says 14 = .ok (.invokevirtual 76, 3) := by decide +kernel
theorem dX7_says_17 : decode cX7_says 17 = .ok (.goto 26, 3) := by decide +kernel
theorem dX7_says_20 : decode cX7_says 20 = .ok (.iload_n 2, 1) := by decide +kernel
theorem dX7_says_21 : decode cX7_says 21 = .ok (.iconst 0, 1) := by decide +kernel
theorem dX7_says_22 : decode cX7_says 22 = .ok (.iconst 5, 1) := by decide +kernel
theorem dX7_says_23 : decode cX7_says 23 = .ok (.invokestatic 29, 3) := by decide +kernel
theorem dX7_says_26 : decode cX7_says 26 = .ok (.ifCond .eq 12, 3) := by decide +kernel
theorem dX7_says_29 : decode cX7_says 29 = .ok (.aload_n 0, 1) := by decide +kernel
theorem dX7_says_30 : decode cX7_says 30 = .ok (.iload_n 1, 1) := by decide +kernel
theorem dX7_says_31 : decode cX7_says 31 = .ok (.iload_n 2, 1) := by decide +kernel
theorem dX7_says_32 : decode cX7_says 32 = .ok (.invokevirtual 128, 3) := by decide +kernel
theorem dX7_says_35 : decode cX7_says 35 = .ok (.goto 8, 3) := by decide +kernel
theorem dX7_says_38 : decode cX7_says 38 = .ok (.aload_n 0, 1) := by decide +kernel
theorem dX7_says_39 : decode cX7_says 39 = .ok (.iconst 2, 1) := by decide +kernel
theorem dX7_says_40 : decode cX7_says 40 = .ok (.invokevirtual 76, 3) := by decide +kernel
theorem dX7_says_43 : decode cX7_says 43 = .ok (.ireturn, 1) := by decide +kernel
theorem dX7_all_0 : decode cX7_all 0 = .ok (.iconst 0, 1) := by decide +kernel
theorem dX7_all_1 : decode cX7_all 1 = .ok (.istore_n 2, 1) := by decide +kernel
theorem dX7_all_2 : decode cX7_all 2 = .ok (.iconst 0, 1) := by decide +kernel
theorem dX7_all_3 : decode cX7_all 3 = .ok (.istore_n 3, 1) := by decide +kernel
theorem dX7_all_4 : decode cX7_all 4 = .ok (.iload_n 3, 1) := by decide +kernel
theorem dX7_all_5 : decode cX7_all 5 = .ok (.bipush 7, 2) := by decide +kernel
theorem dX7_all_7 : decode cX7_all 7 = .ok (.if_icmp .ge 20, 3) := by decide +kernel
theorem dX7_all_10 : decode cX7_all 10 = .ok (.iload_n 2, 1) := by decide +kernel
theorem dX7_all_11 : decode cX7_all 11 = .ok (.aload_n 0, 1) := by decide +kernel
theorem dX7_all_12 : decode cX7_all 12 = .ok (.getfield 7, 3) := by decide +kernel
theorem dX7_all_15 : decode cX7_all 15 = .ok (.iload_n 1, 1) := by decide +kernel
theorem dX7_all_16 : decode cX7_all 16 = .ok (.iload_n 3, 1) := by decide +kernel
theorem dX7_all_17 : decode cX7_all 17 = .ok (.iadd, 1) := by decide +kernel
theorem dX7_all_18 : decode cX7_all 18 = .ok (.iaload, 1) := by decide +kernel
theorem dX7_all_19 : decode cX7_all 19 = .ok (.iadd, 1) := by decide +kernel
theorem dX7_all_20 : decode cX7_all 20 = .ok (.istore_n 2, 1) := by decide +kernel
theorem dX7_all_21 : decode cX7_all 21 = .ok (.iinc 3 1, 3) := by decide +kernel
theorem dX7_all_24 : decode cX7_all 24 = .ok (.goto (-20), 3) := by decide +kernel
theorem dX7_all_27 : decode cX7_all 27 = .ok (.iload_n 2, 1) := by decide +kernel
theorem dX7_all_28 : decode cX7_all 28 = .ok (.ireturn, 1) := by decide +kernel
theorem dX7_number_0 : decode cX7_number 0 = .ok (.iload_n 1, 1) := by decide +kernel
theorem dX7_number_1 : decode cX7_number 1 = .ok (.tableswitch 153 0 12 #[67, 74, 81, 81, 86, 91, 96, 103, 110, 117, 124, 131, 136], 67) := by decide +kernel
theorem dX7_number_68 : decode cX7_number 68 = .ok (.aload_n 0, 1) := by decide +kernel
theorem dX7_number_69 : decode cX7_number 69 = .ok (.getfield 7, 3) := by decide +kernel
theorem dX7_number_72 : decode cX7_number 72 = .ok (.iconst 0, 1) := by decide +kernel
theorem dX7_number_73 : decode cX7_number 73 = .ok (.iaload, 1) := by decide +kernel
theorem dX7_number_74 : decode cX7_number 74 = .ok (.ireturn, 1) := by decide +kernel
theorem dX7_number_75 : decode cX7_number 75 = .ok (.aload_n 0, 1) := by decide +kernel
theorem dX7_number_76 : decode cX7_number 76 = .ok (.getfield 7, 3) := by decide +kernel
theorem dX7_number_79 : decode cX7_number 79 = .ok (.iconst 1, 1) := by decide +kernel
theorem dX7_number_80 : decode cX7_number 80 = .ok (.iaload, 1) := by decide +kernel
theorem dX7_number_81 : decode cX7_number 81 = .ok (.ireturn, 1) := by decide +kernel
theorem dX7_number_82 : decode cX7_number 82 = .ok (.aload_n 0, 1) := by decide +kernel
theorem dX7_number_83 : decode cX7_number 83 = .ok (.invokevirtual 69, 3) := by decide +kernel
theorem dX7_number_86 : decode cX7_number 86 = .ok (.ireturn, 1) := by decide +kernel
theorem dX7_number_87 : decode cX7_number 87 = .ok (.aload_n 0, 1) := by decide +kernel
theorem dX7_number_88 : decode cX7_number 88 = .ok (.invokevirtual 59, 3) := by decide +kernel
theorem dX7_number_91 : decode cX7_number 91 = .ok (.ireturn, 1) := by decide +kernel
theorem dX7_number_92 : decode cX7_number 92 = .ok (.aload_n 0, 1) := by decide +kernel
theorem dX7_number_93 : decode cX7_number 93 = .ok (.invokevirtual 131, 3) := by decide +kernel
theorem dX7_number_96 : decode cX7_number 96 = .ok (.ireturn, 1) := by decide +kernel
theorem dX7_number_97 : decode cX7_number 97 = .ok (.aload_n 0, 1) := by decide +kernel
theorem dX7_number_98 : decode cX7_number 98 = .ok (.getfield 7, 3) := by decide +kernel
theorem dX7_number_101 : decode cX7_number 101 = .ok (.iconst 4, 1) := by decide +kernel
theorem dX7_number_102 : decode cX7_number 102 = .ok (.iaload, 1) := by decide +kernel
theorem dX7_number_103 : decode cX7_number 103 = .ok (.ireturn, 1) := by decide +kernel
theorem dX7_number_104 : decode cX7_number 104 = .ok (.aload_n 0, 1) := by decide +kernel
theorem dX7_number_105 : decode cX7_number 105 = .ok (.getfield 7, 3) := by decide +kernel
theorem dX7_number_108 : decode cX7_number 108 = .ok (.iconst 5, 1) := by decide +kernel
theorem dX7_number_109 : decode cX7_number 109 = .ok (.iaload, 1) := by decide +kernel
theorem dX7_number_110 : decode cX7_number 110 = .ok (.ireturn, 1) := by decide +kernel
theorem dX7_number_111 : decode cX7_number 111 = .ok (.aload_n 0, 1) := by decide +kernel
theorem dX7_number_112 : decode cX7_number 112 = .ok (.bipush 20, 2) := by decide +kernel
theorem dX7_number_114 : decode cX7_number 114 = .ok (.invokevirtual 134, 3) := by decide +kernel
theorem dX7_number_117 : decode cX7_number 117 = .ok (.ireturn, 1) := by decide +kernel
theorem dX7_number_118 : decode cX7_number 118 = .ok (.aload_n 0, 1) := by decide +kernel
theorem dX7_number_119 : decode cX7_number 119 = .ok (.bipush 34, 2) := by decide +kernel
theorem dX7_number_121 : decode cX7_number 121 = .ok (.invokevirtual 134, 3) := by decide +kernel
theorem dX7_number_124 : decode cX7_number 124 = .ok (.ireturn, 1) := by decide +kernel
theorem dX7_number_125 : decode cX7_number 125 = .ok (.aload_n 0, 1) := by decide +kernel
theorem dX7_number_126 : decode cX7_number 126 = .ok (.bipush 41, 2) := by decide +kernel
theorem dX7_number_128 : decode cX7_number 128 = .ok (.invokevirtual 134, 3) := by decide +kernel
theorem dX7_number_131 : decode cX7_number 131 = .ok (.ireturn, 1) := by decide +kernel
theorem dX7_number_132 : decode cX7_number 132 = .ok (.aload_n 0, 1) := by decide +kernel
theorem dX7_number_133 : decode cX7_number 133 = .ok (.invokevirtual 137, 3) := by decide +kernel
theorem dX7_number_136 : decode cX7_number 136 = .ok (.ireturn, 1) := by decide +kernel
theorem dX7_number_137 : decode cX7_number 137 = .ok (.aload_n 0, 1) := by decide +kernel
theorem dX7_number_138 : decode cX7_number 138 = .ok (.getfield 7, 3) := by decide +kernel
theorem dX7_number_141 : decode cX7_number 141 = .ok (.iconst 1, 1) := by decide +kernel
theorem dX7_number_142 : decode cX7_number 142 = .ok (.iaload, 1) := by decide +kernel
theorem dX7_number_143 : decode cX7_number 143 = .ok (.aload_n 0, 1) := by decide +kernel
theorem dX7_number_144 : decode cX7_number 144 = .ok (.getfield 7, 3) := by decide +kernel
theorem dX7_number_147 : decode cX7_number 147 = .ok (.iconst 0, 1) := by decide +kernel
theorem dX7_number_148 : decode cX7_number 148 = .ok (.iaload, 1) := by decide +kernel
theorem dX7_number_149 : decode cX7_number 149 = .ok (.isub, 1) := by decide +kernel
theorem dX7_number_150 : decode cX7_number 150 = .ok (.invokestatic 49, 3) := by decide +kernel
theorem dX7_number_153 : decode cX7_number 153 = .ok (.ireturn, 1) := by decide +kernel
theorem dX7_number_154 : decode cX7_number 154 = .ok (.aload_n 0, 1) := by decide +kernel
theorem dX7_number_155 : decode cX7_number 155 = .ok (.getfield 33, 3) := by decide +kernel
theorem dX7_number_158 : decode cX7_number 158 = .ok (.ireturn, 1) := by decide +kernel
theorem dX7_count_0 : decode cX7_count 0 = .ok (.aload_n 0, 1) := by decide +kernel
theorem dX7_count_1 : decode cX7_count 1 = .ok (.iconst 0, 1) := by decide +kernel
theorem dX7_count_2 : decode cX7_count 2 = .ok (.putfield 25, 3) := by decide +kernel
theorem dX7_count_5 : decode cX7_count 5 = .ok (.iload_n 1, 1) := by decide +kernel
theorem dX7_count_6 : decode cX7_count 6 = .ok (.iconst 0, 1) := by decide +kernel
theorem dX7_count_7 : decode cX7_count 7 = .ok (.bipush 13, 2) := by decide +kernel
theorem dX7_count_9 : decode cX7_count 9 = .ok (.invokestatic 29, 3) := by decide +kernel
theorem dX7_count_12 : decode cX7_count 12 = .ok (.ifCond .eq 11, 3) := by decide +kernel
theorem dX7_count_15 : decode cX7_count 15 = .ok (.aload_n 0, 1) := by decide +kernel
theorem dX7_count_16 : decode cX7_count 16 = .ok (.iload_n 1, 1) := by decide +kernel
theorem dX7_count_17 : decode cX7_count 17 = .ok (.invokevirtual 140, 3) := by decide +kernel
theorem dX7_count_20 : decode cX7_count 20 = .ok (.goto 8, 3) := by decide +kernel
theorem dX7_count_23 : decode cX7_count 23 = .ok (.aload_n 0, 1) := by decide +kernel
theorem dX7_count_24 : decode cX7_count 24 = .ok (.iconst 1, 1) := by decide +kernel
theorem dX7_count_25 : decode cX7_count 25 = .ok (.invokevirtual 76, 3) := by decide +kernel
theorem dX7_count_28 : decode cX7_count 28 = .ok (.ireturn, 1) := by decide +kernel
theorem dX7_setting_0 : decode cX7_setting 0 = .ok (.aload_n 0, 1) := by decide +kernel
theorem dX7_setting_1 : decode cX7_setting 1 = .ok (.iconst 0, 1) := by decide +kernel
theorem dX7_setting_2 : decode cX7_setting 2 = .ok (.putfield 25, 3) := by decide +kernel
theorem dX7_setting_5 : decode cX7_setting 5 = .ok (.iload_n 1, 1) := by decide +kernel
theorem dX7_setting_6 : decode cX7_setting 6 = .ok (.iconst 0, 1) := by decide +kernel
theorem dX7_setting_7 : decode cX7_setting 7 = .ok (.iconst 1, 1) := by decide +kernel
theorem dX7_setting_8 : decode cX7_setting 8 = .ok (.invokestatic 29, 3) := by decide +kernel
theorem dX7_setting_11 : decode cX7_setting 11 = .ok (.ifCond .eq 14, 3) := by decide +kernel
theorem dX7_setting_14 : decode cX7_setting 14 = .ok (.aload_n 0, 1) := by decide +kernel
theorem dX7_setting_15 : decode cX7_setting 15 = .ok (.getfield 7, 3) := by decide +kernel
theorem dX7_setting_18 : decode cX7_setting 18 = .ok (.iconst 2, 1) := by decide +kernel
theorem dX7_setting_19 : decode cX7_setting 19 = .ok (.iload_n 1, 1) := by decide +kernel
theorem dX7_setting_20 : decode cX7_setting 20 = .ok (.iadd, 1) := by decide +kernel
theorem dX7_setting_21 : decode cX7_setting 21 = .ok (.iaload, 1) := by decide +kernel
theorem dX7_setting_22 : decode cX7_setting 22 = .ok (.goto 8, 3) := by decide +kernel
theorem dX7_setting_25 : decode cX7_setting 25 = .ok (.aload_n 0, 1) := by decide +kernel
theorem dX7_setting_26 : decode cX7_setting 26 = .ok (.iconst 1, 1) := by decide +kernel
theorem dX7_setting_27 : decode cX7_setting 27 = .ok (.invokevirtual 76, 3) := by decide +kernel
theorem dX7_setting_30 : decode cX7_setting 30 = .ok (.ireturn, 1) := by decide +kernel
theorem dX7_middleWith_0 : decode cX7_middleWith 0 = .ok (.aload_n 0, 1) := by decide +kernel
theorem dX7_middleWith_1 : decode cX7_middleWith 1 = .ok (.getfield 7, 3) := by decide +kernel
theorem dX7_middleWith_4 : decode cX7_middleWith 4 = .ok (.bipush 48, 2) := by decide +kernel
theorem dX7_middleWith_6 : decode cX7_middleWith 6 = .ok (.iload_n 1, 1) := by decide +kernel
theorem dX7_middleWith_7 : decode cX7_middleWith 7 = .ok (.iadd, 1) := by decide +kernel
theorem dX7_middleWith_8 : decode cX7_middleWith 8 = .ok (.iaload, 1) := by decide +kernel
theorem dX7_middleWith_9 : decode cX7_middleWith 9 = .ok (.istore_n 3, 1) := by decide +kernel
theorem dX7_middleWith_10 : decode cX7_middleWith 10 = .ok (.aload_n 0, 1) := by decide +kernel
theorem dX7_middleWith_11 : decode cX7_middleWith 11 = .ok (.getfield 7, 3) := by decide +kernel
theorem dX7_middleWith_14 : decode cX7_middleWith 14 = .ok (.bipush 48, 2) := by decide +kernel
theorem dX7_middleWith_16 : decode cX7_middleWith 16 = .ok (.iload_n 1, 1) := by decide +kernel
theorem dX7_middleWith_17 : decode cX7_middleWith 17 = .ok (.iadd, 1) := by decide +kernel
theorem dX7_middleWith_18 : decode cX7_middleWith 18 = .ok (.iload_n 2, 1) := by decide +kernel
theorem dX7_middleWith_19 : decode cX7_middleWith 19 = .ok (.iastore, 1) := by decide +kernel
theorem dX7_middleWith_20 : decode cX7_middleWith 20 = .ok (.aload_n 0, 1) := by decide +kernel
theorem dX7_middleWith_21 : decode cX7_middleWith 21 = .ok (.invokevirtual 69, 3) := by decide +kernel
theorem dX7_middleWith_24 : decode cX7_middleWith 24 = .ok (.istore 4, 2) := by decide +kernel
theorem dX7_middleWith_26 : decode cX7_middleWith 26 = .ok (.aload_n 0, 1) := by decide +kernel
theorem dX7_middleWith_27 : decode cX7_middleWith 27 = .ok (.getfield 7, 3) := by decide +kernel
theorem dX7_middleWith_30 : decode cX7_middleWith 30 = .ok (.bipush 48, 2) := by decide +kernel
theorem dX7_middleWith_32 : decode cX7_middleWith 32 = .ok (.iload_n 1, 1) := by decide +kernel
theorem dX7_middleWith_33 : decode cX7_middleWith 33 = .ok (.iadd, 1) := by decide +kernel
theorem dX7_middleWith_34 : decode cX7_middleWith 34 = .ok (.iload_n 3, 1) := by decide +kernel
theorem dX7_middleWith_35 : decode cX7_middleWith 35 = .ok (.iastore, 1) := by decide +kernel
theorem dX7_middleWith_36 : decode cX7_middleWith 36 = .ok (.iload 4, 2) := by decide +kernel
theorem dX7_middleWith_38 : decode cX7_middleWith 38 = .ok (.ireturn, 1) := by decide +kernel
theorem dX7_without_0 : decode cX7_without 0 = .ok (.aload_n 0, 1) := by decide +kernel
theorem dX7_without_1 : decode cX7_without 1 = .ok (.iconst 0, 1) := by decide +kernel
theorem dX7_without_2 : decode cX7_without 2 = .ok (.putfield 25, 3) := by decide +kernel
theorem dX7_without_5 : decode cX7_without 5 = .ok (.iload_n 1, 1) := by decide +kernel
theorem dX7_without_6 : decode cX7_without 6 = .ok (.invokestatic 91, 3) := by decide +kernel
theorem dX7_without_9 : decode cX7_without 9 = .ok (.ifCond .eq 12, 3) := by decide +kernel
theorem dX7_without_12 : decode cX7_without 12 = .ok (.aload_n 0, 1) := by decide +kernel
theorem dX7_without_13 : decode cX7_without 13 = .ok (.iload_n 1, 1) := by decide +kernel
theorem dX7_without_14 : decode cX7_without 14 = .ok (.iconst 0, 1) := by decide +kernel
theorem dX7_without_15 : decode cX7_without 15 = .ok (.invokevirtual 143, 3) := by decide +kernel
theorem dX7_without_18 : decode cX7_without 18 = .ok (.goto 8, 3) := by decide +kernel
theorem dX7_without_21 : decode cX7_without 21 = .ok (.aload_n 0, 1) := by decide +kernel
theorem dX7_without_22 : decode cX7_without 22 = .ok (.iconst 1, 1) := by decide +kernel
theorem dX7_without_23 : decode cX7_without 23 = .ok (.invokevirtual 76, 3) := by decide +kernel
theorem dX7_without_26 : decode cX7_without 26 = .ok (.ireturn, 1) := by decide +kernel
theorem dX7_matters_0 : decode cX7_matters 0 = .ok (.aload_n 0, 1) := by decide +kernel
theorem dX7_matters_1 : decode cX7_matters 1 = .ok (.invokevirtual 69, 3) := by decide +kernel
theorem dX7_matters_4 : decode cX7_matters 4 = .ok (.istore_n 1, 1) := by decide +kernel
theorem dX7_matters_5 : decode cX7_matters 5 = .ok (.iconst (-1), 1) := by decide +kernel
theorem dX7_matters_6 : decode cX7_matters 6 = .ok (.istore_n 2, 1) := by decide +kernel
theorem dX7_matters_7 : decode cX7_matters 7 = .ok (.iconst (-1), 1) := by decide +kernel
theorem dX7_matters_8 : decode cX7_matters 8 = .ok (.istore_n 3, 1) := by decide +kernel
theorem dX7_matters_9 : decode cX7_matters 9 = .ok (.iconst 0, 1) := by decide +kernel
theorem dX7_matters_10 : decode cX7_matters 10 = .ok (.istore 4, 2) := by decide +kernel
theorem dX7_matters_12 : decode cX7_matters 12 = .ok (.iload 4, 2) := by decide +kernel
theorem dX7_matters_14 : decode cX7_matters 14 = .ok (.bipush 7, 2) := by decide +kernel
theorem dX7_matters_16 : decode cX7_matters 16 = .ok (.if_icmp .ge 76, 3) := by decide +kernel
theorem dX7_matters_19 : decode cX7_matters 19 = .ok (.iload_n 1, 1) := by decide +kernel
theorem dX7_matters_20 : decode cX7_matters 20 = .ok (.iconst (-1), 1) := by decide +kernel
theorem dX7_matters_21 : decode cX7_matters 21 = .ok (.if_icmp .eq 71, 3) := by decide +kernel
theorem dX7_matters_24 : decode cX7_matters 24 = .ok (.aload_n 0, 1) := by decide +kernel
theorem dX7_matters_25 : decode cX7_matters 25 = .ok (.iload 4, 2) := by decide +kernel
theorem dX7_matters_27 : decode cX7_matters 27 = .ok (.iconst 0, 1) := by decide +kernel
theorem dX7_matters_28 : decode cX7_matters 28 = .ok (.invokevirtual 143, 3) := by decide +kernel
theorem dX7_matters_31 : decode cX7_matters 31 = .ok (.istore 5, 2) := by decide +kernel
theorem dX7_matters_33 : decode cX7_matters 33 = .ok (.iload 5, 2) := by decide +kernel
theorem dX7_matters_35 : decode cX7_matters 35 = .ok (.iconst (-1), 1) := by decide +kernel
theorem dX7_matters_36 : decode cX7_matters 36 = .ok (.if_icmp .eq 18, 3) := by decide +kernel
theorem dX7_matters_39 : decode cX7_matters 39 = .ok (.iload 5, 2) := by decide +kernel
theorem dX7_matters_41 : decode cX7_matters 41 = .ok (.iload_n 1, 1) := by decide +kernel
theorem dX7_matters_42 : decode cX7_matters 42 = .ok (.isub, 1) := by decide +kernel
theorem dX7_matters_43 : decode cX7_matters 43 = .ok (.invokestatic 49, 3) := by decide +kernel
theorem dX7_matters_46 : decode cX7_matters 46 = .ok (.iload_n 3, 1) := by decide +kernel
theorem dX7_matters_47 : decode cX7_matters 47 = .ok (.if_icmp .le 7, 3) := by decide +kernel
theorem dX7_matters_50 : decode cX7_matters 50 = .ok (.iconst 1, 1) := by decide +kernel
theorem dX7_matters_51 : decode cX7_matters 51 = .ok (.goto 4, 3) := by decide +kernel
theorem dX7_matters_54 : decode cX7_matters 54 = .ok (.iconst 0, 1) := by decide +kernel
theorem dX7_matters_55 : decode cX7_matters 55 = .ok (.istore 6, 2) := by decide +kernel
theorem dX7_matters_57 : decode cX7_matters 57 = .ok (.iload 6, 2) := by decide +kernel
theorem dX7_matters_59 : decode cX7_matters 59 = .ok (.ifCond .eq 8, 3) := by decide +kernel
theorem dX7_matters_62 : decode cX7_matters 62 = .ok (.iload 4, 2) := by decide +kernel
theorem dX7_matters_64 : decode cX7_matters 64 = .ok (.goto 4, 3) := by decide +kernel
theorem dX7_matters_67 : decode cX7_matters 67 = .ok (.iload_n 2, 1) := by decide +kernel
theorem dX7_matters_68 : decode cX7_matters 68 = .ok (.istore_n 2, 1) := by decide +kernel
theorem dX7_matters_69 : decode cX7_matters 69 = .ok (.iload 6, 2) := by decide +kernel
theorem dX7_matters_71 : decode cX7_matters 71 = .ok (.ifCond .eq 13, 3) := by decide +kernel
theorem dX7_matters_74 : decode cX7_matters 74 = .ok (.iload 5, 2) := by decide +kernel
theorem dX7_matters_76 : decode cX7_matters 76 = .ok (.iload_n 1, 1) := by decide +kernel
theorem dX7_matters_77 : decode cX7_matters 77 = .ok (.isub, 1) := by decide +kernel
theorem dX7_matters_78 : decode cX7_matters 78 = .ok (.invokestatic 49, 3) := by decide +kernel
theorem dX7_matters_81 : decode cX7_matters 81 = .ok (.goto 4, 3) := by decide +kernel
theorem dX7_matters_84 : decode cX7_matters 84 = .ok (.iload_n 3, 1) := by decide +kernel
theorem dX7_matters_85 : decode cX7_matters 85 = .ok (.istore_n 3, 1) := by decide +kernel
theorem dX7_matters_86 : decode cX7_matters 86 = .ok (.iinc 4 1, 3) := by decide +kernel
theorem dX7_matters_89 : decode cX7_matters 89 = .ok (.goto (-77), 3) := by decide +kernel
theorem dX7_matters_92 : decode cX7_matters 92 = .ok (.iload_n 2, 1) := by decide +kernel
theorem dX7_matters_93 : decode cX7_matters 93 = .ok (.ireturn, 1) := by decide +kernel
theorem dX7_pivot_0 : decode cX7_pivot 0 = .ok (.aload_n 0, 1) := by decide +kernel
theorem dX7_pivot_1 : decode cX7_pivot 1 = .ok (.iconst 0, 1) := by decide +kernel
theorem dX7_pivot_2 : decode cX7_pivot 2 = .ok (.putfield 25, 3) := by decide +kernel
theorem dX7_pivot_5 : decode cX7_pivot 5 = .ok (.aload_n 0, 1) := by decide +kernel
theorem dX7_pivot_6 : decode cX7_pivot 6 = .ok (.invokevirtual 146, 3) := by decide +kernel
theorem dX7_pivot_9 : decode cX7_pivot 9 = .ok (.ireturn, 1) := by decide +kernel
theorem dX7_winning_0 : decode cX7_winning 0 = .ok (.iconst 1, 1) := by decide +kernel
theorem dX7_winning_1 : decode cX7_winning 1 = .ok (.istore_n 2, 1) := by decide +kernel
theorem dX7_winning_2 : decode cX7_winning 2 = .ok (.iload_n 2, 1) := by decide +kernel
theorem dX7_winning_3 : decode cX7_winning 3 = .ok (.bipush 9, 2) := by decide +kernel
theorem dX7_winning_5 : decode cX7_winning 5 = .ok (.if_icmp .gt 25, 3) := by decide +kernel
theorem dX7_winning_8 : decode cX7_winning 8 = .ok (.aload_n 0, 1) := by decide +kernel
theorem dX7_winning_9 : decode cX7_winning 9 = .ok (.iload_n 1, 1) := by decide +kernel
theorem dX7_winning_10 : decode cX7_winning 10 = .ok (.iload_n 2, 1) := by decide +kernel
theorem dX7_winning_11 : decode cX7_winning 11 = .ok (.invokevirtual 143, 3) := by decide +kernel
theorem dX7_winning_14 : decode cX7_winning 14 = .ok (.aload_n 0, 1) := by decide +kernel
theorem dX7_winning_15 : decode cX7_winning 15 = .ok (.iload_n 1, 1) := by decide +kernel
theorem dX7_winning_16 : decode cX7_winning 16 = .ok (.invokevirtual 56, 3) := by decide +kernel
theorem dX7_winning_19 : decode cX7_winning 19 = .ok (.if_icmp .ne 5, 3) := by decide +kernel
theorem dX7_winning_22 : decode cX7_winning 22 = .ok (.iload_n 2, 1) := by decide +kernel
theorem dX7_winning_23 : decode cX7_winning 23 = .ok (.ireturn, 1) := by decide +kernel
theorem dX7_winning_24 : decode cX7_winning 24 = .ok (.iinc 2 1, 3) := by decide +kernel
theorem dX7_winning_27 : decode cX7_winning 27 = .ok (.goto (-25), 3) := by decide +kernel
theorem dX7_winning_30 : decode cX7_winning 30 = .ok (.iconst (-1), 1) := by decide +kernel
theorem dX7_winning_31 : decode cX7_winning 31 = .ok (.ireturn, 1) := by decide +kernel
theorem dX7_wins_0 : decode cX7_wins 0 = .ok (.aload_n 0, 1) := by decide +kernel
theorem dX7_wins_1 : decode cX7_wins 1 = .ok (.iconst 0, 1) := by decide +kernel
theorem dX7_wins_2 : decode cX7_wins 2 = .ok (.putfield 25, 3) := by decide +kernel
theorem dX7_wins_5 : decode cX7_wins 5 = .ok (.iload_n 1, 1) := by decide +kernel
theorem dX7_wins_6 : decode cX7_wins 6 = .ok (.invokestatic 91, 3) := by decide +kernel
theorem dX7_wins_9 : decode cX7_wins 9 = .ok (.ifCond .eq 11, 3) := by decide +kernel
theorem dX7_wins_12 : decode cX7_wins 12 = .ok (.aload_n 0, 1) := by decide +kernel
theorem dX7_wins_13 : decode cX7_wins 13 = .ok (.iload_n 1, 1) := by decide +kernel
theorem dX7_wins_14 : decode cX7_wins 14 = .ok (.invokevirtual 149, 3) := by decide +kernel
theorem dX7_wins_17 : decode cX7_wins 17 = .ok (.goto 8, 3) := by decide +kernel
theorem dX7_wins_20 : decode cX7_wins 20 = .ok (.aload_n 0, 1) := by decide +kernel
theorem dX7_wins_21 : decode cX7_wins 21 = .ok (.iconst 1, 1) := by decide +kernel
theorem dX7_wins_22 : decode cX7_wins 22 = .ok (.invokevirtual 76, 3) := by decide +kernel
theorem dX7_wins_25 : decode cX7_wins 25 = .ok (.ireturn, 1) := by decide +kernel
theorem dX7_quarrelsIn_0 : decode cX7_quarrelsIn 0 = .ok (.aload_n 0, 1) := by decide +kernel
theorem dX7_quarrelsIn_1 : decode cX7_quarrelsIn 1 = .ok (.invokevirtual 152, 3) := by decide +kernel
theorem dX7_quarrelsIn_4 : decode cX7_quarrelsIn 4 = .ok (.aload_n 0, 1) := by decide +kernel
theorem dX7_quarrelsIn_5 : decode cX7_quarrelsIn 5 = .ok (.iload_n 1, 1) := by decide +kernel
theorem dX7_quarrelsIn_6 : decode cX7_quarrelsIn 6 = .ok (.invokevirtual 65, 3) := by decide +kernel
theorem dX7_quarrelsIn_9 : decode cX7_quarrelsIn 9 = .ok (.ifCond .eq 7, 3) := by decide +kernel
theorem dX7_quarrelsIn_12 : decode cX7_quarrelsIn 12 = .ok (.iconst 0, 1) := by decide +kernel
theorem dX7_quarrelsIn_13 : decode cX7_quarrelsIn 13 = .ok (.goto 4, 3) := by decide +kernel
theorem dX7_quarrelsIn_16 : decode cX7_quarrelsIn 16 = .ok (.iconst (-1), 1) := by decide +kernel
theorem dX7_quarrelsIn_17 : decode cX7_quarrelsIn 17 = .ok (.istore_n 2, 1) := by decide +kernel
theorem dX7_quarrelsIn_18 : decode cX7_quarrelsIn 18 = .ok (.iconst 1, 1) := by decide +kernel
theorem dX7_quarrelsIn_19 : decode cX7_quarrelsIn 19 = .ok (.istore_n 3, 1) := by decide +kernel
theorem dX7_quarrelsIn_20 : decode cX7_quarrelsIn 20 = .ok (.iload_n 3, 1) := by decide +kernel
theorem dX7_quarrelsIn_21 : decode cX7_quarrelsIn 21 = .ok (.sipush 200, 3) := by decide +kernel
theorem dX7_quarrelsIn_24 : decode cX7_quarrelsIn 24 = .ok (.if_icmp .gt 34, 3) := by decide +kernel
theorem dX7_quarrelsIn_27 : decode cX7_quarrelsIn 27 = .ok (.iload_n 2, 1) := by decide +kernel
theorem dX7_quarrelsIn_28 : decode cX7_quarrelsIn 28 = .ok (.iconst (-1), 1) := by decide +kernel
theorem dX7_quarrelsIn_29 : decode cX7_quarrelsIn 29 = .ok (.if_icmp .ne 29, 3) := by decide +kernel
theorem dX7_quarrelsIn_32 : decode cX7_quarrelsIn 32 = .ok (.aload_n 0, 1) := by decide +kernel
theorem dX7_quarrelsIn_33 : decode cX7_quarrelsIn 33 = .ok (.invokevirtual 41, 3) := by decide +kernel
theorem dX7_quarrelsIn_36 : decode cX7_quarrelsIn 36 = .ok (.istore 4, 2) := by decide +kernel
theorem dX7_quarrelsIn_38 : decode cX7_quarrelsIn 38 = .ok (.aload_n 0, 1) := by decide +kernel
theorem dX7_quarrelsIn_39 : decode cX7_quarrelsIn 39 = .ok (.iload_n 1, 1) := by decide +kernel
theorem dX7_quarrelsIn_40 : decode cX7_quarrelsIn 40 = .ok (.invokevirtual 65, 3) := by decide +kernel
theorem dX7_quarrelsIn_43 : decode cX7_quarrelsIn 43 = .ok (.ifCond .eq 7, 3) := by decide +kernel
theorem dX7_quarrelsIn_46 : decode cX7_quarrelsIn 46 = .ok (.iload_n 3, 1) := by decide +kernel
theorem dX7_quarrelsIn_47 : decode cX7_quarrelsIn 47 = .ok (.goto 4, 3) := by decide +kernel
theorem dX7_quarrelsIn_50 : decode cX7_quarrelsIn 50 = .ok (.iconst (-1), 1) := by decide +kernel
theorem dX7_quarrelsIn_51 : decode cX7_quarrelsIn 51 = .ok (.istore_n 2, 1) := by decide +kernel
theorem dX7_quarrelsIn_52 : decode cX7_quarrelsIn 52 = .ok (.iinc 3 1, 3) := by decide +kernel
theorem dX7_quarrelsIn_55 : decode cX7_quarrelsIn 55 = .ok (.goto (-35), 3) := by decide +kernel
theorem dX7_quarrelsIn_58 : decode cX7_quarrelsIn 58 = .ok (.aload_n 0, 1) := by decide +kernel
theorem dX7_quarrelsIn_59 : decode cX7_quarrelsIn 59 = .ok (.invokevirtual 155, 3) := by decide +kernel
theorem dX7_quarrelsIn_62 : decode cX7_quarrelsIn 62 = .ok (.iload_n 2, 1) := by decide +kernel
theorem dX7_quarrelsIn_63 : decode cX7_quarrelsIn 63 = .ok (.ireturn, 1) := by decide +kernel
theorem dX7_quarrelIn_0 : decode cX7_quarrelIn 0 = .ok (.aload_n 0, 1) := by decide +kernel
theorem dX7_quarrelIn_1 : decode cX7_quarrelIn 1 = .ok (.iconst 0, 1) := by decide +kernel
theorem dX7_quarrelIn_2 : decode cX7_quarrelIn 2 = .ok (.putfield 25, 3) := by decide +kernel
theorem dX7_quarrelIn_5 : decode cX7_quarrelIn 5 = .ok (.iload_n 1, 1) := by decide +kernel
theorem dX7_quarrelIn_6 : decode cX7_quarrelIn 6 = .ok (.invokestatic 91, 3) := by decide +kernel
theorem dX7_quarrelIn_9 : decode cX7_quarrelIn 9 = .ok (.ifCond .eq 11, 3) := by decide +kernel
theorem dX7_quarrelIn_12 : decode cX7_quarrelIn 12 = .ok (.aload_n 0, 1) := by decide +kernel
theorem dX7_quarrelIn_13 : decode cX7_quarrelIn 13 = .ok (.iload_n 1, 1) := by decide +kernel
theorem dX7_quarrelIn_14 : decode cX7_quarrelIn 14 = .ok (.invokevirtual 158, 3) := by decide +kernel
theorem dX7_quarrelIn_17 : decode cX7_quarrelIn 17 = .ok (.goto 8, 3) := by decide +kernel
theorem dX7_quarrelIn_20 : decode cX7_quarrelIn 20 = .ok (.aload_n 0, 1) := by decide +kernel
theorem dX7_quarrelIn_21 : decode cX7_quarrelIn 21 = .ok (.iconst 1, 1) := by decide +kernel
theorem dX7_quarrelIn_22 : decode cX7_quarrelIn 22 = .ok (.invokevirtual 76, 3) := by decide +kernel
theorem dX7_quarrelIn_25 : decode cX7_quarrelIn 25 = .ok (.ireturn, 1) := by decide +kernel
theorem dX7_bellIn_0 : decode cX7_bellIn 0 = .ok (.aload_n 0, 1) := by decide +kernel
theorem dX7_bellIn_1 : decode cX7_bellIn 1 = .ok (.getfield 7, 3) := by decide +kernel
theorem dX7_bellIn_4 : decode cX7_bellIn 4 = .ok (.bipush 6, 2) := by decide +kernel
theorem dX7_bellIn_6 : decode cX7_bellIn 6 = .ok (.iload_n 1, 1) := by decide +kernel
theorem dX7_bellIn_7 : decode cX7_bellIn 7 = .ok (.iadd, 1) := by decide +kernel
theorem dX7_bellIn_8 : decode cX7_bellIn 8 = .ok (.iaload, 1) := by decide +kernel
theorem dX7_bellIn_9 : decode cX7_bellIn 9 = .ok (.istore_n 2, 1) := by decide +kernel
theorem dX7_bellIn_10 : decode cX7_bellIn 10 = .ok (.iconst 1, 1) := by decide +kernel
theorem dX7_bellIn_11 : decode cX7_bellIn 11 = .ok (.istore_n 3, 1) := by decide +kernel
theorem dX7_bellIn_12 : decode cX7_bellIn 12 = .ok (.iload_n 3, 1) := by decide +kernel
theorem dX7_bellIn_13 : decode cX7_bellIn 13 = .ok (.sipush 200, 3) := by decide +kernel
theorem dX7_bellIn_16 : decode cX7_bellIn 16 = .ok (.if_icmp .gt 58, 3) := by decide +kernel
theorem dX7_bellIn_19 : decode cX7_bellIn 19 = .ok (.iload_n 2, 1) := by decide +kernel
theorem dX7_bellIn_20 : decode cX7_bellIn 20 = .ok (.bipush 10, 2) := by decide +kernel
theorem dX7_bellIn_22 : decode cX7_bellIn 22 = .ok (.aload_n 0, 1) := by decide +kernel
theorem dX7_bellIn_23 : decode cX7_bellIn 23 = .ok (.getfield 7, 3) := by decide +kernel
theorem dX7_bellIn_26 : decode cX7_bellIn 26 = .ok (.bipush 13, 2) := by decide +kernel
theorem dX7_bellIn_28 : decode cX7_bellIn 28 = .ok (.iload_n 1, 1) := by decide +kernel
theorem dX7_bellIn_29 : decode cX7_bellIn 29 = .ok (.iadd, 1) := by decide +kernel
theorem dX7_bellIn_30 : decode cX7_bellIn 30 = .ok (.iaload, 1) := by decide +kernel
theorem dX7_bellIn_31 : decode cX7_bellIn 31 = .ok (.iadd, 1) := by decide +kernel
theorem dX7_bellIn_32 : decode cX7_bellIn 32 = .ok (.iadd, 1) := by decide +kernel
theorem dX7_bellIn_33 : decode cX7_bellIn 33 = .ok (.istore_n 2, 1) := by decide +kernel
theorem dX7_bellIn_34 : decode cX7_bellIn 34 = .ok (.iload_n 2, 1) := by decide +kernel
theorem dX7_bellIn_35 : decode cX7_bellIn 35 = .ok (.ldc 40, 2) := by decide +kernel
theorem dX7_bellIn_37 : decode cX7_bellIn 37 = .ok (.if_icmp .le 8, 3) := by decide +kernel
theorem dX7_bellIn_40 : decode cX7_bellIn 40 = .ok (.ldc 40, 2) := by decide +kernel
theorem dX7_bellIn_42 : decode cX7_bellIn 42 = .ok (.goto 4, 3) := by decide +kernel
theorem dX7_bellIn_45 : decode cX7_bellIn 45 = .ok (.iload_n 2, 1) := by decide +kernel
theorem dX7_bellIn_46 : decode cX7_bellIn 46 = .ok (.istore_n 2, 1) := by decide +kernel
theorem dX7_bellIn_47 : decode cX7_bellIn 47 = .ok (.iload_n 2, 1) := by decide +kernel
theorem dX7_bellIn_48 : decode cX7_bellIn 48 = .ok (.bipush 60, 2) := by decide +kernel
theorem dX7_bellIn_50 : decode cX7_bellIn 50 = .ok (.idiv, 1) := by decide +kernel
theorem dX7_bellIn_51 : decode cX7_bellIn 51 = .ok (.aload_n 0, 1) := by decide +kernel
theorem dX7_bellIn_52 : decode cX7_bellIn 52 = .ok (.getfield 7, 3) := by decide +kernel
theorem dX7_bellIn_55 : decode cX7_bellIn 55 = .ok (.bipush 6, 2) := by decide +kernel
theorem dX7_bellIn_57 : decode cX7_bellIn 57 = .ok (.iload_n 1, 1) := by decide +kernel
theorem dX7_bellIn_58 : decode cX7_bellIn 58 = .ok (.iadd, 1) := by decide +kernel
theorem dX7_bellIn_59 : decode cX7_bellIn 59 = .ok (.iaload, 1) := by decide +kernel
theorem dX7_bellIn_60 : decode cX7_bellIn 60 = .ok (.bipush 60, 2) := by decide +kernel
theorem dX7_bellIn_62 : decode cX7_bellIn 62 = .ok (.idiv, 1) := by decide +kernel
theorem dX7_bellIn_63 : decode cX7_bellIn 63 = .ok (.if_icmp .le 5, 3) := by decide +kernel
theorem dX7_bellIn_66 : decode cX7_bellIn 66 = .ok (.iload_n 3, 1) := by decide +kernel
theorem dX7_bellIn_67 : decode cX7_bellIn 67 = .ok (.ireturn, 1) := by decide +kernel
theorem dX7_bellIn_68 : decode cX7_bellIn 68 = .ok (.iinc 3 1, 3) := by decide +kernel
theorem dX7_bellIn_71 : decode cX7_bellIn 71 = .ok (.goto (-59), 3) := by decide +kernel
theorem dX7_bellIn_74 : decode cX7_bellIn 74 = .ok (.iconst (-1), 1) := by decide +kernel
theorem dX7_bellIn_75 : decode cX7_bellIn 75 = .ok (.ireturn, 1) := by decide +kernel
theorem dX7_ringsIn_0 : decode cX7_ringsIn 0 = .ok (.aload_n 0, 1) := by decide +kernel
theorem dX7_ringsIn_1 : decode cX7_ringsIn 1 = .ok (.iconst 0, 1) := by decide +kernel
theorem dX7_ringsIn_2 : decode cX7_ringsIn 2 = .ok (.putfield 25, 3) := by decide +kernel
theorem dX7_ringsIn_5 : decode cX7_ringsIn 5 = .ok (.iload_n 1, 1) := by decide +kernel
theorem dX7_ringsIn_6 : decode cX7_ringsIn 6 = .ok (.invokestatic 91, 3) := by decide +kernel
theorem dX7_ringsIn_9 : decode cX7_ringsIn 9 = .ok (.ifCond .eq 11, 3) := by decide +kernel
theorem dX7_ringsIn_12 : decode cX7_ringsIn 12 = .ok (.aload_n 0, 1) := by decide +kernel
theorem dX7_ringsIn_13 : decode cX7_ringsIn 13 = .ok (.iload_n 1, 1) := by decide +kernel
theorem dX7_ringsIn_14 : decode cX7_ringsIn 14 = .ok (.invokevirtual 161, 3) := by decide +kernel
theorem dX7_ringsIn_17 : decode cX7_ringsIn 17 = .ok (.goto 8, 3) := by decide +kernel
theorem dX7_ringsIn_20 : decode cX7_ringsIn 20 = .ok (.aload_n 0, 1) := by decide +kernel
theorem dX7_ringsIn_21 : decode cX7_ringsIn 21 = .ok (.iconst 1, 1) := by decide +kernel
theorem dX7_ringsIn_22 : decode cX7_ringsIn 22 = .ok (.invokevirtual 76, 3) := by decide +kernel
theorem dX7_ringsIn_25 : decode cX7_ringsIn 25 = .ok (.ireturn, 1) := by decide +kernel
theorem dX7_share_0 : decode cX7_share 0 = .ok (.aload_n 0, 1) := by decide +kernel
theorem dX7_share_1 : decode cX7_share 1 = .ok (.getfield 7, 3) := by decide +kernel
theorem dX7_share_4 : decode cX7_share 4 = .ok (.iconst 4, 1) := by decide +kernel
theorem dX7_share_5 : decode cX7_share 5 = .ok (.iaload, 1) := by decide +kernel
theorem dX7_share_6 : decode cX7_share 6 = .ok (.ifCond .ne 7, 3) := by decide +kernel
theorem dX7_share_9 : decode cX7_share 9 = .ok (.dconst 0, 1) := by decide +kernel
theorem dX7_share_10 : decode cX7_share 10 = .ok (.goto 18, 3) := by decide +kernel
theorem dX7_share_13 : decode cX7_share 13 = .ok (.aload_n 0, 1) := by decide +kernel
theorem dX7_share_14 : decode cX7_share 14 = .ok (.getfield 7, 3) := by decide +kernel
theorem dX7_share_17 : decode cX7_share 17 = .ok (.iconst 5, 1) := by decide +kernel
theorem dX7_share_18 : decode cX7_share 18 = .ok (.iaload, 1) := by decide +kernel
theorem dX7_share_19 : decode cX7_share 19 = .ok (.i2d, 1) := by decide +kernel
theorem dX7_share_20 : decode cX7_share 20 = .ok (.aload_n 0, 1) := by decide +kernel
theorem dX7_share_21 : decode cX7_share 21 = .ok (.getfield 7, 3) := by decide +kernel
theorem dX7_share_24 : decode cX7_share 24 = .ok (.iconst 4, 1) := by decide +kernel
theorem dX7_share_25 : decode cX7_share 25 = .ok (.iaload, 1) := by decide +kernel
theorem dX7_share_26 : decode cX7_share 26 = .ok (.i2d, 1) := by decide +kernel
theorem dX7_share_27 : decode cX7_share 27 = .ok (.ddiv, 1) := by decide +kernel
theorem dX7_share_28 : decode cX7_share 28 = .ok (.dreturn, 1) := by decide +kernel
theorem dX7_heldShare_0 : decode cX7_heldShare 0 = .ok (.aload_n 0, 1) := by decide +kernel
theorem dX7_heldShare_1 : decode cX7_heldShare 1 = .ok (.iconst 0, 1) := by decide +kernel
theorem dX7_heldShare_2 : decode cX7_heldShare 2 = .ok (.putfield 25, 3) := by decide +kernel
theorem dX7_heldShare_5 : decode cX7_heldShare 5 = .ok (.aload_n 0, 1) := by decide +kernel
theorem dX7_heldShare_6 : decode cX7_heldShare 6 = .ok (.invokevirtual 164, 3) := by decide +kernel
theorem dX7_heldShare_9 : decode cX7_heldShare 9 = .ok (.dreturn, 1) := by decide +kernel
theorem dX7_mean_0 : decode cX7_mean 0 = .ok (.iconst 0, 1) := by decide +kernel
theorem dX7_mean_1 : decode cX7_mean 1 = .ok (.istore_n 1, 1) := by decide +kernel
theorem dX7_mean_2 : decode cX7_mean 2 = .ok (.iconst 0, 1) := by decide +kernel
theorem dX7_mean_3 : decode cX7_mean 3 = .ok (.istore_n 2, 1) := by decide +kernel
theorem dX7_mean_4 : decode cX7_mean 4 = .ok (.iload_n 2, 1) := by decide +kernel
theorem dX7_mean_5 : decode cX7_mean 5 = .ok (.bipush 7, 2) := by decide +kernel
theorem dX7_mean_7 : decode cX7_mean 7 = .ok (.if_icmp .ge 18, 3) := by decide +kernel
theorem dX7_mean_10 : decode cX7_mean 10 = .ok (.iload_n 1, 1) := by decide +kernel
theorem dX7_mean_11 : decode cX7_mean 11 = .ok (.aload_n 0, 1) := by decide +kernel
theorem dX7_mean_12 : decode cX7_mean 12 = .ok (.iload_n 2, 1) := by decide +kernel
theorem dX7_mean_13 : decode cX7_mean 13 = .ok (.iconst 5, 1) := by decide +kernel
theorem dX7_mean_14 : decode cX7_mean 14 = .ok (.invokevirtual 122, 3) := by decide +kernel
theorem dX7_mean_17 : decode cX7_mean 17 = .ok (.iadd, 1) := by decide +kernel
theorem dX7_mean_18 : decode cX7_mean 18 = .ok (.istore_n 1, 1) := by decide +kernel
theorem dX7_mean_19 : decode cX7_mean 19 = .ok (.iinc 2 1, 3) := by decide +kernel
theorem dX7_mean_22 : decode cX7_mean 22 = .ok (.goto (-18), 3) := by decide +kernel
theorem dX7_mean_25 : decode cX7_mean 25 = .ok (.iload_n 1, 1) := by decide +kernel
theorem dX7_mean_26 : decode cX7_mean 26 = .ok (.i2f, 1) := by decide +kernel
theorem dX7_mean_27 : decode cX7_mean 27 = .ok (.ldc 168, 2) := by decide +kernel
theorem dX7_mean_29 : decode cX7_mean 29 = .ok (.fdiv, 1) := by decide +kernel
theorem dX7_mean_30 : decode cX7_mean 30 = .ok (.freturn, 1) := by decide +kernel
theorem dX7_meanError_0 : decode cX7_meanError 0 = .ok (.aload_n 0, 1) := by decide +kernel
theorem dX7_meanError_1 : decode cX7_meanError 1 = .ok (.iconst 0, 1) := by decide +kernel
theorem dX7_meanError_2 : decode cX7_meanError 2 = .ok (.putfield 25, 3) := by decide +kernel
theorem dX7_meanError_5 : decode cX7_meanError 5 = .ok (.aload_n 0, 1) := by decide +kernel
theorem dX7_meanError_6 : decode cX7_meanError 6 = .ok (.invokevirtual 169, 3) := by decide +kernel
theorem dX7_meanError_9 : decode cX7_meanError 9 = .ok (.freturn, 1) := by decide +kernel
theorem dX7_bits_0 : decode cX7_bits 0 = .ok (.dload_n 0, 1) := by decide +kernel
theorem dX7_bits_1 : decode cX7_bits 1 = .ok (.dconst 0, 1) := by decide +kernel
theorem dX7_bits_2 : decode cX7_bits 2 = .ok (.dcmp .l, 1) := by decide +kernel
theorem dX7_bits_3 : decode cX7_bits 3 = .ok (.ifCond .ne 5, 3) := by decide +kernel
theorem dX7_bits_6 : decode cX7_bits 6 = .ok (.lconst 0, 1) := by decide +kernel
theorem dX7_bits_7 : decode cX7_bits 7 = .ok (.lreturn, 1) := by decide +kernel
theorem dX7_bits_8 : decode cX7_bits 8 = .ok (.dload_n 0, 1) := by decide +kernel
theorem dX7_bits_9 : decode cX7_bits 9 = .ok (.dstore 4, 2) := by decide +kernel
theorem dX7_bits_11 : decode cX7_bits 11 = .ok (.iload_n 2, 1) := by decide +kernel
theorem dX7_bits_12 : decode cX7_bits 12 = .ok (.istore 6, 2) := by decide +kernel
theorem dX7_bits_14 : decode cX7_bits 14 = .ok (.dload 4, 2) := by decide +kernel
theorem dX7_bits_16 : decode cX7_bits 16 = .ok (.ldc2_w 173, 3) := by decide +kernel
theorem dX7_bits_19 : decode cX7_bits 19 = .ok (.dcmp .l, 1) := by decide +kernel
theorem dX7_bits_20 : decode cX7_bits 20 = .ok (.ifCond .lt 17, 3) := by decide +kernel
theorem dX7_bits_23 : decode cX7_bits 23 = .ok (.dload 4, 2) := by decide +kernel
theorem dX7_bits_25 : decode cX7_bits 25 = .ok (.ldc2_w 173, 3) := by decide +kernel
theorem dX7_bits_28 : decode cX7_bits 28 = .ok (.ddiv, 1) := by decide +kernel
theorem dX7_bits_29 : decode cX7_bits 29 = .ok (.dstore 4, 2) := by decide +kernel
theorem dX7_bits_31 : decode cX7_bits 31 = .ok (.iinc 6 1, 3) := by decide +kernel
theorem dX7_bits_34 : decode cX7_bits 34 = .ok (.goto (-20), 3) := by decide +kernel
theorem dX7_bits_37 : decode cX7_bits 37 = .ok (.dload 4, 2) := by decide +kernel
theorem dX7_bits_39 : decode cX7_bits 39 = .ok (.dconst 1, 1) := by decide +kernel
theorem dX7_bits_40 : decode cX7_bits 40 = .ok (.dcmp .g, 1) := by decide +kernel
theorem dX7_bits_41 : decode cX7_bits 41 = .ok (.ifCond .ge 17, 3) := by decide +kernel
theorem dX7_bits_44 : decode cX7_bits 44 = .ok (.dload 4, 2) := by decide +kernel
theorem dX7_bits_46 : decode cX7_bits 46 = .ok (.ldc2_w 173, 3) := by decide +kernel
theorem dX7_bits_49 : decode cX7_bits 49 = .ok (.dmul, 1) := by decide +kernel
theorem dX7_bits_50 : decode cX7_bits 50 = .ok (.dstore 4, 2) := by decide +kernel
theorem dX7_bits_52 : decode cX7_bits 52 = .ok (.iinc 6 (-1), 3) := by decide +kernel
theorem dX7_bits_55 : decode cX7_bits 55 = .ok (.goto (-18), 3) := by decide +kernel
theorem dX7_bits_58 : decode cX7_bits 58 = .ok (.dload 4, 2) := by decide +kernel
theorem dX7_bits_60 : decode cX7_bits 60 = .ok (.dconst 1, 1) := by decide +kernel
theorem dX7_bits_61 : decode cX7_bits 61 = .ok (.dsub, 1) := by decide +kernel
theorem dX7_bits_62 : decode cX7_bits 62 = .ok (.dstore 7, 2) := by decide +kernel
theorem dX7_bits_64 : decode cX7_bits 64 = .ok (.iconst 0, 1) := by decide +kernel
theorem dX7_bits_65 : decode cX7_bits 65 = .ok (.istore 9, 2) := by decide +kernel
theorem dX7_bits_67 : decode cX7_bits 67 = .ok (.iload 9, 2) := by decide +kernel
theorem dX7_bits_69 : decode cX7_bits 69 = .ok (.iload_n 3, 1) := by decide +kernel
theorem dX7_bits_70 : decode cX7_bits 70 = .ok (.if_icmp .ge 17, 3) := by decide +kernel
theorem dX7_bits_73 : decode cX7_bits 73 = .ok (.dload 7, 2) := by decide +kernel
theorem dX7_bits_75 : decode cX7_bits 75 = .ok (.ldc2_w 173, 3) := by decide +kernel
theorem dX7_bits_78 : decode cX7_bits 78 = .ok (.dmul, 1) := by decide +kernel
theorem dX7_bits_79 : decode cX7_bits 79 = .ok (.dstore 7, 2) := by decide +kernel
theorem dX7_bits_81 : decode cX7_bits 81 = .ok (.iinc 9 1, 3) := by decide +kernel
theorem dX7_bits_84 : decode cX7_bits 84 = .ok (.goto (-17), 3) := by decide +kernel
theorem dX7_bits_87 : decode cX7_bits 87 = .ok (.iload 6, 2) := by decide +kernel
theorem dX7_bits_89 : decode cX7_bits 89 = .ok (.i2l, 1) := by decide +kernel
theorem dX7_bits_90 : decode cX7_bits 90 = .ok (.iload_n 3, 1) := by decide +kernel
theorem dX7_bits_91 : decode cX7_bits 91 = .ok (.lshl, 1) := by decide +kernel
theorem dX7_bits_92 : decode cX7_bits 92 = .ok (.dload 7, 2) := by decide +kernel
theorem dX7_bits_94 : decode cX7_bits 94 = .ok (.d2l, 1) := by decide +kernel
theorem dX7_bits_95 : decode cX7_bits 95 = .ok (.ladd, 1) := by decide +kernel
theorem dX7_bits_96 : decode cX7_bits 96 = .ok (.lreturn, 1) := by decide +kernel
theorem dX7_digest_0 : decode cX7_digest 0 = .ok (.aload_n 0, 1) := by decide +kernel
theorem dX7_digest_1 : decode cX7_digest 1 = .ok (.iconst 0, 1) := by decide +kernel
theorem dX7_digest_2 : decode cX7_digest 2 = .ok (.putfield 25, 3) := by decide +kernel
theorem dX7_digest_5 : decode cX7_digest 5 = .ok (.ldc2_w 175, 3) := by decide +kernel
theorem dX7_digest_8 : decode cX7_digest 8 = .ok (.lstore_n 1, 1) := by decide +kernel
theorem dX7_digest_9 : decode cX7_digest 9 = .ok (.iconst 0, 1) := by decide +kernel
theorem dX7_digest_10 : decode cX7_digest 10 = .ok (.istore_n 3, 1) := by decide +kernel
theorem dX7_digest_11 : decode cX7_digest 11 = .ok (.iload_n 3, 1) := by decide +kernel
theorem dX7_digest_12 : decode cX7_digest 12 = .ok (.bipush 14, 2) := by decide +kernel
theorem dX7_digest_14 : decode cX7_digest 14 = .ok (.if_icmp .ge 22, 3) := by decide +kernel
theorem dX7_digest_17 : decode cX7_digest 17 = .ok (.ldc2_w 177, 3) := by decide +kernel
theorem dX7_digest_20 : decode cX7_digest 20 = .ok (.lload_n 1, 1) := by decide +kernel
theorem dX7_digest_21 : decode cX7_digest 21 = .ok (.lmul, 1) := by decide +kernel
theorem dX7_digest_22 : decode cX7_digest 22 = .ok (.aload_n 0, 1) := by decide +kernel
theorem dX7_digest_23 : decode cX7_digest 23 = .ok (.iload_n 3, 1) := by decide +kernel
theorem dX7_digest_24 : decode cX7_digest 24 = .ok (.invokevirtual 140, 3) := by decide +kernel
theorem dX7_digest_27 : decode cX7_digest 27 = .ok (.i2l, 1) := by decide +kernel
theorem dX7_digest_28 : decode cX7_digest 28 = .ok (.ladd, 1) := by decide +kernel
theorem dX7_digest_29 : decode cX7_digest 29 = .ok (.lstore_n 1, 1) := by decide +kernel
theorem dX7_digest_30 : decode cX7_digest 30 = .ok (.iinc 3 1, 3) := by decide +kernel
theorem dX7_digest_33 : decode cX7_digest 33 = .ok (.goto (-22), 3) := by decide +kernel
theorem dX7_digest_36 : decode cX7_digest 36 = .ok (.ldc2_w 177, 3) := by decide +kernel
theorem dX7_digest_39 : decode cX7_digest 39 = .ok (.lload_n 1, 1) := by decide +kernel
theorem dX7_digest_40 : decode cX7_digest 40 = .ok (.lmul, 1) := by decide +kernel
theorem dX7_digest_41 : decode cX7_digest 41 = .ok (.aload_n 0, 1) := by decide +kernel
theorem dX7_digest_42 : decode cX7_digest 42 = .ok (.getfield 7, 3) := by decide +kernel
theorem dX7_digest_45 : decode cX7_digest 45 = .ok (.iconst 2, 1) := by decide +kernel
theorem dX7_digest_46 : decode cX7_digest 46 = .ok (.iaload, 1) := by decide +kernel
theorem dX7_digest_47 : decode cX7_digest 47 = .ok (.i2l, 1) := by decide +kernel
theorem dX7_digest_48 : decode cX7_digest 48 = .ok (.ladd, 1) := by decide +kernel
theorem dX7_digest_49 : decode cX7_digest 49 = .ok (.lstore_n 1, 1) := by decide +kernel
theorem dX7_digest_50 : decode cX7_digest 50 = .ok (.ldc2_w 177, 3) := by decide +kernel
theorem dX7_digest_53 : decode cX7_digest 53 = .ok (.lload_n 1, 1) := by decide +kernel
theorem dX7_digest_54 : decode cX7_digest 54 = .ok (.lmul, 1) := by decide +kernel
theorem dX7_digest_55 : decode cX7_digest 55 = .ok (.aload_n 0, 1) := by decide +kernel
theorem dX7_digest_56 : decode cX7_digest 56 = .ok (.getfield 7, 3) := by decide +kernel
theorem dX7_digest_59 : decode cX7_digest 59 = .ok (.iconst 3, 1) := by decide +kernel
theorem dX7_digest_60 : decode cX7_digest 60 = .ok (.iaload, 1) := by decide +kernel
theorem dX7_digest_61 : decode cX7_digest 61 = .ok (.i2l, 1) := by decide +kernel
theorem dX7_digest_62 : decode cX7_digest 62 = .ok (.ladd, 1) := by decide +kernel
theorem dX7_digest_63 : decode cX7_digest 63 = .ok (.lstore_n 1, 1) := by decide +kernel
theorem dX7_digest_64 : decode cX7_digest 64 = .ok (.iconst 0, 1) := by decide +kernel
theorem dX7_digest_65 : decode cX7_digest 65 = .ok (.istore_n 3, 1) := by decide +kernel
theorem dX7_digest_66 : decode cX7_digest 66 = .ok (.iload_n 3, 1) := by decide +kernel
theorem dX7_digest_67 : decode cX7_digest 67 = .ok (.bipush 7, 2) := by decide +kernel
theorem dX7_digest_69 : decode cX7_digest 69 = .ok (.if_icmp .ge 66, 3) := by decide +kernel
theorem dX7_digest_72 : decode cX7_digest 72 = .ok (.iconst 0, 1) := by decide +kernel
theorem dX7_digest_73 : decode cX7_digest 73 = .ok (.istore 4, 2) := by decide +kernel
theorem dX7_digest_75 : decode cX7_digest 75 = .ok (.iload 4, 2) := by decide +kernel
theorem dX7_digest_77 : decode cX7_digest 77 = .ok (.bipush 7, 2) := by decide +kernel
theorem dX7_digest_79 : decode cX7_digest 79 = .ok (.if_icmp .ge 24, 3) := by decide +kernel
theorem dX7_digest_82 : decode cX7_digest 82 = .ok (.ldc2_w 177, 3) := by decide +kernel
theorem dX7_digest_85 : decode cX7_digest 85 = .ok (.lload_n 1, 1) := by decide +kernel
theorem dX7_digest_86 : decode cX7_digest 86 = .ok (.lmul, 1) := by decide +kernel
theorem dX7_digest_87 : decode cX7_digest 87 = .ok (.aload_n 0, 1) := by decide +kernel
theorem dX7_digest_88 : decode cX7_digest 88 = .ok (.iload_n 3, 1) := by decide +kernel
theorem dX7_digest_89 : decode cX7_digest 89 = .ok (.iload 4, 2) := by decide +kernel
theorem dX7_digest_91 : decode cX7_digest 91 = .ok (.invokevirtual 122, 3) := by decide +kernel
theorem dX7_digest_94 : decode cX7_digest 94 = .ok (.i2l, 1) := by decide +kernel
theorem dX7_digest_95 : decode cX7_digest 95 = .ok (.ladd, 1) := by decide +kernel
theorem dX7_digest_96 : decode cX7_digest 96 = .ok (.lstore_n 1, 1) := by decide +kernel
theorem dX7_digest_97 : decode cX7_digest 97 = .ok (.iinc 4 1, 3) := by decide +kernel
theorem dX7_digest_100 : decode cX7_digest 100 = .ok (.goto (-25), 3) := by decide +kernel
theorem dX7_digest_103 : decode cX7_digest 103 = .ok (.ldc2_w 177, 3) := by decide +kernel
theorem dX7_digest_106 : decode cX7_digest 106 = .ok (.lload_n 1, 1) := by decide +kernel
theorem dX7_digest_107 : decode cX7_digest 107 = .ok (.lmul, 1) := by decide +kernel
theorem dX7_digest_108 : decode cX7_digest 108 = .ok (.aload_n 0, 1) := by decide +kernel
theorem dX7_digest_109 : decode cX7_digest 109 = .ok (.iload_n 3, 1) := by decide +kernel
theorem dX7_digest_110 : decode cX7_digest 110 = .ok (.invokevirtual 158, 3) := by decide +kernel
theorem dX7_digest_113 : decode cX7_digest 113 = .ok (.i2l, 1) := by decide +kernel
theorem dX7_digest_114 : decode cX7_digest 114 = .ok (.ladd, 1) := by decide +kernel
theorem dX7_digest_115 : decode cX7_digest 115 = .ok (.lstore_n 1, 1) := by decide +kernel
theorem dX7_digest_116 : decode cX7_digest 116 = .ok (.ldc2_w 177, 3) := by decide +kernel
theorem dX7_digest_119 : decode cX7_digest 119 = .ok (.lload_n 1, 1) := by decide +kernel
theorem dX7_digest_120 : decode cX7_digest 120 = .ok (.lmul, 1) := by decide +kernel
theorem dX7_digest_121 : decode cX7_digest 121 = .ok (.aload_n 0, 1) := by decide +kernel
theorem dX7_digest_122 : decode cX7_digest 122 = .ok (.iload_n 3, 1) := by decide +kernel
theorem dX7_digest_123 : decode cX7_digest 123 = .ok (.invokevirtual 161, 3) := by decide +kernel
theorem dX7_digest_126 : decode cX7_digest 126 = .ok (.i2l, 1) := by decide +kernel
theorem dX7_digest_127 : decode cX7_digest 127 = .ok (.ladd, 1) := by decide +kernel
theorem dX7_digest_128 : decode cX7_digest 128 = .ok (.lstore_n 1, 1) := by decide +kernel
theorem dX7_digest_129 : decode cX7_digest 129 = .ok (.iinc 3 1, 3) := by decide +kernel
theorem dX7_digest_132 : decode cX7_digest 132 = .ok (.goto (-66), 3) := by decide +kernel
theorem dX7_digest_135 : decode cX7_digest 135 = .ok (.iconst 0, 1) := by decide +kernel
theorem dX7_digest_136 : decode cX7_digest 136 = .ok (.istore_n 3, 1) := by decide +kernel
theorem dX7_digest_137 : decode cX7_digest 137 = .ok (.iload_n 3, 1) := by decide +kernel
theorem dX7_digest_138 : decode cX7_digest 138 = .ok (.bipush 7, 2) := by decide +kernel
theorem dX7_digest_140 : decode cX7_digest 140 = .ok (.if_icmp .ge 67, 3) := by decide +kernel
theorem dX7_digest_143 : decode cX7_digest 143 = .ok (.iconst 0, 1) := by decide +kernel
theorem dX7_digest_144 : decode cX7_digest 144 = .ok (.istore 4, 2) := by decide +kernel
theorem dX7_digest_146 : decode cX7_digest 146 = .ok (.iload 4, 2) := by decide +kernel
theorem dX7_digest_148 : decode cX7_digest 148 = .ok (.bipush 6, 2) := by decide +kernel
theorem dX7_digest_150 : decode cX7_digest 150 = .ok (.if_icmp .ge 24, 3) := by decide +kernel
theorem dX7_digest_153 : decode cX7_digest 153 = .ok (.ldc2_w 177, 3) := by decide +kernel
theorem dX7_digest_156 : decode cX7_digest 156 = .ok (.lload_n 1, 1) := by decide +kernel
theorem dX7_digest_157 : decode cX7_digest 157 = .ok (.lmul, 1) := by decide +kernel
theorem dX7_digest_158 : decode cX7_digest 158 = .ok (.aload_n 0, 1) := by decide +kernel
theorem dX7_digest_159 : decode cX7_digest 159 = .ok (.iload_n 3, 1) := by decide +kernel
theorem dX7_digest_160 : decode cX7_digest 160 = .ok (.iload 4, 2) := by decide +kernel
theorem dX7_digest_162 : decode cX7_digest 162 = .ok (.invokevirtual 128, 3) := by decide +kernel
theorem dX7_digest_165 : decode cX7_digest 165 = .ok (.i2l, 1) := by decide +kernel
theorem dX7_digest_166 : decode cX7_digest 166 = .ok (.ladd, 1) := by decide +kernel
theorem dX7_digest_167 : decode cX7_digest 167 = .ok (.lstore_n 1, 1) := by decide +kernel
theorem dX7_digest_168 : decode cX7_digest 168 = .ok (.iinc 4 1, 3) := by decide +kernel
theorem dX7_digest_171 : decode cX7_digest 171 = .ok (.goto (-25), 3) := by decide +kernel
theorem dX7_digest_174 : decode cX7_digest 174 = .ok (.ldc2_w 177, 3) := by decide +kernel
theorem dX7_digest_177 : decode cX7_digest 177 = .ok (.lload_n 1, 1) := by decide +kernel
theorem dX7_digest_178 : decode cX7_digest 178 = .ok (.lmul, 1) := by decide +kernel
theorem dX7_digest_179 : decode cX7_digest 179 = .ok (.aload_n 0, 1) := by decide +kernel
theorem dX7_digest_180 : decode cX7_digest 180 = .ok (.iload_n 3, 1) := by decide +kernel
theorem dX7_digest_181 : decode cX7_digest 181 = .ok (.iconst 0, 1) := by decide +kernel
theorem dX7_digest_182 : decode cX7_digest 182 = .ok (.invokevirtual 143, 3) := by decide +kernel
theorem dX7_digest_185 : decode cX7_digest 185 = .ok (.i2l, 1) := by decide +kernel
theorem dX7_digest_186 : decode cX7_digest 186 = .ok (.ladd, 1) := by decide +kernel
theorem dX7_digest_187 : decode cX7_digest 187 = .ok (.lstore_n 1, 1) := by decide +kernel
theorem dX7_digest_188 : decode cX7_digest 188 = .ok (.ldc2_w 177, 3) := by decide +kernel
theorem dX7_digest_191 : decode cX7_digest 191 = .ok (.lload_n 1, 1) := by decide +kernel
theorem dX7_digest_192 : decode cX7_digest 192 = .ok (.lmul, 1) := by decide +kernel
theorem dX7_digest_193 : decode cX7_digest 193 = .ok (.aload_n 0, 1) := by decide +kernel
theorem dX7_digest_194 : decode cX7_digest 194 = .ok (.iload_n 3, 1) := by decide +kernel
theorem dX7_digest_195 : decode cX7_digest 195 = .ok (.invokevirtual 149, 3) := by decide +kernel
theorem dX7_digest_198 : decode cX7_digest 198 = .ok (.i2l, 1) := by decide +kernel
theorem dX7_digest_199 : decode cX7_digest 199 = .ok (.ladd, 1) := by decide +kernel
theorem dX7_digest_200 : decode cX7_digest 200 = .ok (.lstore_n 1, 1) := by decide +kernel
theorem dX7_digest_201 : decode cX7_digest 201 = .ok (.iinc 3 1, 3) := by decide +kernel
theorem dX7_digest_204 : decode cX7_digest 204 = .ok (.goto (-67), 3) := by decide +kernel
theorem dX7_digest_207 : decode cX7_digest 207 = .ok (.ldc2_w 177, 3) := by decide +kernel
theorem dX7_digest_210 : decode cX7_digest 210 = .ok (.lload_n 1, 1) := by decide +kernel
theorem dX7_digest_211 : decode cX7_digest 211 = .ok (.lmul, 1) := by decide +kernel
theorem dX7_digest_212 : decode cX7_digest 212 = .ok (.aload_n 0, 1) := by decide +kernel
theorem dX7_digest_213 : decode cX7_digest 213 = .ok (.invokevirtual 146, 3) := by decide +kernel
theorem dX7_digest_216 : decode cX7_digest 216 = .ok (.i2l, 1) := by decide +kernel
theorem dX7_digest_217 : decode cX7_digest 217 = .ok (.ladd, 1) := by decide +kernel
theorem dX7_digest_218 : decode cX7_digest 218 = .ok (.lstore_n 1, 1) := by decide +kernel
theorem dX7_digest_219 : decode cX7_digest 219 = .ok (.ldc2_w 177, 3) := by decide +kernel
theorem dX7_digest_222 : decode cX7_digest 222 = .ok (.lload_n 1, 1) := by decide +kernel
theorem dX7_digest_223 : decode cX7_digest 223 = .ok (.lmul, 1) := by decide +kernel
theorem dX7_digest_224 : decode cX7_digest 224 = .ok (.aload_n 0, 1) := by decide +kernel
theorem dX7_digest_225 : decode cX7_digest 225 = .ok (.invokevirtual 164, 3) := by decide +kernel
theorem dX7_digest_228 : decode cX7_digest 228 = .ok (.sipush 1023, 3) := by decide +kernel
theorem dX7_digest_231 : decode cX7_digest 231 = .ok (.bipush 52, 2) := by decide +kernel
theorem dX7_digest_233 : decode cX7_digest 233 = .ok (.invokestatic 179, 3) := by decide +kernel
theorem dX7_digest_236 : decode cX7_digest 236 = .ok (.ladd, 1) := by decide +kernel
theorem dX7_digest_237 : decode cX7_digest 237 = .ok (.lstore_n 1, 1) := by decide +kernel
theorem dX7_digest_238 : decode cX7_digest 238 = .ok (.ldc2_w 177, 3) := by decide +kernel
theorem dX7_digest_241 : decode cX7_digest 241 = .ok (.lload_n 1, 1) := by decide +kernel
theorem dX7_digest_242 : decode cX7_digest 242 = .ok (.lmul, 1) := by decide +kernel
theorem dX7_digest_243 : decode cX7_digest 243 = .ok (.aload_n 0, 1) := by decide +kernel
theorem dX7_digest_244 : decode cX7_digest 244 = .ok (.invokevirtual 169, 3) := by decide +kernel
theorem dX7_digest_247 : decode cX7_digest 247 = .ok (.f2d, 1) := by decide +kernel
theorem dX7_digest_248 : decode cX7_digest 248 = .ok (.bipush 127, 2) := by decide +kernel
theorem dX7_digest_250 : decode cX7_digest 250 = .ok (.bipush 23, 2) := by decide +kernel
theorem dX7_digest_252 : decode cX7_digest 252 = .ok (.invokestatic 179, 3) := by decide +kernel
theorem dX7_digest_255 : decode cX7_digest 255 = .ok (.ladd, 1) := by decide +kernel
theorem dX7_digest_256 : decode cX7_digest 256 = .ok (.lstore_n 1, 1) := by decide +kernel
theorem dX7_digest_257 : decode cX7_digest 257 = .ok (.ldc2_w 177, 3) := by decide +kernel
theorem dX7_digest_260 : decode cX7_digest 260 = .ok (.lload_n 1, 1) := by decide +kernel
theorem dX7_digest_261 : decode cX7_digest 261 = .ok (.lmul, 1) := by decide +kernel
theorem dX7_digest_262 : decode cX7_digest 262 = .ok (.aload_n 0, 1) := by decide +kernel
theorem dX7_digest_263 : decode cX7_digest 263 = .ok (.getfield 119, 3) := by decide +kernel
theorem dX7_digest_266 : decode cX7_digest 266 = .ok (.ifCond .eq 7, 3) := by decide +kernel
theorem dX7_digest_269 : decode cX7_digest 269 = .ok (.iconst 1, 1) := by decide +kernel
theorem dX7_digest_270 : decode cX7_digest 270 = .ok (.goto 4, 3) := by decide +kernel
theorem dX7_digest_273 : decode cX7_digest 273 = .ok (.iconst 0, 1) := by decide +kernel
theorem dX7_digest_274 : decode cX7_digest 274 = .ok (.i2l, 1) := by decide +kernel
theorem dX7_digest_275 : decode cX7_digest 275 = .ok (.ladd, 1) := by decide +kernel
theorem dX7_digest_276 : decode cX7_digest 276 = .ok (.lstore_n 1, 1) := by decide +kernel
theorem dX7_digest_277 : decode cX7_digest 277 = .ok (.ldc2_w 177, 3) := by decide +kernel
theorem dX7_digest_280 : decode cX7_digest 280 = .ok (.lload_n 1, 1) := by decide +kernel
theorem dX7_digest_281 : decode cX7_digest 281 = .ok (.lmul, 1) := by decide +kernel
theorem dX7_digest_282 : decode cX7_digest 282 = .ok (.aload_n 0, 1) := by decide +kernel
theorem dX7_digest_283 : decode cX7_digest 283 = .ok (.getfield 94, 3) := by decide +kernel
theorem dX7_digest_286 : decode cX7_digest 286 = .ok (.i2l, 1) := by decide +kernel
theorem dX7_digest_287 : decode cX7_digest 287 = .ok (.ladd, 1) := by decide +kernel
theorem dX7_digest_288 : decode cX7_digest 288 = .ok (.lstore_n 1, 1) := by decide +kernel
theorem dX7_digest_289 : decode cX7_digest 289 = .ok (.iconst 0, 1) := by decide +kernel
theorem dX7_digest_290 : decode cX7_digest 290 = .ok (.istore_n 3, 1) := by decide +kernel
theorem dX7_digest_291 : decode cX7_digest 291 = .ok (.iload_n 3, 1) := by decide +kernel
theorem dX7_digest_292 : decode cX7_digest 292 = .ok (.aload_n 0, 1) := by decide +kernel
theorem dX7_digest_293 : decode cX7_digest 293 = .ok (.getfield 94, 3) := by decide +kernel
theorem dX7_digest_296 : decode cX7_digest 296 = .ok (.if_icmp .ge 23, 3) := by decide +kernel
theorem dX7_digest_299 : decode cX7_digest 299 = .ok (.ldc2_w 177, 3) := by decide +kernel
theorem dX7_digest_302 : decode cX7_digest 302 = .ok (.lload_n 1, 1) := by decide +kernel
theorem dX7_digest_303 : decode cX7_digest 303 = .ok (.lmul, 1) := by decide +kernel
theorem dX7_digest_304 : decode cX7_digest 304 = .ok (.aload_n 0, 1) := by decide +kernel
theorem dX7_digest_305 : decode cX7_digest 305 = .ok (.getfield 22, 3) := by decide +kernel
theorem dX7_digest_308 : decode cX7_digest 308 = .ok (.iload_n 3, 1) := by decide +kernel
theorem dX7_digest_309 : decode cX7_digest 309 = .ok (.iaload, 1) := by decide +kernel
theorem dX7_digest_310 : decode cX7_digest 310 = .ok (.i2l, 1) := by decide +kernel
theorem dX7_digest_311 : decode cX7_digest 311 = .ok (.ladd, 1) := by decide +kernel
theorem dX7_digest_312 : decode cX7_digest 312 = .ok (.lstore_n 1, 1) := by decide +kernel
theorem dX7_digest_313 : decode cX7_digest 313 = .ok (.iinc 3 1, 3) := by decide +kernel
theorem dX7_digest_316 : decode cX7_digest 316 = .ok (.goto (-25), 3) := by decide +kernel
theorem dX7_digest_319 : decode cX7_digest 319 = .ok (.lload_n 1, 1) := by decide +kernel
theorem dX7_digest_320 : decode cX7_digest 320 = .ok (.lreturn, 1) := by decide +kernel
theorem dL_tick_0 : decode cL_tick 0 = .ok (.aload_n 2, 1) := by decide +kernel
theorem dL_tick_1 : decode cL_tick 1 = .ok (.iconst 0, 1) := by decide +kernel
theorem dL_tick_2 : decode cL_tick 2 = .ok (.aload_n 0, 1) := by decide +kernel
theorem dL_tick_3 : decode cL_tick 3 = .ok (.iload_n 1, 1) := by decide +kernel
theorem dL_tick_4 : decode cL_tick 4 = .ok (.invokevirtual 7, 3) := by decide +kernel
theorem dL_tick_7 : decode cL_tick 7 = .ok (.i2l, 1) := by decide +kernel
theorem dL_tick_8 : decode cL_tick 8 = .ok (.lastore, 1) := by decide +kernel
theorem dL_tick_9 : decode cL_tick 9 = .ok (.goto 6, 3) := by decide +kernel
theorem dL_tick_12 : decode cL_tick 12 = .ok (.astore_n 3, 1) := by decide +kernel
theorem dL_tick_13 : decode cL_tick 13 = .ok (.iconst 1, 1) := by decide +kernel
theorem dL_tick_14 : decode cL_tick 14 = .ok (.ireturn, 1) := by decide +kernel
theorem dL_tick_15 : decode cL_tick 15 = .ok (.iconst 0, 1) := by decide +kernel
theorem dL_tick_16 : decode cL_tick 16 = .ok (.ireturn, 1) := by decide +kernel
theorem dL_vote_0 : decode cL_vote 0 = .ok (.aload_n 1, 1) := by decide +kernel
theorem dL_vote_1 : decode cL_vote 1 = .ok (.iconst 0, 1) := by decide +kernel
theorem dL_vote_2 : decode cL_vote 2 = .ok (.aload_n 0, 1) := by decide +kernel
theorem dL_vote_3 : decode cL_vote 3 = .ok (.invokevirtual 15, 3) := by decide +kernel
theorem dL_vote_6 : decode cL_vote 6 = .ok (.i2l, 1) := by decide +kernel
theorem dL_vote_7 : decode cL_vote 7 = .ok (.lastore, 1) := by decide +kernel
theorem dL_vote_8 : decode cL_vote 8 = .ok (.goto 6, 3) := by decide +kernel
theorem dL_vote_11 : decode cL_vote 11 = .ok (.astore_n 2, 1) := by decide +kernel
theorem dL_vote_12 : decode cL_vote 12 = .ok (.iconst 1, 1) := by decide +kernel
theorem dL_vote_13 : decode cL_vote 13 = .ok (.ireturn, 1) := by decide +kernel
theorem dL_vote_14 : decode cL_vote 14 = .ok (.iconst 0, 1) := by decide +kernel
theorem dL_vote_15 : decode cL_vote 15 = .ok (.ireturn, 1) := by decide +kernel
theorem dL_put_0 : decode cL_put 0 = .ok (.aload_n 3, 1) := by decide +kernel
theorem dL_put_1 : decode cL_put 1 = .ok (.iconst 0, 1) := by decide +kernel
theorem dL_put_2 : decode cL_put 2 = .ok (.aload_n 0, 1) := by decide +kernel
theorem dL_put_3 : decode cL_put 3 = .ok (.iload_n 1, 1) := by decide +kernel
theorem dL_put_4 : decode cL_put 4 = .ok (.iload_n 2, 1) := by decide +kernel
theorem dL_put_5 : decode cL_put 5 = .ok (.invokevirtual 21, 3) := by decide +kernel
theorem dL_put_8 : decode cL_put 8 = .ok (.i2l, 1) := by decide +kernel
theorem dL_put_9 : decode cL_put 9 = .ok (.lastore, 1) := by decide +kernel
theorem dL_put_10 : decode cL_put 10 = .ok (.goto 11, 3) := by decide +kernel
theorem dL_put_13 : decode cL_put 13 = .ok (.astore 4, 2) := by decide +kernel
theorem dL_put_15 : decode cL_put 15 = .ok (.iconst 1, 1) := by decide +kernel
theorem dL_put_16 : decode cL_put 16 = .ok (.ireturn, 1) := by decide +kernel
theorem dL_put_17 : decode cL_put 17 = .ok (.astore 4, 2) := by decide +kernel
theorem dL_put_19 : decode cL_put 19 = .ok (.iconst 2, 1) := by decide +kernel
theorem dL_put_20 : decode cL_put 20 = .ok (.ireturn, 1) := by decide +kernel
theorem dL_put_21 : decode cL_put 21 = .ok (.iconst 0, 1) := by decide +kernel
theorem dL_put_22 : decode cL_put 22 = .ok (.ireturn, 1) := by decide +kernel
theorem dL_drift_0 : decode cL_drift 0 = .ok (.aload_n 3, 1) := by decide +kernel
theorem dL_drift_1 : decode cL_drift 1 = .ok (.iconst 0, 1) := by decide +kernel
theorem dL_drift_2 : decode cL_drift 2 = .ok (.aload_n 0, 1) := by decide +kernel
theorem dL_drift_3 : decode cL_drift 3 = .ok (.iload_n 1, 1) := by decide +kernel
theorem dL_drift_4 : decode cL_drift 4 = .ok (.iload_n 2, 1) := by decide +kernel
theorem dL_drift_5 : decode cL_drift 5 = .ok (.invokevirtual 27, 3) := by decide +kernel
theorem dL_drift_8 : decode cL_drift 8 = .ok (.i2l, 1) := by decide +kernel
theorem dL_drift_9 : decode cL_drift 9 = .ok (.lastore, 1) := by decide +kernel
theorem dL_drift_10 : decode cL_drift 10 = .ok (.goto 11, 3) := by decide +kernel
theorem dL_drift_13 : decode cL_drift 13 = .ok (.astore 4, 2) := by decide +kernel
theorem dL_drift_15 : decode cL_drift 15 = .ok (.iconst 1, 1) := by decide +kernel
theorem dL_drift_16 : decode cL_drift 16 = .ok (.ireturn, 1) := by decide +kernel
theorem dL_drift_17 : decode cL_drift 17 = .ok (.astore 4, 2) := by decide +kernel
theorem dL_drift_19 : decode cL_drift 19 = .ok (.iconst 2, 1) := by decide +kernel
theorem dL_drift_20 : decode cL_drift 20 = .ok (.ireturn, 1) := by decide +kernel
theorem dL_drift_21 : decode cL_drift 21 = .ok (.iconst 0, 1) := by decide +kernel
theorem dL_drift_22 : decode cL_drift 22 = .ok (.ireturn, 1) := by decide +kernel
theorem dL_warden_0 : decode cL_warden 0 = .ok (.aload 4, 2) := by decide +kernel
theorem dL_warden_2 : decode cL_warden 2 = .ok (.iconst 0, 1) := by decide +kernel
theorem dL_warden_3 : decode cL_warden 3 = .ok (.aload_n 0, 1) := by decide +kernel
theorem dL_warden_4 : decode cL_warden 4 = .ok (.iload_n 1, 1) := by decide +kernel
theorem dL_warden_5 : decode cL_warden 5 = .ok (.iload_n 2, 1) := by decide +kernel
theorem dL_warden_6 : decode cL_warden 6 = .ok (.iload_n 3, 1) := by decide +kernel
theorem dL_warden_7 : decode cL_warden 7 = .ok (.invokevirtual 30, 3) := by decide +kernel
theorem dL_warden_10 : decode cL_warden 10 = .ok (.i2l, 1) := by decide +kernel
theorem dL_warden_11 : decode cL_warden 11 = .ok (.lastore, 1) := by decide +kernel
theorem dL_warden_12 : decode cL_warden 12 = .ok (.goto 11, 3) := by decide +kernel
theorem dL_warden_15 : decode cL_warden 15 = .ok (.astore 5, 2) := by decide +kernel
theorem dL_warden_17 : decode cL_warden 17 = .ok (.iconst 1, 1) := by decide +kernel
theorem dL_warden_18 : decode cL_warden 18 = .ok (.ireturn, 1) := by decide +kernel
theorem dL_warden_19 : decode cL_warden 19 = .ok (.astore 5, 2) := by decide +kernel
theorem dL_warden_21 : decode cL_warden 21 = .ok (.iconst 2, 1) := by decide +kernel
theorem dL_warden_22 : decode cL_warden 22 = .ok (.ireturn, 1) := by decide +kernel
theorem dL_warden_23 : decode cL_warden 23 = .ok (.iconst 0, 1) := by decide +kernel
theorem dL_warden_24 : decode cL_warden 24 = .ok (.ireturn, 1) := by decide +kernel
theorem dL_set_0 : decode cL_set 0 = .ok (.aload_n 3, 1) := by decide +kernel
theorem dL_set_1 : decode cL_set 1 = .ok (.iconst 0, 1) := by decide +kernel
theorem dL_set_2 : decode cL_set 2 = .ok (.aload_n 0, 1) := by decide +kernel
theorem dL_set_3 : decode cL_set 3 = .ok (.iload_n 1, 1) := by decide +kernel
theorem dL_set_4 : decode cL_set 4 = .ok (.iload_n 2, 1) := by decide +kernel
theorem dL_set_5 : decode cL_set 5 = .ok (.invokevirtual 34, 3) := by decide +kernel
theorem dL_set_8 : decode cL_set 8 = .ok (.i2l, 1) := by decide +kernel
theorem dL_set_9 : decode cL_set 9 = .ok (.lastore, 1) := by decide +kernel
theorem dL_set_10 : decode cL_set 10 = .ok (.goto 11, 3) := by decide +kernel
theorem dL_set_13 : decode cL_set 13 = .ok (.astore 4, 2) := by decide +kernel
theorem dL_set_15 : decode cL_set 15 = .ok (.iconst 1, 1) := by decide +kernel
theorem dL_set_16 : decode cL_set 16 = .ok (.ireturn, 1) := by decide +kernel
theorem dL_set_17 : decode cL_set 17 = .ok (.astore 4, 2) := by decide +kernel
theorem dL_set_19 : decode cL_set 19 = .ok (.iconst 2, 1) := by decide +kernel
theorem dL_set_20 : decode cL_set 20 = .ok (.ireturn, 1) := by decide +kernel
theorem dL_set_21 : decode cL_set 21 = .ok (.iconst 0, 1) := by decide +kernel
theorem dL_set_22 : decode cL_set 22 = .ok (.ireturn, 1) := by decide +kernel
theorem dL_append_0 : decode cL_append 0 = .ok (.aload_n 2, 1) := by decide +kernel
theorem dL_append_1 : decode cL_append 1 = .ok (.iconst 0, 1) := by decide +kernel
theorem dL_append_2 : decode cL_append 2 = .ok (.aload_n 0, 1) := by decide +kernel
theorem dL_append_3 : decode cL_append 3 = .ok (.iload_n 1, 1) := by decide +kernel
theorem dL_append_4 : decode cL_append 4 = .ok (.invokevirtual 37, 3) := by decide +kernel
theorem dL_append_7 : decode cL_append 7 = .ok (.i2l, 1) := by decide +kernel
theorem dL_append_8 : decode cL_append 8 = .ok (.lastore, 1) := by decide +kernel
theorem dL_append_9 : decode cL_append 9 = .ok (.goto 9, 3) := by decide +kernel
theorem dL_append_12 : decode cL_append 12 = .ok (.astore_n 3, 1) := by decide +kernel
theorem dL_append_13 : decode cL_append 13 = .ok (.iconst 1, 1) := by decide +kernel
theorem dL_append_14 : decode cL_append 14 = .ok (.ireturn, 1) := by decide +kernel
theorem dL_append_15 : decode cL_append 15 = .ok (.astore_n 3, 1) := by decide +kernel
theorem dL_append_16 : decode cL_append 16 = .ok (.iconst 2, 1) := by decide +kernel
theorem dL_append_17 : decode cL_append 17 = .ok (.ireturn, 1) := by decide +kernel
theorem dL_append_18 : decode cL_append 18 = .ok (.iconst 0, 1) := by decide +kernel
theorem dL_append_19 : decode cL_append 19 = .ok (.ireturn, 1) := by decide +kernel
theorem dL_obey_0 : decode cL_obey 0 = .ok (.aload_n 1, 1) := by decide +kernel
theorem dL_obey_1 : decode cL_obey 1 = .ok (.iconst 0, 1) := by decide +kernel
theorem dL_obey_2 : decode cL_obey 2 = .ok (.aload_n 0, 1) := by decide +kernel
theorem dL_obey_3 : decode cL_obey 3 = .ok (.invokevirtual 40, 3) := by decide +kernel
theorem dL_obey_6 : decode cL_obey 6 = .ok (.i2l, 1) := by decide +kernel
theorem dL_obey_7 : decode cL_obey 7 = .ok (.lastore, 1) := by decide +kernel
theorem dL_obey_8 : decode cL_obey 8 = .ok (.goto 6, 3) := by decide +kernel
theorem dL_obey_11 : decode cL_obey 11 = .ok (.astore_n 2, 1) := by decide +kernel
theorem dL_obey_12 : decode cL_obey 12 = .ok (.iconst 1, 1) := by decide +kernel
theorem dL_obey_13 : decode cL_obey 13 = .ok (.ireturn, 1) := by decide +kernel
theorem dL_obey_14 : decode cL_obey 14 = .ok (.iconst 0, 1) := by decide +kernel
theorem dL_obey_15 : decode cL_obey 15 = .ok (.ireturn, 1) := by decide +kernel
theorem dL_goBack_0 : decode cL_goBack 0 = .ok (.aload_n 1, 1) := by decide +kernel
theorem dL_goBack_1 : decode cL_goBack 1 = .ok (.iconst 0, 1) := by decide +kernel
theorem dL_goBack_2 : decode cL_goBack 2 = .ok (.aload_n 0, 1) := by decide +kernel
theorem dL_goBack_3 : decode cL_goBack 3 = .ok (.invokevirtual 43, 3) := by decide +kernel
theorem dL_goBack_6 : decode cL_goBack 6 = .ok (.i2l, 1) := by decide +kernel
theorem dL_goBack_7 : decode cL_goBack 7 = .ok (.lastore, 1) := by decide +kernel
theorem dL_goBack_8 : decode cL_goBack 8 = .ok (.goto 6, 3) := by decide +kernel
theorem dL_goBack_11 : decode cL_goBack 11 = .ok (.astore_n 2, 1) := by decide +kernel
theorem dL_goBack_12 : decode cL_goBack 12 = .ok (.iconst 1, 1) := by decide +kernel
theorem dL_goBack_13 : decode cL_goBack 13 = .ok (.ireturn, 1) := by decide +kernel
theorem dL_goBack_14 : decode cL_goBack 14 = .ok (.iconst 0, 1) := by decide +kernel
theorem dL_goBack_15 : decode cL_goBack 15 = .ok (.ireturn, 1) := by decide +kernel
theorem dL_undo_0 : decode cL_undo 0 = .ok (.aload_n 1, 1) := by decide +kernel
theorem dL_undo_1 : decode cL_undo 1 = .ok (.iconst 0, 1) := by decide +kernel
theorem dL_undo_2 : decode cL_undo 2 = .ok (.aload_n 0, 1) := by decide +kernel
theorem dL_undo_3 : decode cL_undo 3 = .ok (.invokevirtual 46, 3) := by decide +kernel
theorem dL_undo_6 : decode cL_undo 6 = .ok (.i2l, 1) := by decide +kernel
theorem dL_undo_7 : decode cL_undo 7 = .ok (.lastore, 1) := by decide +kernel
theorem dL_undo_8 : decode cL_undo 8 = .ok (.goto 6, 3) := by decide +kernel
theorem dL_undo_11 : decode cL_undo 11 = .ok (.astore_n 2, 1) := by decide +kernel
theorem dL_undo_12 : decode cL_undo 12 = .ok (.iconst 1, 1) := by decide +kernel
theorem dL_undo_13 : decode cL_undo 13 = .ok (.ireturn, 1) := by decide +kernel
theorem dL_undo_14 : decode cL_undo 14 = .ok (.iconst 0, 1) := by decide +kernel
theorem dL_undo_15 : decode cL_undo 15 = .ok (.ireturn, 1) := by decide +kernel
theorem dL_dial_0 : decode cL_dial 0 = .ok (.aload_n 3, 1) := by decide +kernel
theorem dL_dial_1 : decode cL_dial 1 = .ok (.iconst 0, 1) := by decide +kernel
theorem dL_dial_2 : decode cL_dial 2 = .ok (.aload_n 0, 1) := by decide +kernel
theorem dL_dial_3 : decode cL_dial 3 = .ok (.iload_n 1, 1) := by decide +kernel
theorem dL_dial_4 : decode cL_dial 4 = .ok (.iload_n 2, 1) := by decide +kernel
theorem dL_dial_5 : decode cL_dial 5 = .ok (.invokevirtual 49, 3) := by decide +kernel
theorem dL_dial_8 : decode cL_dial 8 = .ok (.i2l, 1) := by decide +kernel
theorem dL_dial_9 : decode cL_dial 9 = .ok (.lastore, 1) := by decide +kernel
theorem dL_dial_10 : decode cL_dial 10 = .ok (.goto 11, 3) := by decide +kernel
theorem dL_dial_13 : decode cL_dial 13 = .ok (.astore 4, 2) := by decide +kernel
theorem dL_dial_15 : decode cL_dial 15 = .ok (.iconst 1, 1) := by decide +kernel
theorem dL_dial_16 : decode cL_dial 16 = .ok (.ireturn, 1) := by decide +kernel
theorem dL_dial_17 : decode cL_dial 17 = .ok (.astore 4, 2) := by decide +kernel
theorem dL_dial_19 : decode cL_dial 19 = .ok (.iconst 2, 1) := by decide +kernel
theorem dL_dial_20 : decode cL_dial 20 = .ok (.ireturn, 1) := by decide +kernel
theorem dL_dial_21 : decode cL_dial 21 = .ok (.iconst 0, 1) := by decide +kernel
theorem dL_dial_22 : decode cL_dial 22 = .ok (.ireturn, 1) := by decide +kernel
theorem dL_says_0 : decode cL_says 0 = .ok (.aload_n 3, 1) := by decide +kernel
theorem dL_says_1 : decode cL_says 1 = .ok (.iconst 0, 1) := by decide +kernel
theorem dL_says_2 : decode cL_says 2 = .ok (.aload_n 0, 1) := by decide +kernel
theorem dL_says_3 : decode cL_says 3 = .ok (.iload_n 1, 1) := by decide +kernel
theorem dL_says_4 : decode cL_says 4 = .ok (.iload_n 2, 1) := by decide +kernel
theorem dL_says_5 : decode cL_says 5 = .ok (.invokevirtual 52, 3) := by decide +kernel
theorem dL_says_8 : decode cL_says 8 = .ok (.i2l, 1) := by decide +kernel
theorem dL_says_9 : decode cL_says 9 = .ok (.lastore, 1) := by decide +kernel
theorem dL_says_10 : decode cL_says 10 = .ok (.goto 11, 3) := by decide +kernel
theorem dL_says_13 : decode cL_says 13 = .ok (.astore 4, 2) := by decide +kernel
theorem dL_says_15 : decode cL_says 15 = .ok (.iconst 1, 1) := by decide +kernel
theorem dL_says_16 : decode cL_says 16 = .ok (.ireturn, 1) := by decide +kernel
theorem dL_says_17 : decode cL_says 17 = .ok (.astore 4, 2) := by decide +kernel
theorem dL_says_19 : decode cL_says 19 = .ok (.iconst 2, 1) := by decide +kernel
theorem dL_says_20 : decode cL_says 20 = .ok (.ireturn, 1) := by decide +kernel
theorem dL_says_21 : decode cL_says 21 = .ok (.iconst 0, 1) := by decide +kernel
theorem dL_says_22 : decode cL_says 22 = .ok (.ireturn, 1) := by decide +kernel
theorem dL_count_0 : decode cL_count 0 = .ok (.aload_n 2, 1) := by decide +kernel
theorem dL_count_1 : decode cL_count 1 = .ok (.iconst 0, 1) := by decide +kernel
theorem dL_count_2 : decode cL_count 2 = .ok (.aload_n 0, 1) := by decide +kernel
theorem dL_count_3 : decode cL_count 3 = .ok (.iload_n 1, 1) := by decide +kernel
theorem dL_count_4 : decode cL_count 4 = .ok (.invokevirtual 55, 3) := by decide +kernel
theorem dL_count_7 : decode cL_count 7 = .ok (.i2l, 1) := by decide +kernel
theorem dL_count_8 : decode cL_count 8 = .ok (.lastore, 1) := by decide +kernel
theorem dL_count_9 : decode cL_count 9 = .ok (.goto 6, 3) := by decide +kernel
theorem dL_count_12 : decode cL_count 12 = .ok (.astore_n 3, 1) := by decide +kernel
theorem dL_count_13 : decode cL_count 13 = .ok (.iconst 1, 1) := by decide +kernel
theorem dL_count_14 : decode cL_count 14 = .ok (.ireturn, 1) := by decide +kernel
theorem dL_count_15 : decode cL_count 15 = .ok (.iconst 0, 1) := by decide +kernel
theorem dL_count_16 : decode cL_count 16 = .ok (.ireturn, 1) := by decide +kernel
theorem dL_setting_0 : decode cL_setting 0 = .ok (.aload_n 2, 1) := by decide +kernel
theorem dL_setting_1 : decode cL_setting 1 = .ok (.iconst 0, 1) := by decide +kernel
theorem dL_setting_2 : decode cL_setting 2 = .ok (.aload_n 0, 1) := by decide +kernel
theorem dL_setting_3 : decode cL_setting 3 = .ok (.iload_n 1, 1) := by decide +kernel
theorem dL_setting_4 : decode cL_setting 4 = .ok (.invokevirtual 58, 3) := by decide +kernel
theorem dL_setting_7 : decode cL_setting 7 = .ok (.i2l, 1) := by decide +kernel
theorem dL_setting_8 : decode cL_setting 8 = .ok (.lastore, 1) := by decide +kernel
theorem dL_setting_9 : decode cL_setting 9 = .ok (.goto 6, 3) := by decide +kernel
theorem dL_setting_12 : decode cL_setting 12 = .ok (.astore_n 3, 1) := by decide +kernel
theorem dL_setting_13 : decode cL_setting 13 = .ok (.iconst 1, 1) := by decide +kernel
theorem dL_setting_14 : decode cL_setting 14 = .ok (.ireturn, 1) := by decide +kernel
theorem dL_setting_15 : decode cL_setting 15 = .ok (.iconst 0, 1) := by decide +kernel
theorem dL_setting_16 : decode cL_setting 16 = .ok (.ireturn, 1) := by decide +kernel
theorem dL_without_0 : decode cL_without 0 = .ok (.aload_n 2, 1) := by decide +kernel
theorem dL_without_1 : decode cL_without 1 = .ok (.iconst 0, 1) := by decide +kernel
theorem dL_without_2 : decode cL_without 2 = .ok (.aload_n 0, 1) := by decide +kernel
theorem dL_without_3 : decode cL_without 3 = .ok (.iload_n 1, 1) := by decide +kernel
theorem dL_without_4 : decode cL_without 4 = .ok (.invokevirtual 61, 3) := by decide +kernel
theorem dL_without_7 : decode cL_without 7 = .ok (.i2l, 1) := by decide +kernel
theorem dL_without_8 : decode cL_without 8 = .ok (.lastore, 1) := by decide +kernel
theorem dL_without_9 : decode cL_without 9 = .ok (.goto 6, 3) := by decide +kernel
theorem dL_without_12 : decode cL_without 12 = .ok (.astore_n 3, 1) := by decide +kernel
theorem dL_without_13 : decode cL_without 13 = .ok (.iconst 1, 1) := by decide +kernel
theorem dL_without_14 : decode cL_without 14 = .ok (.ireturn, 1) := by decide +kernel
theorem dL_without_15 : decode cL_without 15 = .ok (.iconst 0, 1) := by decide +kernel
theorem dL_without_16 : decode cL_without 16 = .ok (.ireturn, 1) := by decide +kernel
theorem dL_wins_0 : decode cL_wins 0 = .ok (.aload_n 2, 1) := by decide +kernel
theorem dL_wins_1 : decode cL_wins 1 = .ok (.iconst 0, 1) := by decide +kernel
theorem dL_wins_2 : decode cL_wins 2 = .ok (.aload_n 0, 1) := by decide +kernel
theorem dL_wins_3 : decode cL_wins 3 = .ok (.iload_n 1, 1) := by decide +kernel
theorem dL_wins_4 : decode cL_wins 4 = .ok (.invokevirtual 64, 3) := by decide +kernel
theorem dL_wins_7 : decode cL_wins 7 = .ok (.i2l, 1) := by decide +kernel
theorem dL_wins_8 : decode cL_wins 8 = .ok (.lastore, 1) := by decide +kernel
theorem dL_wins_9 : decode cL_wins 9 = .ok (.goto 6, 3) := by decide +kernel
theorem dL_wins_12 : decode cL_wins 12 = .ok (.astore_n 3, 1) := by decide +kernel
theorem dL_wins_13 : decode cL_wins 13 = .ok (.iconst 1, 1) := by decide +kernel
theorem dL_wins_14 : decode cL_wins 14 = .ok (.ireturn, 1) := by decide +kernel
theorem dL_wins_15 : decode cL_wins 15 = .ok (.iconst 0, 1) := by decide +kernel
theorem dL_wins_16 : decode cL_wins 16 = .ok (.ireturn, 1) := by decide +kernel
theorem dL_quarrelIn_0 : decode cL_quarrelIn 0 = .ok (.aload_n 2, 1) := by decide +kernel
theorem dL_quarrelIn_1 : decode cL_quarrelIn 1 = .ok (.iconst 0, 1) := by decide +kernel
theorem dL_quarrelIn_2 : decode cL_quarrelIn 2 = .ok (.aload_n 0, 1) := by decide +kernel
theorem dL_quarrelIn_3 : decode cL_quarrelIn 3 = .ok (.iload_n 1, 1) := by decide +kernel
theorem dL_quarrelIn_4 : decode cL_quarrelIn 4 = .ok (.invokevirtual 67, 3) := by decide +kernel
theorem dL_quarrelIn_7 : decode cL_quarrelIn 7 = .ok (.i2l, 1) := by decide +kernel
theorem dL_quarrelIn_8 : decode cL_quarrelIn 8 = .ok (.lastore, 1) := by decide +kernel
theorem dL_quarrelIn_9 : decode cL_quarrelIn 9 = .ok (.goto 6, 3) := by decide +kernel
theorem dL_quarrelIn_12 : decode cL_quarrelIn 12 = .ok (.astore_n 3, 1) := by decide +kernel
theorem dL_quarrelIn_13 : decode cL_quarrelIn 13 = .ok (.iconst 1, 1) := by decide +kernel
theorem dL_quarrelIn_14 : decode cL_quarrelIn 14 = .ok (.ireturn, 1) := by decide +kernel
theorem dL_quarrelIn_15 : decode cL_quarrelIn 15 = .ok (.iconst 0, 1) := by decide +kernel
theorem dL_quarrelIn_16 : decode cL_quarrelIn 16 = .ok (.ireturn, 1) := by decide +kernel
theorem dL_ringsIn_0 : decode cL_ringsIn 0 = .ok (.aload_n 2, 1) := by decide +kernel
theorem dL_ringsIn_1 : decode cL_ringsIn 1 = .ok (.iconst 0, 1) := by decide +kernel
theorem dL_ringsIn_2 : decode cL_ringsIn 2 = .ok (.aload_n 0, 1) := by decide +kernel
theorem dL_ringsIn_3 : decode cL_ringsIn 3 = .ok (.iload_n 1, 1) := by decide +kernel
theorem dL_ringsIn_4 : decode cL_ringsIn 4 = .ok (.invokevirtual 70, 3) := by decide +kernel
theorem dL_ringsIn_7 : decode cL_ringsIn 7 = .ok (.i2l, 1) := by decide +kernel
theorem dL_ringsIn_8 : decode cL_ringsIn 8 = .ok (.lastore, 1) := by decide +kernel
theorem dL_ringsIn_9 : decode cL_ringsIn 9 = .ok (.goto 6, 3) := by decide +kernel
theorem dL_ringsIn_12 : decode cL_ringsIn 12 = .ok (.astore_n 3, 1) := by decide +kernel
theorem dL_ringsIn_13 : decode cL_ringsIn 13 = .ok (.iconst 1, 1) := by decide +kernel
theorem dL_ringsIn_14 : decode cL_ringsIn 14 = .ok (.ireturn, 1) := by decide +kernel
theorem dL_ringsIn_15 : decode cL_ringsIn 15 = .ok (.iconst 0, 1) := by decide +kernel
theorem dL_ringsIn_16 : decode cL_ringsIn 16 = .ok (.ireturn, 1) := by decide +kernel
theorem dL_law_0 : decode cL_law 0 = .ok (.new 8, 3) := by decide +kernel
theorem dL_law_3 : decode cL_law 3 = .ok (.dup, 1) := by decide +kernel
theorem dL_law_4 : decode cL_law 4 = .ok (.invokespecial 73, 3) := by decide +kernel
theorem dL_law_7 : decode cL_law 7 = .ok (.astore_n 1, 1) := by decide +kernel
theorem dL_law_8 : decode cL_law 8 = .ok (.new 74, 3) := by decide +kernel
theorem dL_law_11 : decode cL_law 11 = .ok (.dup, 1) := by decide +kernel
theorem dL_law_12 : decode cL_law 12 = .ok (.invokespecial 76, 3) := by decide +kernel
theorem dL_law_15 : decode cL_law 15 = .ok (.astore_n 2, 1) := by decide +kernel
theorem dL_law_16 : decode cL_law 16 = .ok (.iconst 1, 1) := by decide +kernel
theorem dL_law_17 : decode cL_law 17 = .ok (.newarray .long, 2) := by decide +kernel
theorem dL_law_19 : decode cL_law 19 = .ok (.astore_n 3, 1) := by decide +kernel
theorem dL_law_20 : decode cL_law 20 = .ok (.iconst 0, 1) := by decide +kernel
theorem dL_law_21 : decode cL_law 21 = .ok (.istore 4, 2) := by decide +kernel
theorem dL_law_23 : decode cL_law 23 = .ok (.iload 4, 2) := by decide +kernel
theorem dL_law_25 : decode cL_law 25 = .ok (.aload_n 0, 1) := by decide +kernel
theorem dL_law_26 : decode cL_law 26 = .ok (.arraylength, 1) := by decide +kernel
theorem dL_law_27 : decode cL_law 27 = .ok (.iconst 4, 1) := by decide +kernel
theorem dL_law_28 : decode cL_law 28 = .ok (.isub, 1) := by decide +kernel
theorem dL_law_29 : decode cL_law 29 = .ok (.if_icmp .gt 1340, 3) := by decide +kernel
theorem dL_law_32 : decode cL_law 32 = .ok (.aload_n 0, 1) := by decide +kernel
theorem dL_law_33 : decode cL_law 33 = .ok (.iload 4, 2) := by decide +kernel
theorem dL_law_35 : decode cL_law 35 = .ok (.iaload, 1) := by decide +kernel
theorem dL_law_36 : decode cL_law 36 = .ok (.bipush 31, 2) := by decide +kernel
theorem dL_law_38 : decode cL_law 38 = .ok (.iand, 1) := by decide +kernel
theorem dL_law_39 : decode cL_law 39 = .ok (.tableswitch 1324 0 25 #[117, 173, 217, 230, 298, 366, 446, 514, 570, 583, 596, 640, 653, 697, 741, 809, 877, 933, 989, 1045, 1058, 1114, 1170, 1226, 1267, 1310], 117) := by decide +kernel
theorem dL_law_156 : decode cL_law 156 = .ok (.aload_n 1, 1) := by decide +kernel
theorem dL_law_157 : decode cL_law 157 = .ok (.aload_n 0, 1) := by decide +kernel
theorem dL_law_158 : decode cL_law 158 = .ok (.iload 4, 2) := by decide +kernel
theorem dL_law_160 : decode cL_law 160 = .ok (.iconst 1, 1) := by decide +kernel
theorem dL_law_161 : decode cL_law 161 = .ok (.iadd, 1) := by decide +kernel
theorem dL_law_162 : decode cL_law 162 = .ok (.iaload, 1) := by decide +kernel
theorem dL_law_163 : decode cL_law 163 = .ok (.aload_n 3, 1) := by decide +kernel
theorem dL_law_164 : decode cL_law 164 = .ok (.invokestatic 77, 3) := by decide +kernel
theorem dL_law_167 : decode cL_law 167 = .ok (.istore 5, 2) := by decide +kernel
theorem dL_law_169 : decode cL_law 169 = .ok (.aload_n 2, 1) := by decide +kernel
theorem dL_law_170 : decode cL_law 170 = .ok (.aload_n 0, 1) := by decide +kernel
theorem dL_law_171 : decode cL_law 171 = .ok (.iload 4, 2) := by decide +kernel
theorem dL_law_173 : decode cL_law 173 = .ok (.iconst 1, 1) := by decide +kernel
theorem dL_law_174 : decode cL_law 174 = .ok (.iadd, 1) := by decide +kernel
theorem dL_law_175 : decode cL_law 175 = .ok (.iaload, 1) := by decide +kernel
theorem dL_law_176 : decode cL_law 176 = .ok (.invokevirtual 82, 3) := by decide +kernel
theorem dL_law_179 : decode cL_law 179 = .ok (.istore 6, 2) := by decide +kernel
theorem dL_law_181 : decode cL_law 181 = .ok (.aload_n 2, 1) := by decide +kernel
theorem dL_law_182 : decode cL_law 182 = .ok (.invokevirtual 83, 3) := by decide +kernel
theorem dL_law_185 : decode cL_law 185 = .ok (.iload 5, 2) := by decide +kernel
theorem dL_law_187 : decode cL_law 187 = .ok (.if_icmp .eq 5, 3) := by decide +kernel
theorem dL_law_190 : decode cL_law 190 = .ok (.iconst 0, 1) := by decide +kernel
theorem dL_law_191 : decode cL_law 191 = .ok (.ireturn, 1) := by decide +kernel
theorem dL_law_192 : decode cL_law 192 = .ok (.iload 5, 2) := by decide +kernel
theorem dL_law_194 : decode cL_law 194 = .ok (.ifCond .ne 15, 3) := by decide +kernel
theorem dL_law_197 : decode cL_law 197 = .ok (.aload_n 3, 1) := by decide +kernel
theorem dL_law_198 : decode cL_law 198 = .ok (.iconst 0, 1) := by decide +kernel
theorem dL_law_199 : decode cL_law 199 = .ok (.laload, 1) := by decide +kernel
theorem dL_law_200 : decode cL_law 200 = .ok (.iload 6, 2) := by decide +kernel
theorem dL_law_202 : decode cL_law 202 = .ok (.i2l, 1) := by decide +kernel
theorem dL_law_203 : decode cL_law 203 = .ok (.lcmp, 1) := by decide +kernel
theorem dL_law_204 : decode cL_law 204 = .ok (.ifCond .eq 5, 3) := by decide +kernel
theorem dL_law_207 : decode cL_law 207 = .ok (.iconst 0, 1) := by decide +kernel
theorem dL_law_208 : decode cL_law 208 = .ok (.ireturn, 1) := by decide +kernel
theorem dL_law_209 : decode cL_law 209 = .ok (.goto 1154, 3) := by decide +kernel
theorem dL_law_212 : decode cL_law 212 = .ok (.aload_n 1, 1) := by decide +kernel
theorem dL_law_213 : decode cL_law 213 = .ok (.aload_n 3, 1) := by decide +kernel
theorem dL_law_214 : decode cL_law 214 = .ok (.invokestatic 86, 3) := by decide +kernel
theorem dL_law_217 : decode cL_law 217 = .ok (.istore 5, 2) := by decide +kernel
theorem dL_law_219 : decode cL_law 219 = .ok (.aload_n 2, 1) := by decide +kernel
theorem dL_law_220 : decode cL_law 220 = .ok (.invokevirtual 89, 3) := by decide +kernel
theorem dL_law_223 : decode cL_law 223 = .ok (.istore 6, 2) := by decide +kernel
theorem dL_law_225 : decode cL_law 225 = .ok (.aload_n 2, 1) := by decide +kernel
theorem dL_law_226 : decode cL_law 226 = .ok (.invokevirtual 83, 3) := by decide +kernel
theorem dL_law_229 : decode cL_law 229 = .ok (.iload 5, 2) := by decide +kernel
theorem dL_law_231 : decode cL_law 231 = .ok (.if_icmp .eq 5, 3) := by decide +kernel
theorem dL_law_234 : decode cL_law 234 = .ok (.iconst 0, 1) := by decide +kernel
theorem dL_law_235 : decode cL_law 235 = .ok (.ireturn, 1) := by decide +kernel
theorem dL_law_236 : decode cL_law 236 = .ok (.iload 5, 2) := by decide +kernel
theorem dL_law_238 : decode cL_law 238 = .ok (.ifCond .ne 15, 3) := by decide +kernel
theorem dL_law_241 : decode cL_law 241 = .ok (.aload_n 3, 1) := by decide +kernel
theorem dL_law_242 : decode cL_law 242 = .ok (.iconst 0, 1) := by decide +kernel
theorem dL_law_243 : decode cL_law 243 = .ok (.laload, 1) := by decide +kernel
theorem dL_law_244 : decode cL_law 244 = .ok (.iload 6, 2) := by decide +kernel
theorem dL_law_246 : decode cL_law 246 = .ok (.i2l, 1) := by decide +kernel
theorem dL_law_247 : decode cL_law 247 = .ok (.lcmp, 1) := by decide +kernel
theorem dL_law_248 : decode cL_law 248 = .ok (.ifCond .eq 5, 3) := by decide +kernel
theorem dL_law_251 : decode cL_law 251 = .ok (.iconst 0, 1) := by decide +kernel
theorem dL_law_252 : decode cL_law 252 = .ok (.ireturn, 1) := by decide +kernel
theorem dL_law_253 : decode cL_law 253 = .ok (.goto 1110, 3) := by decide +kernel
theorem dL_law_256 : decode cL_law 256 = .ok (.aload_n 1, 1) := by decide +kernel
theorem dL_law_257 : decode cL_law 257 = .ok (.invokevirtual 90, 3) := by decide +kernel
theorem dL_law_260 : decode cL_law 260 = .ok (.aload_n 2, 1) := by decide +kernel
theorem dL_law_261 : decode cL_law 261 = .ok (.invokevirtual 93, 3) := by decide +kernel
theorem dL_law_264 : decode cL_law 264 = .ok (.if_icmp .eq 1099, 3) := by decide +kernel
theorem dL_law_267 : decode cL_law 267 = .ok (.iconst 0, 1) := by decide +kernel
theorem dL_law_268 : decode cL_law 268 = .ok (.ireturn, 1) := by decide +kernel
theorem dL_law_269 : decode cL_law 269 = .ok (.aload_n 1, 1) := by decide +kernel
theorem dL_law_270 : decode cL_law 270 = .ok (.aload_n 0, 1) := by decide +kernel
theorem dL_law_271 : decode cL_law 271 = .ok (.iload 4, 2) := by decide +kernel
theorem dL_law_273 : decode cL_law 273 = .ok (.iconst 1, 1) := by decide +kernel
theorem dL_law_274 : decode cL_law 274 = .ok (.iadd, 1) := by decide +kernel
theorem dL_law_275 : decode cL_law 275 = .ok (.iaload, 1) := by decide +kernel
theorem dL_law_276 : decode cL_law 276 = .ok (.aload_n 0, 1) := by decide +kernel
theorem dL_law_277 : decode cL_law 277 = .ok (.iload 4, 2) := by decide +kernel
theorem dL_law_279 : decode cL_law 279 = .ok (.iconst 2, 1) := by decide +kernel
theorem dL_law_280 : decode cL_law 280 = .ok (.iadd, 1) := by decide +kernel
theorem dL_law_281 : decode cL_law 281 = .ok (.iaload, 1) := by decide +kernel
theorem dL_law_282 : decode cL_law 282 = .ok (.aload_n 3, 1) := by decide +kernel
theorem dL_law_283 : decode cL_law 283 = .ok (.invokestatic 94, 3) := by decide +kernel
theorem dL_law_286 : decode cL_law 286 = .ok (.istore 5, 2) := by decide +kernel
theorem dL_law_288 : decode cL_law 288 = .ok (.aload_n 2, 1) := by decide +kernel
theorem dL_law_289 : decode cL_law 289 = .ok (.aload_n 0, 1) := by decide +kernel
theorem dL_law_290 : decode cL_law 290 = .ok (.iload 4, 2) := by decide +kernel
theorem dL_law_292 : decode cL_law 292 = .ok (.iconst 1, 1) := by decide +kernel
theorem dL_law_293 : decode cL_law 293 = .ok (.iadd, 1) := by decide +kernel
theorem dL_law_294 : decode cL_law 294 = .ok (.iaload, 1) := by decide +kernel
theorem dL_law_295 : decode cL_law 295 = .ok (.aload_n 0, 1) := by decide +kernel
theorem dL_law_296 : decode cL_law 296 = .ok (.iload 4, 2) := by decide +kernel
theorem dL_law_298 : decode cL_law 298 = .ok (.iconst 2, 1) := by decide +kernel
theorem dL_law_299 : decode cL_law 299 = .ok (.iadd, 1) := by decide +kernel
theorem dL_law_300 : decode cL_law 300 = .ok (.iaload, 1) := by decide +kernel
theorem dL_law_301 : decode cL_law 301 = .ok (.invokevirtual 97, 3) := by decide +kernel
theorem dL_law_304 : decode cL_law 304 = .ok (.istore 6, 2) := by decide +kernel
theorem dL_law_306 : decode cL_law 306 = .ok (.aload_n 2, 1) := by decide +kernel
theorem dL_law_307 : decode cL_law 307 = .ok (.invokevirtual 83, 3) := by decide +kernel
theorem dL_law_310 : decode cL_law 310 = .ok (.iload 5, 2) := by decide +kernel
theorem dL_law_312 : decode cL_law 312 = .ok (.if_icmp .eq 5, 3) := by decide +kernel
theorem dL_law_315 : decode cL_law 315 = .ok (.iconst 0, 1) := by decide +kernel
theorem dL_law_316 : decode cL_law 316 = .ok (.ireturn, 1) := by decide +kernel
theorem dL_law_317 : decode cL_law 317 = .ok (.iload 5, 2) := by decide +kernel
theorem dL_law_319 : decode cL_law 319 = .ok (.ifCond .ne 15, 3) := by decide +kernel
theorem dL_law_322 : decode cL_law 322 = .ok (.aload_n 3, 1) := by decide +kernel
theorem dL_law_323 : decode cL_law 323 = .ok (.iconst 0, 1) := by decide +kernel
theorem dL_law_324 : decode cL_law 324 = .ok (.laload, 1) := by decide +kernel
theorem dL_law_325 : decode cL_law 325 = .ok (.iload 6, 2) := by decide +kernel
theorem dL_law_327 : decode cL_law 327 = .ok (.i2l, 1) := by decide +kernel
theorem dL_law_328 : decode cL_law 328 = .ok (.lcmp, 1) := by decide +kernel
theorem dL_law_329 : decode cL_law 329 = .ok (.ifCond .eq 5, 3) := by decide +kernel
theorem dL_law_332 : decode cL_law 332 = .ok (.iconst 0, 1) := by decide +kernel
theorem dL_law_333 : decode cL_law 333 = .ok (.ireturn, 1) := by decide +kernel
theorem dL_law_334 : decode cL_law 334 = .ok (.goto 1029, 3) := by decide +kernel
theorem dL_law_337 : decode cL_law 337 = .ok (.aload_n 1, 1) := by decide +kernel
theorem dL_law_338 : decode cL_law 338 = .ok (.aload_n 0, 1) := by decide +kernel
theorem dL_law_339 : decode cL_law 339 = .ok (.iload 4, 2) := by decide +kernel
theorem dL_law_341 : decode cL_law 341 = .ok (.iconst 1, 1) := by decide +kernel
theorem dL_law_342 : decode cL_law 342 = .ok (.iadd, 1) := by decide +kernel
theorem dL_law_343 : decode cL_law 343 = .ok (.iaload, 1) := by decide +kernel
theorem dL_law_344 : decode cL_law 344 = .ok (.aload_n 0, 1) := by decide +kernel
theorem dL_law_345 : decode cL_law 345 = .ok (.iload 4, 2) := by decide +kernel
theorem dL_law_347 : decode cL_law 347 = .ok (.iconst 2, 1) := by decide +kernel
theorem dL_law_348 : decode cL_law 348 = .ok (.iadd, 1) := by decide +kernel
theorem dL_law_349 : decode cL_law 349 = .ok (.iaload, 1) := by decide +kernel
theorem dL_law_350 : decode cL_law 350 = .ok (.aload_n 3, 1) := by decide +kernel
theorem dL_law_351 : decode cL_law 351 = .ok (.invokestatic 98, 3) := by decide +kernel
theorem dL_law_354 : decode cL_law 354 = .ok (.istore 5, 2) := by decide +kernel
theorem dL_law_356 : decode cL_law 356 = .ok (.aload_n 2, 1) := by decide +kernel
theorem dL_law_357 : decode cL_law 357 = .ok (.aload_n 0, 1) := by decide +kernel
theorem dL_law_358 : decode cL_law 358 = .ok (.iload 4, 2) := by decide +kernel
theorem dL_law_360 : decode cL_law 360 = .ok (.iconst 1, 1) := by decide +kernel
theorem dL_law_361 : decode cL_law 361 = .ok (.iadd, 1) := by decide +kernel
theorem dL_law_362 : decode cL_law 362 = .ok (.iaload, 1) := by decide +kernel
theorem dL_law_363 : decode cL_law 363 = .ok (.aload_n 0, 1) := by decide +kernel
theorem dL_law_364 : decode cL_law 364 = .ok (.iload 4, 2) := by decide +kernel
theorem dL_law_366 : decode cL_law 366 = .ok (.iconst 2, 1) := by decide +kernel
theorem dL_law_367 : decode cL_law 367 = .ok (.iadd, 1) := by decide +kernel
theorem dL_law_368 : decode cL_law 368 = .ok (.iaload, 1) := by decide +kernel
theorem dL_law_369 : decode cL_law 369 = .ok (.invokevirtual 100, 3) := by decide +kernel
theorem dL_law_372 : decode cL_law 372 = .ok (.istore 6, 2) := by decide +kernel
theorem dL_law_374 : decode cL_law 374 = .ok (.aload_n 2, 1) := by decide +kernel
theorem dL_law_375 : decode cL_law 375 = .ok (.invokevirtual 83, 3) := by decide +kernel
theorem dL_law_378 : decode cL_law 378 = .ok (.iload 5, 2) := by decide +kernel
theorem dL_law_380 : decode cL_law 380 = .ok (.if_icmp .eq 5, 3) := by decide +kernel
theorem dL_law_383 : decode cL_law 383 = .ok (.iconst 0, 1) := by decide +kernel
theorem dL_law_384 : decode cL_law 384 = .ok (.ireturn, 1) := by decide +kernel
theorem dL_law_385 : decode cL_law 385 = .ok (.iload 5, 2) := by decide +kernel
theorem dL_law_387 : decode cL_law 387 = .ok (.ifCond .ne 15, 3) := by decide +kernel
theorem dL_law_390 : decode cL_law 390 = .ok (.aload_n 3, 1) := by decide +kernel
theorem dL_law_391 : decode cL_law 391 = .ok (.iconst 0, 1) := by decide +kernel
theorem dL_law_392 : decode cL_law 392 = .ok (.laload, 1) := by decide +kernel
theorem dL_law_393 : decode cL_law 393 = .ok (.iload 6, 2) := by decide +kernel
theorem dL_law_395 : decode cL_law 395 = .ok (.i2l, 1) := by decide +kernel
theorem dL_law_396 : decode cL_law 396 = .ok (.lcmp, 1) := by decide +kernel
theorem dL_law_397 : decode cL_law 397 = .ok (.ifCond .eq 5, 3) := by decide +kernel
theorem dL_law_400 : decode cL_law 400 = .ok (.iconst 0, 1) := by decide +kernel
theorem dL_law_401 : decode cL_law 401 = .ok (.ireturn, 1) := by decide +kernel
theorem dL_law_402 : decode cL_law 402 = .ok (.goto 961, 3) := by decide +kernel
theorem dL_law_405 : decode cL_law 405 = .ok (.aload_n 1, 1) := by decide +kernel
theorem dL_law_406 : decode cL_law 406 = .ok (.aload_n 0, 1) := by decide +kernel
theorem dL_law_407 : decode cL_law 407 = .ok (.iload 4, 2) := by decide +kernel
theorem dL_law_409 : decode cL_law 409 = .ok (.iconst 1, 1) := by decide +kernel
theorem dL_law_410 : decode cL_law 410 = .ok (.iadd, 1) := by decide +kernel
theorem dL_law_411 : decode cL_law 411 = .ok (.iaload, 1) := by decide +kernel
theorem dL_law_412 : decode cL_law 412 = .ok (.aload_n 0, 1) := by decide +kernel
theorem dL_law_413 : decode cL_law 413 = .ok (.iload 4, 2) := by decide +kernel
theorem dL_law_415 : decode cL_law 415 = .ok (.iconst 2, 1) := by decide +kernel
theorem dL_law_416 : decode cL_law 416 = .ok (.iadd, 1) := by decide +kernel
theorem dL_law_417 : decode cL_law 417 = .ok (.iaload, 1) := by decide +kernel
theorem dL_law_418 : decode cL_law 418 = .ok (.aload_n 0, 1) := by decide +kernel
theorem dL_law_419 : decode cL_law 419 = .ok (.iload 4, 2) := by decide +kernel
theorem dL_law_421 : decode cL_law 421 = .ok (.iconst 3, 1) := by decide +kernel
theorem dL_law_422 : decode cL_law 422 = .ok (.iadd, 1) := by decide +kernel
theorem dL_law_423 : decode cL_law 423 = .ok (.iaload, 1) := by decide +kernel
theorem dL_law_424 : decode cL_law 424 = .ok (.aload_n 3, 1) := by decide +kernel
theorem dL_law_425 : decode cL_law 425 = .ok (.invokestatic 101, 3) := by decide +kernel
theorem dL_law_428 : decode cL_law 428 = .ok (.istore 5, 2) := by decide +kernel
theorem dL_law_430 : decode cL_law 430 = .ok (.aload_n 2, 1) := by decide +kernel
theorem dL_law_431 : decode cL_law 431 = .ok (.aload_n 0, 1) := by decide +kernel
theorem dL_law_432 : decode cL_law 432 = .ok (.iload 4, 2) := by decide +kernel
theorem dL_law_434 : decode cL_law 434 = .ok (.iconst 1, 1) := by decide +kernel
theorem dL_law_435 : decode cL_law 435 = .ok (.iadd, 1) := by decide +kernel
theorem dL_law_436 : decode cL_law 436 = .ok (.iaload, 1) := by decide +kernel
theorem dL_law_437 : decode cL_law 437 = .ok (.aload_n 0, 1) := by decide +kernel
theorem dL_law_438 : decode cL_law 438 = .ok (.iload 4, 2) := by decide +kernel
theorem dL_law_440 : decode cL_law 440 = .ok (.iconst 2, 1) := by decide +kernel
theorem dL_law_441 : decode cL_law 441 = .ok (.iadd, 1) := by decide +kernel
theorem dL_law_442 : decode cL_law 442 = .ok (.iaload, 1) := by decide +kernel
theorem dL_law_443 : decode cL_law 443 = .ok (.aload_n 0, 1) := by decide +kernel
theorem dL_law_444 : decode cL_law 444 = .ok (.iload 4, 2) := by decide +kernel
theorem dL_law_446 : decode cL_law 446 = .ok (.iconst 3, 1) := by decide +kernel
theorem dL_law_447 : decode cL_law 447 = .ok (.iadd, 1) := by decide +kernel
theorem dL_law_448 : decode cL_law 448 = .ok (.iaload, 1) := by decide +kernel
theorem dL_law_449 : decode cL_law 449 = .ok (.invokevirtual 104, 3) := by decide +kernel
theorem dL_law_452 : decode cL_law 452 = .ok (.istore 6, 2) := by decide +kernel
theorem dL_law_454 : decode cL_law 454 = .ok (.aload_n 2, 1) := by decide +kernel
theorem dL_law_455 : decode cL_law 455 = .ok (.invokevirtual 83, 3) := by decide +kernel
theorem dL_law_458 : decode cL_law 458 = .ok (.iload 5, 2) := by decide +kernel
theorem dL_law_460 : decode cL_law 460 = .ok (.if_icmp .eq 5, 3) := by decide +kernel
theorem dL_law_463 : decode cL_law 463 = .ok (.iconst 0, 1) := by decide +kernel
theorem dL_law_464 : decode cL_law 464 = .ok (.ireturn, 1) := by decide +kernel
theorem dL_law_465 : decode cL_law 465 = .ok (.iload 5, 2) := by decide +kernel
theorem dL_law_467 : decode cL_law 467 = .ok (.ifCond .ne 15, 3) := by decide +kernel
theorem dL_law_470 : decode cL_law 470 = .ok (.aload_n 3, 1) := by decide +kernel
theorem dL_law_471 : decode cL_law 471 = .ok (.iconst 0, 1) := by decide +kernel
theorem dL_law_472 : decode cL_law 472 = .ok (.laload, 1) := by decide +kernel
theorem dL_law_473 : decode cL_law 473 = .ok (.iload 6, 2) := by decide +kernel
theorem dL_law_475 : decode cL_law 475 = .ok (.i2l, 1) := by decide +kernel
theorem dL_law_476 : decode cL_law 476 = .ok (.lcmp, 1) := by decide +kernel
theorem dL_law_477 : decode cL_law 477 = .ok (.ifCond .eq 5, 3) := by decide +kernel
theorem dL_law_480 : decode cL_law 480 = .ok (.iconst 0, 1) := by decide +kernel
theorem dL_law_481 : decode cL_law 481 = .ok (.ireturn, 1) := by decide +kernel
theorem dL_law_482 : decode cL_law 482 = .ok (.goto 881, 3) := by decide +kernel
theorem dL_law_485 : decode cL_law 485 = .ok (.aload_n 1, 1) := by decide +kernel
theorem dL_law_486 : decode cL_law 486 = .ok (.aload_n 0, 1) := by decide +kernel
theorem dL_law_487 : decode cL_law 487 = .ok (.iload 4, 2) := by decide +kernel
theorem dL_law_489 : decode cL_law 489 = .ok (.iconst 1, 1) := by decide +kernel
theorem dL_law_490 : decode cL_law 490 = .ok (.iadd, 1) := by decide +kernel
theorem dL_law_491 : decode cL_law 491 = .ok (.iaload, 1) := by decide +kernel
theorem dL_law_492 : decode cL_law 492 = .ok (.aload_n 0, 1) := by decide +kernel
theorem dL_law_493 : decode cL_law 493 = .ok (.iload 4, 2) := by decide +kernel
theorem dL_law_495 : decode cL_law 495 = .ok (.iconst 2, 1) := by decide +kernel
theorem dL_law_496 : decode cL_law 496 = .ok (.iadd, 1) := by decide +kernel
theorem dL_law_497 : decode cL_law 497 = .ok (.iaload, 1) := by decide +kernel
theorem dL_law_498 : decode cL_law 498 = .ok (.aload_n 3, 1) := by decide +kernel
theorem dL_law_499 : decode cL_law 499 = .ok (.invokestatic 105, 3) := by decide +kernel
theorem dL_law_502 : decode cL_law 502 = .ok (.istore 5, 2) := by decide +kernel
theorem dL_law_504 : decode cL_law 504 = .ok (.aload_n 2, 1) := by decide +kernel
theorem dL_law_505 : decode cL_law 505 = .ok (.aload_n 0, 1) := by decide +kernel
theorem dL_law_506 : decode cL_law 506 = .ok (.iload 4, 2) := by decide +kernel
theorem dL_law_508 : decode cL_law 508 = .ok (.iconst 1, 1) := by decide +kernel
theorem dL_law_509 : decode cL_law 509 = .ok (.iadd, 1) := by decide +kernel
theorem dL_law_510 : decode cL_law 510 = .ok (.iaload, 1) := by decide +kernel
theorem dL_law_511 : decode cL_law 511 = .ok (.aload_n 0, 1) := by decide +kernel
theorem dL_law_512 : decode cL_law 512 = .ok (.iload 4, 2) := by decide +kernel
theorem dL_law_514 : decode cL_law 514 = .ok (.iconst 2, 1) := by decide +kernel
theorem dL_law_515 : decode cL_law 515 = .ok (.iadd, 1) := by decide +kernel
theorem dL_law_516 : decode cL_law 516 = .ok (.iaload, 1) := by decide +kernel
theorem dL_law_517 : decode cL_law 517 = .ok (.invokevirtual 107, 3) := by decide +kernel
theorem dL_law_520 : decode cL_law 520 = .ok (.istore 6, 2) := by decide +kernel
theorem dL_law_522 : decode cL_law 522 = .ok (.aload_n 2, 1) := by decide +kernel
theorem dL_law_523 : decode cL_law 523 = .ok (.invokevirtual 83, 3) := by decide +kernel
theorem dL_law_526 : decode cL_law 526 = .ok (.iload 5, 2) := by decide +kernel
theorem dL_law_528 : decode cL_law 528 = .ok (.if_icmp .eq 5, 3) := by decide +kernel
theorem dL_law_531 : decode cL_law 531 = .ok (.iconst 0, 1) := by decide +kernel
theorem dL_law_532 : decode cL_law 532 = .ok (.ireturn, 1) := by decide +kernel
theorem dL_law_533 : decode cL_law 533 = .ok (.iload 5, 2) := by decide +kernel
theorem dL_law_535 : decode cL_law 535 = .ok (.ifCond .ne 15, 3) := by decide +kernel
theorem dL_law_538 : decode cL_law 538 = .ok (.aload_n 3, 1) := by decide +kernel
theorem dL_law_539 : decode cL_law 539 = .ok (.iconst 0, 1) := by decide +kernel
theorem dL_law_540 : decode cL_law 540 = .ok (.laload, 1) := by decide +kernel
theorem dL_law_541 : decode cL_law 541 = .ok (.iload 6, 2) := by decide +kernel
theorem dL_law_543 : decode cL_law 543 = .ok (.i2l, 1) := by decide +kernel
theorem dL_law_544 : decode cL_law 544 = .ok (.lcmp, 1) := by decide +kernel
theorem dL_law_545 : decode cL_law 545 = .ok (.ifCond .eq 5, 3) := by decide +kernel
theorem dL_law_548 : decode cL_law 548 = .ok (.iconst 0, 1) := by decide +kernel
theorem dL_law_549 : decode cL_law 549 = .ok (.ireturn, 1) := by decide +kernel
theorem dL_law_550 : decode cL_law 550 = .ok (.goto 813, 3) := by decide +kernel
theorem dL_law_553 : decode cL_law 553 = .ok (.aload_n 1, 1) := by decide +kernel
theorem dL_law_554 : decode cL_law 554 = .ok (.aload_n 0, 1) := by decide +kernel
theorem dL_law_555 : decode cL_law 555 = .ok (.iload 4, 2) := by decide +kernel
theorem dL_law_557 : decode cL_law 557 = .ok (.iconst 1, 1) := by decide +kernel
theorem dL_law_558 : decode cL_law 558 = .ok (.iadd, 1) := by decide +kernel
theorem dL_law_559 : decode cL_law 559 = .ok (.iaload, 1) := by decide +kernel
theorem dL_law_560 : decode cL_law 560 = .ok (.aload_n 3, 1) := by decide +kernel
theorem dL_law_561 : decode cL_law 561 = .ok (.invokestatic 108, 3) := by decide +kernel
theorem dL_law_564 : decode cL_law 564 = .ok (.istore 5, 2) := by decide +kernel
theorem dL_law_566 : decode cL_law 566 = .ok (.aload_n 2, 1) := by decide +kernel
theorem dL_law_567 : decode cL_law 567 = .ok (.aload_n 0, 1) := by decide +kernel
theorem dL_law_568 : decode cL_law 568 = .ok (.iload 4, 2) := by decide +kernel
theorem dL_law_570 : decode cL_law 570 = .ok (.iconst 1, 1) := by decide +kernel
theorem dL_law_571 : decode cL_law 571 = .ok (.iadd, 1) := by decide +kernel
theorem dL_law_572 : decode cL_law 572 = .ok (.iaload, 1) := by decide +kernel
theorem dL_law_573 : decode cL_law 573 = .ok (.invokevirtual 110, 3) := by decide +kernel
theorem dL_law_576 : decode cL_law 576 = .ok (.istore 6, 2) := by decide +kernel
theorem dL_law_578 : decode cL_law 578 = .ok (.aload_n 2, 1) := by decide +kernel
theorem dL_law_579 : decode cL_law 579 = .ok (.invokevirtual 83, 3) := by decide +kernel
theorem dL_law_582 : decode cL_law 582 = .ok (.iload 5, 2) := by decide +kernel
theorem dL_law_584 : decode cL_law 584 = .ok (.if_icmp .eq 5, 3) := by decide +kernel
theorem dL_law_587 : decode cL_law 587 = .ok (.iconst 0, 1) := by decide +kernel
theorem dL_law_588 : decode cL_law 588 = .ok (.ireturn, 1) := by decide +kernel
theorem dL_law_589 : decode cL_law 589 = .ok (.iload 5, 2) := by decide +kernel
theorem dL_law_591 : decode cL_law 591 = .ok (.ifCond .ne 15, 3) := by decide +kernel
theorem dL_law_594 : decode cL_law 594 = .ok (.aload_n 3, 1) := by decide +kernel
theorem dL_law_595 : decode cL_law 595 = .ok (.iconst 0, 1) := by decide +kernel
theorem dL_law_596 : decode cL_law 596 = .ok (.laload, 1) := by decide +kernel
theorem dL_law_597 : decode cL_law 597 = .ok (.iload 6, 2) := by decide +kernel
theorem dL_law_599 : decode cL_law 599 = .ok (.i2l, 1) := by decide +kernel
theorem dL_law_600 : decode cL_law 600 = .ok (.lcmp, 1) := by decide +kernel
theorem dL_law_601 : decode cL_law 601 = .ok (.ifCond .eq 5, 3) := by decide +kernel
theorem dL_law_604 : decode cL_law 604 = .ok (.iconst 0, 1) := by decide +kernel
theorem dL_law_605 : decode cL_law 605 = .ok (.ireturn, 1) := by decide +kernel
theorem dL_law_606 : decode cL_law 606 = .ok (.goto 757, 3) := by decide +kernel
theorem dL_law_609 : decode cL_law 609 = .ok (.aload_n 1, 1) := by decide +kernel
theorem dL_law_610 : decode cL_law 610 = .ok (.invokevirtual 111, 3) := by decide +kernel
theorem dL_law_613 : decode cL_law 613 = .ok (.aload_n 2, 1) := by decide +kernel
theorem dL_law_614 : decode cL_law 614 = .ok (.invokevirtual 114, 3) := by decide +kernel
theorem dL_law_617 : decode cL_law 617 = .ok (.if_icmp .eq 746, 3) := by decide +kernel
theorem dL_law_620 : decode cL_law 620 = .ok (.iconst 0, 1) := by decide +kernel
theorem dL_law_621 : decode cL_law 621 = .ok (.ireturn, 1) := by decide +kernel
theorem dL_law_622 : decode cL_law 622 = .ok (.aload_n 1, 1) := by decide +kernel
theorem dL_law_623 : decode cL_law 623 = .ok (.invokevirtual 115, 3) := by decide +kernel
theorem dL_law_626 : decode cL_law 626 = .ok (.aload_n 2, 1) := by decide +kernel
theorem dL_law_627 : decode cL_law 627 = .ok (.invokevirtual 118, 3) := by decide +kernel
theorem dL_law_630 : decode cL_law 630 = .ok (.if_icmp .eq 733, 3) := by decide +kernel
theorem dL_law_633 : decode cL_law 633 = .ok (.iconst 0, 1) := by decide +kernel
theorem dL_law_634 : decode cL_law 634 = .ok (.ireturn, 1) := by decide +kernel
theorem dL_law_635 : decode cL_law 635 = .ok (.aload_n 1, 1) := by decide +kernel
theorem dL_law_636 : decode cL_law 636 = .ok (.aload_n 3, 1) := by decide +kernel
theorem dL_law_637 : decode cL_law 637 = .ok (.invokestatic 119, 3) := by decide +kernel
theorem dL_law_640 : decode cL_law 640 = .ok (.istore 5, 2) := by decide +kernel
theorem dL_law_642 : decode cL_law 642 = .ok (.aload_n 2, 1) := by decide +kernel
theorem dL_law_643 : decode cL_law 643 = .ok (.invokevirtual 121, 3) := by decide +kernel
theorem dL_law_646 : decode cL_law 646 = .ok (.istore 6, 2) := by decide +kernel
theorem dL_law_648 : decode cL_law 648 = .ok (.aload_n 2, 1) := by decide +kernel
theorem dL_law_649 : decode cL_law 649 = .ok (.invokevirtual 83, 3) := by decide +kernel
theorem dL_law_652 : decode cL_law 652 = .ok (.iload 5, 2) := by decide +kernel
theorem dL_law_654 : decode cL_law 654 = .ok (.if_icmp .eq 5, 3) := by decide +kernel
theorem dL_law_657 : decode cL_law 657 = .ok (.iconst 0, 1) := by decide +kernel
theorem dL_law_658 : decode cL_law 658 = .ok (.ireturn, 1) := by decide +kernel
theorem dL_law_659 : decode cL_law 659 = .ok (.iload 5, 2) := by decide +kernel
theorem dL_law_661 : decode cL_law 661 = .ok (.ifCond .ne 15, 3) := by decide +kernel
theorem dL_law_664 : decode cL_law 664 = .ok (.aload_n 3, 1) := by decide +kernel
theorem dL_law_665 : decode cL_law 665 = .ok (.iconst 0, 1) := by decide +kernel
theorem dL_law_666 : decode cL_law 666 = .ok (.laload, 1) := by decide +kernel
theorem dL_law_667 : decode cL_law 667 = .ok (.iload 6, 2) := by decide +kernel
theorem dL_law_669 : decode cL_law 669 = .ok (.i2l, 1) := by decide +kernel
theorem dL_law_670 : decode cL_law 670 = .ok (.lcmp, 1) := by decide +kernel
theorem dL_law_671 : decode cL_law 671 = .ok (.ifCond .eq 5, 3) := by decide +kernel
theorem dL_law_674 : decode cL_law 674 = .ok (.iconst 0, 1) := by decide +kernel
theorem dL_law_675 : decode cL_law 675 = .ok (.ireturn, 1) := by decide +kernel
theorem dL_law_676 : decode cL_law 676 = .ok (.goto 687, 3) := by decide +kernel
theorem dL_law_679 : decode cL_law 679 = .ok (.aload_n 1, 1) := by decide +kernel
theorem dL_law_680 : decode cL_law 680 = .ok (.invokevirtual 122, 3) := by decide +kernel
theorem dL_law_683 : decode cL_law 683 = .ok (.aload_n 2, 1) := by decide +kernel
theorem dL_law_684 : decode cL_law 684 = .ok (.invokevirtual 125, 3) := by decide +kernel
theorem dL_law_687 : decode cL_law 687 = .ok (.if_icmp .eq 676, 3) := by decide +kernel
theorem dL_law_690 : decode cL_law 690 = .ok (.iconst 0, 1) := by decide +kernel
theorem dL_law_691 : decode cL_law 691 = .ok (.ireturn, 1) := by decide +kernel
theorem dL_law_692 : decode cL_law 692 = .ok (.aload_n 1, 1) := by decide +kernel
theorem dL_law_693 : decode cL_law 693 = .ok (.aload_n 3, 1) := by decide +kernel
theorem dL_law_694 : decode cL_law 694 = .ok (.invokestatic 126, 3) := by decide +kernel
theorem dL_law_697 : decode cL_law 697 = .ok (.istore 5, 2) := by decide +kernel
theorem dL_law_699 : decode cL_law 699 = .ok (.aload_n 2, 1) := by decide +kernel
theorem dL_law_700 : decode cL_law 700 = .ok (.invokevirtual 128, 3) := by decide +kernel
theorem dL_law_703 : decode cL_law 703 = .ok (.istore 6, 2) := by decide +kernel
theorem dL_law_705 : decode cL_law 705 = .ok (.aload_n 2, 1) := by decide +kernel
theorem dL_law_706 : decode cL_law 706 = .ok (.invokevirtual 83, 3) := by decide +kernel
theorem dL_law_709 : decode cL_law 709 = .ok (.iload 5, 2) := by decide +kernel
theorem dL_law_711 : decode cL_law 711 = .ok (.if_icmp .eq 5, 3) := by decide +kernel
theorem dL_law_714 : decode cL_law 714 = .ok (.iconst 0, 1) := by decide +kernel
theorem dL_law_715 : decode cL_law 715 = .ok (.ireturn, 1) := by decide +kernel
theorem dL_law_716 : decode cL_law 716 = .ok (.iload 5, 2) := by decide +kernel
theorem dL_law_718 : decode cL_law 718 = .ok (.ifCond .ne 15, 3) := by decide +kernel
theorem dL_law_721 : decode cL_law 721 = .ok (.aload_n 3, 1) := by decide +kernel
theorem dL_law_722 : decode cL_law 722 = .ok (.iconst 0, 1) := by decide +kernel
theorem dL_law_723 : decode cL_law 723 = .ok (.laload, 1) := by decide +kernel
theorem dL_law_724 : decode cL_law 724 = .ok (.iload 6, 2) := by decide +kernel
theorem dL_law_726 : decode cL_law 726 = .ok (.i2l, 1) := by decide +kernel
theorem dL_law_727 : decode cL_law 727 = .ok (.lcmp, 1) := by decide +kernel
theorem dL_law_728 : decode cL_law 728 = .ok (.ifCond .eq 5, 3) := by decide +kernel
theorem dL_law_731 : decode cL_law 731 = .ok (.iconst 0, 1) := by decide +kernel
theorem dL_law_732 : decode cL_law 732 = .ok (.ireturn, 1) := by decide +kernel
theorem dL_law_733 : decode cL_law 733 = .ok (.goto 630, 3) := by decide +kernel
theorem dL_law_736 : decode cL_law 736 = .ok (.aload_n 1, 1) := by decide +kernel
theorem dL_law_737 : decode cL_law 737 = .ok (.aload_n 3, 1) := by decide +kernel
theorem dL_law_738 : decode cL_law 738 = .ok (.invokestatic 129, 3) := by decide +kernel
theorem dL_law_741 : decode cL_law 741 = .ok (.istore 5, 2) := by decide +kernel
theorem dL_law_743 : decode cL_law 743 = .ok (.aload_n 2, 1) := by decide +kernel
theorem dL_law_744 : decode cL_law 744 = .ok (.invokevirtual 131, 3) := by decide +kernel
theorem dL_law_747 : decode cL_law 747 = .ok (.istore 6, 2) := by decide +kernel
theorem dL_law_749 : decode cL_law 749 = .ok (.aload_n 2, 1) := by decide +kernel
theorem dL_law_750 : decode cL_law 750 = .ok (.invokevirtual 83, 3) := by decide +kernel
theorem dL_law_753 : decode cL_law 753 = .ok (.iload 5, 2) := by decide +kernel
theorem dL_law_755 : decode cL_law 755 = .ok (.if_icmp .eq 5, 3) := by decide +kernel
theorem dL_law_758 : decode cL_law 758 = .ok (.iconst 0, 1) := by decide +kernel
theorem dL_law_759 : decode cL_law 759 = .ok (.ireturn, 1) := by decide +kernel
theorem dL_law_760 : decode cL_law 760 = .ok (.iload 5, 2) := by decide +kernel
theorem dL_law_762 : decode cL_law 762 = .ok (.ifCond .ne 15, 3) := by decide +kernel
theorem dL_law_765 : decode cL_law 765 = .ok (.aload_n 3, 1) := by decide +kernel
theorem dL_law_766 : decode cL_law 766 = .ok (.iconst 0, 1) := by decide +kernel
theorem dL_law_767 : decode cL_law 767 = .ok (.laload, 1) := by decide +kernel
theorem dL_law_768 : decode cL_law 768 = .ok (.iload 6, 2) := by decide +kernel
theorem dL_law_770 : decode cL_law 770 = .ok (.i2l, 1) := by decide +kernel
theorem dL_law_771 : decode cL_law 771 = .ok (.lcmp, 1) := by decide +kernel
theorem dL_law_772 : decode cL_law 772 = .ok (.ifCond .eq 5, 3) := by decide +kernel
theorem dL_law_775 : decode cL_law 775 = .ok (.iconst 0, 1) := by decide +kernel
theorem dL_law_776 : decode cL_law 776 = .ok (.ireturn, 1) := by decide +kernel
theorem dL_law_777 : decode cL_law 777 = .ok (.goto 586, 3) := by decide +kernel
theorem dL_law_780 : decode cL_law 780 = .ok (.aload_n 1, 1) := by decide +kernel
theorem dL_law_781 : decode cL_law 781 = .ok (.aload_n 0, 1) := by decide +kernel
theorem dL_law_782 : decode cL_law 782 = .ok (.iload 4, 2) := by decide +kernel
theorem dL_law_784 : decode cL_law 784 = .ok (.iconst 1, 1) := by decide +kernel
theorem dL_law_785 : decode cL_law 785 = .ok (.iadd, 1) := by decide +kernel
theorem dL_law_786 : decode cL_law 786 = .ok (.iaload, 1) := by decide +kernel
theorem dL_law_787 : decode cL_law 787 = .ok (.aload_n 0, 1) := by decide +kernel
theorem dL_law_788 : decode cL_law 788 = .ok (.iload 4, 2) := by decide +kernel
theorem dL_law_790 : decode cL_law 790 = .ok (.iconst 2, 1) := by decide +kernel
theorem dL_law_791 : decode cL_law 791 = .ok (.iadd, 1) := by decide +kernel
theorem dL_law_792 : decode cL_law 792 = .ok (.iaload, 1) := by decide +kernel
theorem dL_law_793 : decode cL_law 793 = .ok (.aload_n 3, 1) := by decide +kernel
theorem dL_law_794 : decode cL_law 794 = .ok (.invokestatic 132, 3) := by decide +kernel
theorem dL_law_797 : decode cL_law 797 = .ok (.istore 5, 2) := by decide +kernel
theorem dL_law_799 : decode cL_law 799 = .ok (.aload_n 2, 1) := by decide +kernel
theorem dL_law_800 : decode cL_law 800 = .ok (.aload_n 0, 1) := by decide +kernel
theorem dL_law_801 : decode cL_law 801 = .ok (.iload 4, 2) := by decide +kernel
theorem dL_law_803 : decode cL_law 803 = .ok (.iconst 1, 1) := by decide +kernel
theorem dL_law_804 : decode cL_law 804 = .ok (.iadd, 1) := by decide +kernel
theorem dL_law_805 : decode cL_law 805 = .ok (.iaload, 1) := by decide +kernel
theorem dL_law_806 : decode cL_law 806 = .ok (.aload_n 0, 1) := by decide +kernel
theorem dL_law_807 : decode cL_law 807 = .ok (.iload 4, 2) := by decide +kernel
theorem dL_law_809 : decode cL_law 809 = .ok (.iconst 2, 1) := by decide +kernel
theorem dL_law_810 : decode cL_law 810 = .ok (.iadd, 1) := by decide +kernel
theorem dL_law_811 : decode cL_law 811 = .ok (.iaload, 1) := by decide +kernel
theorem dL_law_812 : decode cL_law 812 = .ok (.invokevirtual 134, 3) := by decide +kernel
theorem dL_law_815 : decode cL_law 815 = .ok (.istore 6, 2) := by decide +kernel
theorem dL_law_817 : decode cL_law 817 = .ok (.aload_n 2, 1) := by decide +kernel
theorem dL_law_818 : decode cL_law 818 = .ok (.invokevirtual 83, 3) := by decide +kernel
theorem dL_law_821 : decode cL_law 821 = .ok (.iload 5, 2) := by decide +kernel
theorem dL_law_823 : decode cL_law 823 = .ok (.if_icmp .eq 5, 3) := by decide +kernel
theorem dL_law_826 : decode cL_law 826 = .ok (.iconst 0, 1) := by decide +kernel
theorem dL_law_827 : decode cL_law 827 = .ok (.ireturn, 1) := by decide +kernel
theorem dL_law_828 : decode cL_law 828 = .ok (.iload 5, 2) := by decide +kernel
theorem dL_law_830 : decode cL_law 830 = .ok (.ifCond .ne 15, 3) := by decide +kernel
theorem dL_law_833 : decode cL_law 833 = .ok (.aload_n 3, 1) := by decide +kernel
theorem dL_law_834 : decode cL_law 834 = .ok (.iconst 0, 1) := by decide +kernel
theorem dL_law_835 : decode cL_law 835 = .ok (.laload, 1) := by decide +kernel
theorem dL_law_836 : decode cL_law 836 = .ok (.iload 6, 2) := by decide +kernel
theorem dL_law_838 : decode cL_law 838 = .ok (.i2l, 1) := by decide +kernel
theorem dL_law_839 : decode cL_law 839 = .ok (.lcmp, 1) := by decide +kernel
theorem dL_law_840 : decode cL_law 840 = .ok (.ifCond .eq 5, 3) := by decide +kernel
theorem dL_law_843 : decode cL_law 843 = .ok (.iconst 0, 1) := by decide +kernel
theorem dL_law_844 : decode cL_law 844 = .ok (.ireturn, 1) := by decide +kernel
theorem dL_law_845 : decode cL_law 845 = .ok (.goto 518, 3) := by decide +kernel
theorem dL_law_848 : decode cL_law 848 = .ok (.aload_n 1, 1) := by decide +kernel
theorem dL_law_849 : decode cL_law 849 = .ok (.aload_n 0, 1) := by decide +kernel
theorem dL_law_850 : decode cL_law 850 = .ok (.iload 4, 2) := by decide +kernel
theorem dL_law_852 : decode cL_law 852 = .ok (.iconst 1, 1) := by decide +kernel
theorem dL_law_853 : decode cL_law 853 = .ok (.iadd, 1) := by decide +kernel
theorem dL_law_854 : decode cL_law 854 = .ok (.iaload, 1) := by decide +kernel
theorem dL_law_855 : decode cL_law 855 = .ok (.aload_n 0, 1) := by decide +kernel
theorem dL_law_856 : decode cL_law 856 = .ok (.iload 4, 2) := by decide +kernel
theorem dL_law_858 : decode cL_law 858 = .ok (.iconst 2, 1) := by decide +kernel
theorem dL_law_859 : decode cL_law 859 = .ok (.iadd, 1) := by decide +kernel
theorem dL_law_860 : decode cL_law 860 = .ok (.iaload, 1) := by decide +kernel
theorem dL_law_861 : decode cL_law 861 = .ok (.aload_n 3, 1) := by decide +kernel
theorem dL_law_862 : decode cL_law 862 = .ok (.invokestatic 135, 3) := by decide +kernel
theorem dL_law_865 : decode cL_law 865 = .ok (.istore 5, 2) := by decide +kernel
theorem dL_law_867 : decode cL_law 867 = .ok (.aload_n 2, 1) := by decide +kernel
theorem dL_law_868 : decode cL_law 868 = .ok (.aload_n 0, 1) := by decide +kernel
theorem dL_law_869 : decode cL_law 869 = .ok (.iload 4, 2) := by decide +kernel
theorem dL_law_871 : decode cL_law 871 = .ok (.iconst 1, 1) := by decide +kernel
theorem dL_law_872 : decode cL_law 872 = .ok (.iadd, 1) := by decide +kernel
theorem dL_law_873 : decode cL_law 873 = .ok (.iaload, 1) := by decide +kernel
theorem dL_law_874 : decode cL_law 874 = .ok (.aload_n 0, 1) := by decide +kernel
theorem dL_law_875 : decode cL_law 875 = .ok (.iload 4, 2) := by decide +kernel
theorem dL_law_877 : decode cL_law 877 = .ok (.iconst 2, 1) := by decide +kernel
theorem dL_law_878 : decode cL_law 878 = .ok (.iadd, 1) := by decide +kernel
theorem dL_law_879 : decode cL_law 879 = .ok (.iaload, 1) := by decide +kernel
theorem dL_law_880 : decode cL_law 880 = .ok (.invokevirtual 137, 3) := by decide +kernel
theorem dL_law_883 : decode cL_law 883 = .ok (.istore 6, 2) := by decide +kernel
theorem dL_law_885 : decode cL_law 885 = .ok (.aload_n 2, 1) := by decide +kernel
theorem dL_law_886 : decode cL_law 886 = .ok (.invokevirtual 83, 3) := by decide +kernel
theorem dL_law_889 : decode cL_law 889 = .ok (.iload 5, 2) := by decide +kernel
theorem dL_law_891 : decode cL_law 891 = .ok (.if_icmp .eq 5, 3) := by decide +kernel
theorem dL_law_894 : decode cL_law 894 = .ok (.iconst 0, 1) := by decide +kernel
theorem dL_law_895 : decode cL_law 895 = .ok (.ireturn, 1) := by decide +kernel
theorem dL_law_896 : decode cL_law 896 = .ok (.iload 5, 2) := by decide +kernel
theorem dL_law_898 : decode cL_law 898 = .ok (.ifCond .ne 15, 3) := by decide +kernel
theorem dL_law_901 : decode cL_law 901 = .ok (.aload_n 3, 1) := by decide +kernel
theorem dL_law_902 : decode cL_law 902 = .ok (.iconst 0, 1) := by decide +kernel
theorem dL_law_903 : decode cL_law 903 = .ok (.laload, 1) := by decide +kernel
theorem dL_law_904 : decode cL_law 904 = .ok (.iload 6, 2) := by decide +kernel
theorem dL_law_906 : decode cL_law 906 = .ok (.i2l, 1) := by decide +kernel
theorem dL_law_907 : decode cL_law 907 = .ok (.lcmp, 1) := by decide +kernel
theorem dL_law_908 : decode cL_law 908 = .ok (.ifCond .eq 5, 3) := by decide +kernel
theorem dL_law_911 : decode cL_law 911 = .ok (.iconst 0, 1) := by decide +kernel
theorem dL_law_912 : decode cL_law 912 = .ok (.ireturn, 1) := by decide +kernel
theorem dL_law_913 : decode cL_law 913 = .ok (.goto 450, 3) := by decide +kernel
theorem dL_law_916 : decode cL_law 916 = .ok (.aload_n 1, 1) := by decide +kernel
theorem dL_law_917 : decode cL_law 917 = .ok (.aload_n 0, 1) := by decide +kernel
theorem dL_law_918 : decode cL_law 918 = .ok (.iload 4, 2) := by decide +kernel
theorem dL_law_920 : decode cL_law 920 = .ok (.iconst 1, 1) := by decide +kernel
theorem dL_law_921 : decode cL_law 921 = .ok (.iadd, 1) := by decide +kernel
theorem dL_law_922 : decode cL_law 922 = .ok (.iaload, 1) := by decide +kernel
theorem dL_law_923 : decode cL_law 923 = .ok (.aload_n 3, 1) := by decide +kernel
theorem dL_law_924 : decode cL_law 924 = .ok (.invokestatic 138, 3) := by decide +kernel
theorem dL_law_927 : decode cL_law 927 = .ok (.istore 5, 2) := by decide +kernel
theorem dL_law_929 : decode cL_law 929 = .ok (.aload_n 2, 1) := by decide +kernel
theorem dL_law_930 : decode cL_law 930 = .ok (.aload_n 0, 1) := by decide +kernel
theorem dL_law_931 : decode cL_law 931 = .ok (.iload 4, 2) := by decide +kernel
theorem dL_law_933 : decode cL_law 933 = .ok (.iconst 1, 1) := by decide +kernel
theorem dL_law_934 : decode cL_law 934 = .ok (.iadd, 1) := by decide +kernel
theorem dL_law_935 : decode cL_law 935 = .ok (.iaload, 1) := by decide +kernel
theorem dL_law_936 : decode cL_law 936 = .ok (.invokevirtual 140, 3) := by decide +kernel
theorem dL_law_939 : decode cL_law 939 = .ok (.istore 6, 2) := by decide +kernel
theorem dL_law_941 : decode cL_law 941 = .ok (.aload_n 2, 1) := by decide +kernel
theorem dL_law_942 : decode cL_law 942 = .ok (.invokevirtual 83, 3) := by decide +kernel
theorem dL_law_945 : decode cL_law 945 = .ok (.iload 5, 2) := by decide +kernel
theorem dL_law_947 : decode cL_law 947 = .ok (.if_icmp .eq 5, 3) := by decide +kernel
theorem dL_law_950 : decode cL_law 950 = .ok (.iconst 0, 1) := by decide +kernel
theorem dL_law_951 : decode cL_law 951 = .ok (.ireturn, 1) := by decide +kernel
theorem dL_law_952 : decode cL_law 952 = .ok (.iload 5, 2) := by decide +kernel
theorem dL_law_954 : decode cL_law 954 = .ok (.ifCond .ne 15, 3) := by decide +kernel
theorem dL_law_957 : decode cL_law 957 = .ok (.aload_n 3, 1) := by decide +kernel
theorem dL_law_958 : decode cL_law 958 = .ok (.iconst 0, 1) := by decide +kernel
theorem dL_law_959 : decode cL_law 959 = .ok (.laload, 1) := by decide +kernel
theorem dL_law_960 : decode cL_law 960 = .ok (.iload 6, 2) := by decide +kernel
theorem dL_law_962 : decode cL_law 962 = .ok (.i2l, 1) := by decide +kernel
theorem dL_law_963 : decode cL_law 963 = .ok (.lcmp, 1) := by decide +kernel
theorem dL_law_964 : decode cL_law 964 = .ok (.ifCond .eq 5, 3) := by decide +kernel
theorem dL_law_967 : decode cL_law 967 = .ok (.iconst 0, 1) := by decide +kernel
theorem dL_law_968 : decode cL_law 968 = .ok (.ireturn, 1) := by decide +kernel
theorem dL_law_969 : decode cL_law 969 = .ok (.goto 394, 3) := by decide +kernel
theorem dL_law_972 : decode cL_law 972 = .ok (.aload_n 1, 1) := by decide +kernel
theorem dL_law_973 : decode cL_law 973 = .ok (.aload_n 0, 1) := by decide +kernel
theorem dL_law_974 : decode cL_law 974 = .ok (.iload 4, 2) := by decide +kernel
theorem dL_law_976 : decode cL_law 976 = .ok (.iconst 1, 1) := by decide +kernel
theorem dL_law_977 : decode cL_law 977 = .ok (.iadd, 1) := by decide +kernel
theorem dL_law_978 : decode cL_law 978 = .ok (.iaload, 1) := by decide +kernel
theorem dL_law_979 : decode cL_law 979 = .ok (.aload_n 3, 1) := by decide +kernel
theorem dL_law_980 : decode cL_law 980 = .ok (.invokestatic 141, 3) := by decide +kernel
theorem dL_law_983 : decode cL_law 983 = .ok (.istore 5, 2) := by decide +kernel
theorem dL_law_985 : decode cL_law 985 = .ok (.aload_n 2, 1) := by decide +kernel
theorem dL_law_986 : decode cL_law 986 = .ok (.aload_n 0, 1) := by decide +kernel
theorem dL_law_987 : decode cL_law 987 = .ok (.iload 4, 2) := by decide +kernel
theorem dL_law_989 : decode cL_law 989 = .ok (.iconst 1, 1) := by decide +kernel
theorem dL_law_990 : decode cL_law 990 = .ok (.iadd, 1) := by decide +kernel
theorem dL_law_991 : decode cL_law 991 = .ok (.iaload, 1) := by decide +kernel
theorem dL_law_992 : decode cL_law 992 = .ok (.invokevirtual 143, 3) := by decide +kernel
theorem dL_law_995 : decode cL_law 995 = .ok (.istore 6, 2) := by decide +kernel
theorem dL_law_997 : decode cL_law 997 = .ok (.aload_n 2, 1) := by decide +kernel
theorem dL_law_998 : decode cL_law 998 = .ok (.invokevirtual 83, 3) := by decide +kernel
theorem dL_law_1001 : decode cL_law 1001 = .ok (.iload 5, 2) := by decide +kernel
theorem dL_law_1003 : decode cL_law 1003 = .ok (.if_icmp .eq 5, 3) := by decide +kernel
theorem dL_law_1006 : decode cL_law 1006 = .ok (.iconst 0, 1) := by decide +kernel
theorem dL_law_1007 : decode cL_law 1007 = .ok (.ireturn, 1) := by decide +kernel
theorem dL_law_1008 : decode cL_law 1008 = .ok (.iload 5, 2) := by decide +kernel
theorem dL_law_1010 : decode cL_law 1010 = .ok (.ifCond .ne 15, 3) := by decide +kernel
theorem dL_law_1013 : decode cL_law 1013 = .ok (.aload_n 3, 1) := by decide +kernel
theorem dL_law_1014 : decode cL_law 1014 = .ok (.iconst 0, 1) := by decide +kernel
theorem dL_law_1015 : decode cL_law 1015 = .ok (.laload, 1) := by decide +kernel
theorem dL_law_1016 : decode cL_law 1016 = .ok (.iload 6, 2) := by decide +kernel
theorem dL_law_1018 : decode cL_law 1018 = .ok (.i2l, 1) := by decide +kernel
theorem dL_law_1019 : decode cL_law 1019 = .ok (.lcmp, 1) := by decide +kernel
theorem dL_law_1020 : decode cL_law 1020 = .ok (.ifCond .eq 5, 3) := by decide +kernel
theorem dL_law_1023 : decode cL_law 1023 = .ok (.iconst 0, 1) := by decide +kernel
theorem dL_law_1024 : decode cL_law 1024 = .ok (.ireturn, 1) := by decide +kernel
theorem dL_law_1025 : decode cL_law 1025 = .ok (.goto 338, 3) := by decide +kernel
theorem dL_law_1028 : decode cL_law 1028 = .ok (.aload_n 1, 1) := by decide +kernel
theorem dL_law_1029 : decode cL_law 1029 = .ok (.aload_n 0, 1) := by decide +kernel
theorem dL_law_1030 : decode cL_law 1030 = .ok (.iload 4, 2) := by decide +kernel
theorem dL_law_1032 : decode cL_law 1032 = .ok (.iconst 1, 1) := by decide +kernel
theorem dL_law_1033 : decode cL_law 1033 = .ok (.iadd, 1) := by decide +kernel
theorem dL_law_1034 : decode cL_law 1034 = .ok (.iaload, 1) := by decide +kernel
theorem dL_law_1035 : decode cL_law 1035 = .ok (.aload_n 3, 1) := by decide +kernel
theorem dL_law_1036 : decode cL_law 1036 = .ok (.invokestatic 144, 3) := by decide +kernel
theorem dL_law_1039 : decode cL_law 1039 = .ok (.istore 5, 2) := by decide +kernel
theorem dL_law_1041 : decode cL_law 1041 = .ok (.aload_n 2, 1) := by decide +kernel
theorem dL_law_1042 : decode cL_law 1042 = .ok (.aload_n 0, 1) := by decide +kernel
theorem dL_law_1043 : decode cL_law 1043 = .ok (.iload 4, 2) := by decide +kernel
theorem dL_law_1045 : decode cL_law 1045 = .ok (.iconst 1, 1) := by decide +kernel
theorem dL_law_1046 : decode cL_law 1046 = .ok (.iadd, 1) := by decide +kernel
theorem dL_law_1047 : decode cL_law 1047 = .ok (.iaload, 1) := by decide +kernel
theorem dL_law_1048 : decode cL_law 1048 = .ok (.invokevirtual 146, 3) := by decide +kernel
theorem dL_law_1051 : decode cL_law 1051 = .ok (.istore 6, 2) := by decide +kernel
theorem dL_law_1053 : decode cL_law 1053 = .ok (.aload_n 2, 1) := by decide +kernel
theorem dL_law_1054 : decode cL_law 1054 = .ok (.invokevirtual 83, 3) := by decide +kernel
theorem dL_law_1057 : decode cL_law 1057 = .ok (.iload 5, 2) := by decide +kernel
theorem dL_law_1059 : decode cL_law 1059 = .ok (.if_icmp .eq 5, 3) := by decide +kernel
theorem dL_law_1062 : decode cL_law 1062 = .ok (.iconst 0, 1) := by decide +kernel
theorem dL_law_1063 : decode cL_law 1063 = .ok (.ireturn, 1) := by decide +kernel
theorem dL_law_1064 : decode cL_law 1064 = .ok (.iload 5, 2) := by decide +kernel
theorem dL_law_1066 : decode cL_law 1066 = .ok (.ifCond .ne 15, 3) := by decide +kernel
theorem dL_law_1069 : decode cL_law 1069 = .ok (.aload_n 3, 1) := by decide +kernel
theorem dL_law_1070 : decode cL_law 1070 = .ok (.iconst 0, 1) := by decide +kernel
theorem dL_law_1071 : decode cL_law 1071 = .ok (.laload, 1) := by decide +kernel
theorem dL_law_1072 : decode cL_law 1072 = .ok (.iload 6, 2) := by decide +kernel
theorem dL_law_1074 : decode cL_law 1074 = .ok (.i2l, 1) := by decide +kernel
theorem dL_law_1075 : decode cL_law 1075 = .ok (.lcmp, 1) := by decide +kernel
theorem dL_law_1076 : decode cL_law 1076 = .ok (.ifCond .eq 5, 3) := by decide +kernel
theorem dL_law_1079 : decode cL_law 1079 = .ok (.iconst 0, 1) := by decide +kernel
theorem dL_law_1080 : decode cL_law 1080 = .ok (.ireturn, 1) := by decide +kernel
theorem dL_law_1081 : decode cL_law 1081 = .ok (.goto 282, 3) := by decide +kernel
theorem dL_law_1084 : decode cL_law 1084 = .ok (.aload_n 1, 1) := by decide +kernel
theorem dL_law_1085 : decode cL_law 1085 = .ok (.invokevirtual 147, 3) := by decide +kernel
theorem dL_law_1088 : decode cL_law 1088 = .ok (.aload_n 2, 1) := by decide +kernel
theorem dL_law_1089 : decode cL_law 1089 = .ok (.invokevirtual 150, 3) := by decide +kernel
theorem dL_law_1092 : decode cL_law 1092 = .ok (.if_icmp .eq 271, 3) := by decide +kernel
theorem dL_law_1095 : decode cL_law 1095 = .ok (.iconst 0, 1) := by decide +kernel
theorem dL_law_1096 : decode cL_law 1096 = .ok (.ireturn, 1) := by decide +kernel
theorem dL_law_1097 : decode cL_law 1097 = .ok (.aload_n 1, 1) := by decide +kernel
theorem dL_law_1098 : decode cL_law 1098 = .ok (.aload_n 0, 1) := by decide +kernel
theorem dL_law_1099 : decode cL_law 1099 = .ok (.iload 4, 2) := by decide +kernel
theorem dL_law_1101 : decode cL_law 1101 = .ok (.iconst 1, 1) := by decide +kernel
theorem dL_law_1102 : decode cL_law 1102 = .ok (.iadd, 1) := by decide +kernel
theorem dL_law_1103 : decode cL_law 1103 = .ok (.iaload, 1) := by decide +kernel
theorem dL_law_1104 : decode cL_law 1104 = .ok (.aload_n 3, 1) := by decide +kernel
theorem dL_law_1105 : decode cL_law 1105 = .ok (.invokestatic 151, 3) := by decide +kernel
theorem dL_law_1108 : decode cL_law 1108 = .ok (.istore 5, 2) := by decide +kernel
theorem dL_law_1110 : decode cL_law 1110 = .ok (.aload_n 2, 1) := by decide +kernel
theorem dL_law_1111 : decode cL_law 1111 = .ok (.aload_n 0, 1) := by decide +kernel
theorem dL_law_1112 : decode cL_law 1112 = .ok (.iload 4, 2) := by decide +kernel
theorem dL_law_1114 : decode cL_law 1114 = .ok (.iconst 1, 1) := by decide +kernel
theorem dL_law_1115 : decode cL_law 1115 = .ok (.iadd, 1) := by decide +kernel
theorem dL_law_1116 : decode cL_law 1116 = .ok (.iaload, 1) := by decide +kernel
theorem dL_law_1117 : decode cL_law 1117 = .ok (.invokevirtual 153, 3) := by decide +kernel
theorem dL_law_1120 : decode cL_law 1120 = .ok (.istore 6, 2) := by decide +kernel
theorem dL_law_1122 : decode cL_law 1122 = .ok (.aload_n 2, 1) := by decide +kernel
theorem dL_law_1123 : decode cL_law 1123 = .ok (.invokevirtual 83, 3) := by decide +kernel
theorem dL_law_1126 : decode cL_law 1126 = .ok (.iload 5, 2) := by decide +kernel
theorem dL_law_1128 : decode cL_law 1128 = .ok (.if_icmp .eq 5, 3) := by decide +kernel
theorem dL_law_1131 : decode cL_law 1131 = .ok (.iconst 0, 1) := by decide +kernel
theorem dL_law_1132 : decode cL_law 1132 = .ok (.ireturn, 1) := by decide +kernel
theorem dL_law_1133 : decode cL_law 1133 = .ok (.iload 5, 2) := by decide +kernel
theorem dL_law_1135 : decode cL_law 1135 = .ok (.ifCond .ne 15, 3) := by decide +kernel
theorem dL_law_1138 : decode cL_law 1138 = .ok (.aload_n 3, 1) := by decide +kernel
theorem dL_law_1139 : decode cL_law 1139 = .ok (.iconst 0, 1) := by decide +kernel
theorem dL_law_1140 : decode cL_law 1140 = .ok (.laload, 1) := by decide +kernel
theorem dL_law_1141 : decode cL_law 1141 = .ok (.iload 6, 2) := by decide +kernel
theorem dL_law_1143 : decode cL_law 1143 = .ok (.i2l, 1) := by decide +kernel
theorem dL_law_1144 : decode cL_law 1144 = .ok (.lcmp, 1) := by decide +kernel
theorem dL_law_1145 : decode cL_law 1145 = .ok (.ifCond .eq 5, 3) := by decide +kernel
theorem dL_law_1148 : decode cL_law 1148 = .ok (.iconst 0, 1) := by decide +kernel
theorem dL_law_1149 : decode cL_law 1149 = .ok (.ireturn, 1) := by decide +kernel
theorem dL_law_1150 : decode cL_law 1150 = .ok (.goto 213, 3) := by decide +kernel
theorem dL_law_1153 : decode cL_law 1153 = .ok (.aload_n 1, 1) := by decide +kernel
theorem dL_law_1154 : decode cL_law 1154 = .ok (.aload_n 0, 1) := by decide +kernel
theorem dL_law_1155 : decode cL_law 1155 = .ok (.iload 4, 2) := by decide +kernel
theorem dL_law_1157 : decode cL_law 1157 = .ok (.iconst 1, 1) := by decide +kernel
theorem dL_law_1158 : decode cL_law 1158 = .ok (.iadd, 1) := by decide +kernel
theorem dL_law_1159 : decode cL_law 1159 = .ok (.iaload, 1) := by decide +kernel
theorem dL_law_1160 : decode cL_law 1160 = .ok (.aload_n 3, 1) := by decide +kernel
theorem dL_law_1161 : decode cL_law 1161 = .ok (.invokestatic 154, 3) := by decide +kernel
theorem dL_law_1164 : decode cL_law 1164 = .ok (.istore 5, 2) := by decide +kernel
theorem dL_law_1166 : decode cL_law 1166 = .ok (.aload_n 2, 1) := by decide +kernel
theorem dL_law_1167 : decode cL_law 1167 = .ok (.aload_n 0, 1) := by decide +kernel
theorem dL_law_1168 : decode cL_law 1168 = .ok (.iload 4, 2) := by decide +kernel
theorem dL_law_1170 : decode cL_law 1170 = .ok (.iconst 1, 1) := by decide +kernel
theorem dL_law_1171 : decode cL_law 1171 = .ok (.iadd, 1) := by decide +kernel
theorem dL_law_1172 : decode cL_law 1172 = .ok (.iaload, 1) := by decide +kernel
theorem dL_law_1173 : decode cL_law 1173 = .ok (.invokevirtual 156, 3) := by decide +kernel
theorem dL_law_1176 : decode cL_law 1176 = .ok (.istore 6, 2) := by decide +kernel
theorem dL_law_1178 : decode cL_law 1178 = .ok (.aload_n 2, 1) := by decide +kernel
theorem dL_law_1179 : decode cL_law 1179 = .ok (.invokevirtual 83, 3) := by decide +kernel
theorem dL_law_1182 : decode cL_law 1182 = .ok (.iload 5, 2) := by decide +kernel
theorem dL_law_1184 : decode cL_law 1184 = .ok (.if_icmp .eq 5, 3) := by decide +kernel
theorem dL_law_1187 : decode cL_law 1187 = .ok (.iconst 0, 1) := by decide +kernel
theorem dL_law_1188 : decode cL_law 1188 = .ok (.ireturn, 1) := by decide +kernel
theorem dL_law_1189 : decode cL_law 1189 = .ok (.iload 5, 2) := by decide +kernel
theorem dL_law_1191 : decode cL_law 1191 = .ok (.ifCond .ne 15, 3) := by decide +kernel
theorem dL_law_1194 : decode cL_law 1194 = .ok (.aload_n 3, 1) := by decide +kernel
theorem dL_law_1195 : decode cL_law 1195 = .ok (.iconst 0, 1) := by decide +kernel
theorem dL_law_1196 : decode cL_law 1196 = .ok (.laload, 1) := by decide +kernel
theorem dL_law_1197 : decode cL_law 1197 = .ok (.iload 6, 2) := by decide +kernel
theorem dL_law_1199 : decode cL_law 1199 = .ok (.i2l, 1) := by decide +kernel
theorem dL_law_1200 : decode cL_law 1200 = .ok (.lcmp, 1) := by decide +kernel
theorem dL_law_1201 : decode cL_law 1201 = .ok (.ifCond .eq 5, 3) := by decide +kernel
theorem dL_law_1204 : decode cL_law 1204 = .ok (.iconst 0, 1) := by decide +kernel
theorem dL_law_1205 : decode cL_law 1205 = .ok (.ireturn, 1) := by decide +kernel
theorem dL_law_1206 : decode cL_law 1206 = .ok (.goto 157, 3) := by decide +kernel
theorem dL_law_1209 : decode cL_law 1209 = .ok (.aload_n 1, 1) := by decide +kernel
theorem dL_law_1210 : decode cL_law 1210 = .ok (.aload_n 0, 1) := by decide +kernel
theorem dL_law_1211 : decode cL_law 1211 = .ok (.iload 4, 2) := by decide +kernel
theorem dL_law_1213 : decode cL_law 1213 = .ok (.iconst 1, 1) := by decide +kernel
theorem dL_law_1214 : decode cL_law 1214 = .ok (.iadd, 1) := by decide +kernel
theorem dL_law_1215 : decode cL_law 1215 = .ok (.iaload, 1) := by decide +kernel
theorem dL_law_1216 : decode cL_law 1216 = .ok (.aload_n 3, 1) := by decide +kernel
theorem dL_law_1217 : decode cL_law 1217 = .ok (.invokestatic 157, 3) := by decide +kernel
theorem dL_law_1220 : decode cL_law 1220 = .ok (.istore 5, 2) := by decide +kernel
theorem dL_law_1222 : decode cL_law 1222 = .ok (.aload_n 2, 1) := by decide +kernel
theorem dL_law_1223 : decode cL_law 1223 = .ok (.aload_n 0, 1) := by decide +kernel
theorem dL_law_1224 : decode cL_law 1224 = .ok (.iload 4, 2) := by decide +kernel
theorem dL_law_1226 : decode cL_law 1226 = .ok (.iconst 1, 1) := by decide +kernel
theorem dL_law_1227 : decode cL_law 1227 = .ok (.iadd, 1) := by decide +kernel
theorem dL_law_1228 : decode cL_law 1228 = .ok (.iaload, 1) := by decide +kernel
theorem dL_law_1229 : decode cL_law 1229 = .ok (.invokevirtual 159, 3) := by decide +kernel
theorem dL_law_1232 : decode cL_law 1232 = .ok (.istore 6, 2) := by decide +kernel
theorem dL_law_1234 : decode cL_law 1234 = .ok (.aload_n 2, 1) := by decide +kernel
theorem dL_law_1235 : decode cL_law 1235 = .ok (.invokevirtual 83, 3) := by decide +kernel
theorem dL_law_1238 : decode cL_law 1238 = .ok (.iload 5, 2) := by decide +kernel
theorem dL_law_1240 : decode cL_law 1240 = .ok (.if_icmp .eq 5, 3) := by decide +kernel
theorem dL_law_1243 : decode cL_law 1243 = .ok (.iconst 0, 1) := by decide +kernel
theorem dL_law_1244 : decode cL_law 1244 = .ok (.ireturn, 1) := by decide +kernel
theorem dL_law_1245 : decode cL_law 1245 = .ok (.iload 5, 2) := by decide +kernel
theorem dL_law_1247 : decode cL_law 1247 = .ok (.ifCond .ne 15, 3) := by decide +kernel
theorem dL_law_1250 : decode cL_law 1250 = .ok (.aload_n 3, 1) := by decide +kernel
theorem dL_law_1251 : decode cL_law 1251 = .ok (.iconst 0, 1) := by decide +kernel
theorem dL_law_1252 : decode cL_law 1252 = .ok (.laload, 1) := by decide +kernel
theorem dL_law_1253 : decode cL_law 1253 = .ok (.iload 6, 2) := by decide +kernel
theorem dL_law_1255 : decode cL_law 1255 = .ok (.i2l, 1) := by decide +kernel
theorem dL_law_1256 : decode cL_law 1256 = .ok (.lcmp, 1) := by decide +kernel
theorem dL_law_1257 : decode cL_law 1257 = .ok (.ifCond .eq 5, 3) := by decide +kernel
theorem dL_law_1260 : decode cL_law 1260 = .ok (.iconst 0, 1) := by decide +kernel
theorem dL_law_1261 : decode cL_law 1261 = .ok (.ireturn, 1) := by decide +kernel
theorem dL_law_1262 : decode cL_law 1262 = .ok (.goto 101, 3) := by decide +kernel
theorem dL_law_1265 : decode cL_law 1265 = .ok (.aload_n 1, 1) := by decide +kernel
theorem dL_law_1266 : decode cL_law 1266 = .ok (.invokevirtual 160, 3) := by decide +kernel
theorem dL_law_1269 : decode cL_law 1269 = .ok (.dstore 5, 2) := by decide +kernel
theorem dL_law_1271 : decode cL_law 1271 = .ok (.aload_n 2, 1) := by decide +kernel
theorem dL_law_1272 : decode cL_law 1272 = .ok (.invokevirtual 164, 3) := by decide +kernel
theorem dL_law_1275 : decode cL_law 1275 = .ok (.dstore 7, 2) := by decide +kernel
theorem dL_law_1277 : decode cL_law 1277 = .ok (.dload 5, 2) := by decide +kernel
theorem dL_law_1279 : decode cL_law 1279 = .ok (.dload 7, 2) := by decide +kernel
theorem dL_law_1281 : decode cL_law 1281 = .ok (.dcmp .l, 1) := by decide +kernel
theorem dL_law_1282 : decode cL_law 1282 = .ok (.ifCond .eq 21, 3) := by decide +kernel
theorem dL_law_1285 : decode cL_law 1285 = .ok (.dload 5, 2) := by decide +kernel
theorem dL_law_1287 : decode cL_law 1287 = .ok (.dload 5, 2) := by decide +kernel
theorem dL_law_1289 : decode cL_law 1289 = .ok (.dcmp .l, 1) := by decide +kernel
theorem dL_law_1290 : decode cL_law 1290 = .ok (.ifCond .eq 11, 3) := by decide +kernel
theorem dL_law_1293 : decode cL_law 1293 = .ok (.dload 7, 2) := by decide +kernel
theorem dL_law_1295 : decode cL_law 1295 = .ok (.dload 7, 2) := by decide +kernel
theorem dL_law_1297 : decode cL_law 1297 = .ok (.dcmp .l, 1) := by decide +kernel
theorem dL_law_1298 : decode cL_law 1298 = .ok (.ifCond .ne 5, 3) := by decide +kernel
theorem dL_law_1301 : decode cL_law 1301 = .ok (.iconst 0, 1) := by decide +kernel
theorem dL_law_1302 : decode cL_law 1302 = .ok (.ireturn, 1) := by decide +kernel
theorem dL_law_1303 : decode cL_law 1303 = .ok (.goto 60, 3) := by decide +kernel
theorem dL_law_1306 : decode cL_law 1306 = .ok (.aload_n 1, 1) := by decide +kernel
theorem dL_law_1307 : decode cL_law 1307 = .ok (.invokevirtual 165, 3) := by decide +kernel
theorem dL_law_1310 : decode cL_law 1310 = .ok (.f2d, 1) := by decide +kernel
theorem dL_law_1311 : decode cL_law 1311 = .ok (.dstore 5, 2) := by decide +kernel
theorem dL_law_1313 : decode cL_law 1313 = .ok (.aload_n 2, 1) := by decide +kernel
theorem dL_law_1314 : decode cL_law 1314 = .ok (.invokevirtual 169, 3) := by decide +kernel
theorem dL_law_1317 : decode cL_law 1317 = .ok (.f2d, 1) := by decide +kernel
theorem dL_law_1318 : decode cL_law 1318 = .ok (.dstore 7, 2) := by decide +kernel
theorem dL_law_1320 : decode cL_law 1320 = .ok (.dload 5, 2) := by decide +kernel
theorem dL_law_1322 : decode cL_law 1322 = .ok (.dload 7, 2) := by decide +kernel
theorem dL_law_1324 : decode cL_law 1324 = .ok (.dcmp .l, 1) := by decide +kernel
theorem dL_law_1325 : decode cL_law 1325 = .ok (.ifCond .eq 21, 3) := by decide +kernel
theorem dL_law_1328 : decode cL_law 1328 = .ok (.dload 5, 2) := by decide +kernel
theorem dL_law_1330 : decode cL_law 1330 = .ok (.dload 5, 2) := by decide +kernel
theorem dL_law_1332 : decode cL_law 1332 = .ok (.dcmp .l, 1) := by decide +kernel
theorem dL_law_1333 : decode cL_law 1333 = .ok (.ifCond .eq 11, 3) := by decide +kernel
theorem dL_law_1336 : decode cL_law 1336 = .ok (.dload 7, 2) := by decide +kernel
theorem dL_law_1338 : decode cL_law 1338 = .ok (.dload 7, 2) := by decide +kernel
theorem dL_law_1340 : decode cL_law 1340 = .ok (.dcmp .l, 1) := by decide +kernel
theorem dL_law_1341 : decode cL_law 1341 = .ok (.ifCond .ne 5, 3) := by decide +kernel
theorem dL_law_1344 : decode cL_law 1344 = .ok (.iconst 0, 1) := by decide +kernel
theorem dL_law_1345 : decode cL_law 1345 = .ok (.ireturn, 1) := by decide +kernel
theorem dL_law_1346 : decode cL_law 1346 = .ok (.goto 17, 3) := by decide +kernel
theorem dL_law_1349 : decode cL_law 1349 = .ok (.aload_n 1, 1) := by decide +kernel
theorem dL_law_1350 : decode cL_law 1350 = .ok (.invokevirtual 170, 3) := by decide +kernel
theorem dL_law_1353 : decode cL_law 1353 = .ok (.aload_n 2, 1) := by decide +kernel
theorem dL_law_1354 : decode cL_law 1354 = .ok (.invokevirtual 174, 3) := by decide +kernel
theorem dL_law_1357 : decode cL_law 1357 = .ok (.lcmp, 1) := by decide +kernel
theorem dL_law_1358 : decode cL_law 1358 = .ok (.ifCond .eq 5, 3) := by decide +kernel
theorem dL_law_1361 : decode cL_law 1361 = .ok (.iconst 0, 1) := by decide +kernel
theorem dL_law_1362 : decode cL_law 1362 = .ok (.ireturn, 1) := by decide +kernel
theorem dL_law_1363 : decode cL_law 1363 = .ok (.iinc 4 4, 3) := by decide +kernel
theorem dL_law_1366 : decode cL_law 1366 = .ok (.goto (-1343), 3) := by decide +kernel
theorem dL_law_1369 : decode cL_law 1369 = .ok (.iconst 1, 1) := by decide +kernel
theorem dL_law_1370 : decode cL_law 1370 = .ok (.ireturn, 1) := by decide +kernel
