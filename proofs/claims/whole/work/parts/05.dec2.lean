theorem d_SR_gather_58 : decode b_SR_gather 58 = .ok (.iinc 3 1, 3) := by decide +kernel
theorem d_SR_gather_61 : decode b_SR_gather 61 = .ok (.goto (-52), 3) := by decide +kernel
theorem d_SR_gather_64 : decode b_SR_gather 64 = .ok (.return_, 1) := by decide +kernel
theorem d_SS_noteFired_0 : decode b_SS_noteFired 0 = .ok (.aload_n 0, 1) := by decide +kernel
theorem d_SS_noteFired_1 : decode b_SS_noteFired 1 = .ok (.getfield 22, 3) := by decide +kernel
theorem d_SS_noteFired_4 : decode b_SS_noteFired 4 = .ok (.iload_n 1, 1) := by decide +kernel
theorem d_SS_noteFired_5 : decode b_SS_noteFired 5 = .ok (.dup2, 1) := by decide +kernel
theorem d_SS_noteFired_6 : decode b_SS_noteFired 6 = .ok (.iaload, 1) := by decide +kernel
theorem d_SS_noteFired_7 : decode b_SS_noteFired 7 = .ok (.iconst 1, 1) := by decide +kernel
theorem d_SS_noteFired_8 : decode b_SS_noteFired 8 = .ok (.iadd, 1) := by decide +kernel
theorem d_SS_noteFired_9 : decode b_SS_noteFired 9 = .ok (.iastore, 1) := by decide +kernel
theorem d_SS_noteFired_10 : decode b_SS_noteFired 10 = .ok (.aload_n 0, 1) := by decide +kernel
theorem d_SS_noteFired_11 : decode b_SS_noteFired 11 = .ok (.getfield 25, 3) := by decide +kernel
theorem d_SS_noteFired_14 : decode b_SS_noteFired 14 = .ok (.iload_n 1, 1) := by decide +kernel
theorem d_SS_noteFired_15 : decode b_SS_noteFired 15 = .ok (.iconst 0, 1) := by decide +kernel
theorem d_SS_noteFired_16 : decode b_SS_noteFired 16 = .ok (.iastore, 1) := by decide +kernel
theorem d_SS_noteFired_17 : decode b_SS_noteFired 17 = .ok (.iload_n 2, 1) := by decide +kernel
theorem d_SS_noteFired_18 : decode b_SS_noteFired 18 = .ok (.ifCond .eq 10, 3) := by decide +kernel
theorem d_SS_noteFired_21 : decode b_SS_noteFired 21 = .ok (.aload_n 0, 1) := by decide +kernel
theorem d_SS_noteFired_22 : decode b_SS_noteFired 22 = .ok (.getfield 28, 3) := by decide +kernel
theorem d_SS_noteFired_25 : decode b_SS_noteFired 25 = .ok (.iload_n 1, 1) := by decide +kernel
theorem d_SS_noteFired_26 : decode b_SS_noteFired 26 = .ok (.iconst 1, 1) := by decide +kernel
theorem d_SS_noteFired_27 : decode b_SS_noteFired 27 = .ok (.bastore, 1) := by decide +kernel
theorem d_SS_noteFired_28 : decode b_SS_noteFired 28 = .ok (.iload_n 1, 1) := by decide +kernel
theorem d_SS_noteFired_29 : decode b_SS_noteFired 29 = .ok (.iconst 5, 1) := by decide +kernel
theorem d_SS_noteFired_30 : decode b_SS_noteFired 30 = .ok (.imul, 1) := by decide +kernel
theorem d_SS_noteFired_31 : decode b_SS_noteFired 31 = .ok (.istore_n 3, 1) := by decide +kernel
theorem d_SS_noteFired_32 : decode b_SS_noteFired 32 = .ok (.iload_n 3, 1) := by decide +kernel
theorem d_SS_noteFired_33 : decode b_SS_noteFired 33 = .ok (.iload_n 1, 1) := by decide +kernel
theorem d_SS_noteFired_34 : decode b_SS_noteFired 34 = .ok (.iconst 5, 1) := by decide +kernel
theorem d_SS_noteFired_35 : decode b_SS_noteFired 35 = .ok (.imul, 1) := by decide +kernel
theorem d_SS_noteFired_36 : decode b_SS_noteFired 36 = .ok (.iconst 5, 1) := by decide +kernel
theorem d_SS_noteFired_37 : decode b_SS_noteFired 37 = .ok (.iadd, 1) := by decide +kernel
theorem d_SS_noteFired_38 : decode b_SS_noteFired 38 = .ok (.if_icmp .ge 16, 3) := by decide +kernel
theorem d_SS_noteFired_41 : decode b_SS_noteFired 41 = .ok (.aload_n 0, 1) := by decide +kernel
theorem d_SS_noteFired_42 : decode b_SS_noteFired 42 = .ok (.getfield 35, 3) := by decide +kernel
theorem d_SS_noteFired_45 : decode b_SS_noteFired 45 = .ok (.iload_n 3, 1) := by decide +kernel
theorem d_SS_noteFired_46 : decode b_SS_noteFired 46 = .ok (.lconst 0, 1) := by decide +kernel
theorem d_SS_noteFired_47 : decode b_SS_noteFired 47 = .ok (.lastore, 1) := by decide +kernel
theorem d_SS_noteFired_48 : decode b_SS_noteFired 48 = .ok (.iinc 3 1, 3) := by decide +kernel
theorem d_SS_noteFired_51 : decode b_SS_noteFired 51 = .ok (.goto (-19), 3) := by decide +kernel
theorem d_SS_noteFired_54 : decode b_SS_noteFired 54 = .ok (.return_, 1) := by decide +kernel
theorem d_SR_fire_0 : decode b_SR_fire 0 = .ok (.aload_n 0, 1) := by decide +kernel
theorem d_SR_fire_1 : decode b_SR_fire 1 = .ok (.iload_n 1, 1) := by decide +kernel
theorem d_SR_fire_2 : decode b_SR_fire 2 = .ok (.aload_n 0, 1) := by decide +kernel
theorem d_SR_fire_3 : decode b_SR_fire 3 = .ok (.getfield 68, 3) := by decide +kernel
theorem d_SR_fire_6 : decode b_SR_fire 6 = .ok (.ifCond .eq 13, 3) := by decide +kernel
theorem d_SR_fire_9 : decode b_SR_fire 9 = .ok (.aload_n 0, 1) := by decide +kernel
theorem d_SR_fire_10 : decode b_SR_fire 10 = .ok (.getfield 26, 3) := by decide +kernel
theorem d_SR_fire_13 : decode b_SR_fire 13 = .ok (.getfield 294, 3) := by decide +kernel
theorem d_SR_fire_16 : decode b_SR_fire 16 = .ok (.goto 10, 3) := by decide +kernel
theorem d_SR_fire_19 : decode b_SR_fire 19 = .ok (.aload_n 0, 1) := by decide +kernel
theorem d_SR_fire_20 : decode b_SR_fire 20 = .ok (.getfield 26, 3) := by decide +kernel
theorem d_SR_fire_23 : decode b_SR_fire 23 = .ok (.getfield 198, 3) := by decide +kernel
theorem d_SR_fire_26 : decode b_SR_fire 26 = .ok (.invokevirtual 201, 3) := by decide +kernel
theorem d_SR_fire_29 : decode b_SR_fire 29 = .ok (.aload_n 0, 1) := by decide +kernel
theorem d_SR_fire_30 : decode b_SR_fire 30 = .ok (.getfield 26, 3) := by decide +kernel
theorem d_SR_fire_33 : decode b_SR_fire 33 = .ok (.iload_n 1, 1) := by decide +kernel
theorem d_SR_fire_34 : decode b_SR_fire 34 = .ok (.iload_n 2, 1) := by decide +kernel
theorem d_SR_fire_35 : decode b_SR_fire 35 = .ok (.invokevirtual 297, 3) := by decide +kernel
theorem d_SR_fire_38 : decode b_SR_fire 38 = .ok (.aload_n 0, 1) := by decide +kernel
theorem d_SR_fire_39 : decode b_SR_fire 39 = .ok (.getfield 40, 3) := by decide +kernel
theorem d_SR_fire_42 : decode b_SR_fire 42 = .ok (.aload_n 0, 1) := by decide +kernel
theorem d_SR_fire_43 : decode b_SR_fire 43 = .ok (.getfield 26, 3) := by decide +kernel
theorem d_SR_fire_46 : decode b_SR_fire 46 = .ok (.getfield 300, 3) := by decide +kernel
theorem d_SR_fire_49 : decode b_SR_fire 49 = .ok (.iload_n 1, 1) := by decide +kernel
theorem d_SR_fire_50 : decode b_SR_fire 50 = .ok (.iaload, 1) := by decide +kernel
theorem d_SR_fire_51 : decode b_SR_fire 51 = .ok (.aload_n 0, 1) := by decide +kernel
theorem d_SR_fire_52 : decode b_SR_fire 52 = .ok (.getfield 26, 3) := by decide +kernel
theorem d_SR_fire_55 : decode b_SR_fire 55 = .ok (.getfield 191, 3) := by decide +kernel
theorem d_SR_fire_58 : decode b_SR_fire 58 = .ok (.iload_n 1, 1) := by decide +kernel
theorem d_SR_fire_59 : decode b_SR_fire 59 = .ok (.laload, 1) := by decide +kernel
theorem d_SR_fire_60 : decode b_SR_fire 60 = .ok (.aload_n 0, 1) := by decide +kernel
theorem d_SR_fire_61 : decode b_SR_fire 61 = .ok (.getfield 26, 3) := by decide +kernel
theorem d_SR_fire_64 : decode b_SR_fire 64 = .ok (.getfield 195, 3) := by decide +kernel
theorem d_SR_fire_67 : decode b_SR_fire 67 = .ok (.iload_n 1, 1) := by decide +kernel
theorem d_SR_fire_68 : decode b_SR_fire 68 = .ok (.laload, 1) := by decide +kernel
theorem d_SR_fire_69 : decode b_SR_fire 69 = .ok (.iload_n 2, 1) := by decide +kernel
theorem d_SR_fire_70 : decode b_SR_fire 70 = .ok (.aload_n 0, 1) := by decide +kernel
theorem d_SR_fire_71 : decode b_SR_fire 71 = .ok (.getfield 26, 3) := by decide +kernel
theorem d_SR_fire_74 : decode b_SR_fire 74 = .ok (.getfield 209, 3) := by decide +kernel
theorem d_SR_fire_77 : decode b_SR_fire 77 = .ok (.iload_n 1, 1) := by decide +kernel
theorem d_SR_fire_78 : decode b_SR_fire 78 = .ok (.iaload, 1) := by decide +kernel
theorem d_SR_fire_79 : decode b_SR_fire 79 = .ok (.aload_n 0, 1) := by decide +kernel
theorem d_SR_fire_80 : decode b_SR_fire 80 = .ok (.getfield 47, 3) := by decide +kernel
theorem d_SR_fire_83 : decode b_SR_fire 83 = .ok (.invokevirtual 303, 3) := by decide +kernel
theorem d_SR_fire_86 : decode b_SR_fire 86 = .ok (.return_, 1) := by decide +kernel
theorem d_SS_sweep_0 : decode b_SS_sweep 0 = .ok (.iconst 0, 1) := by decide +kernel
theorem d_SS_sweep_1 : decode b_SS_sweep 1 = .ok (.istore_n 1, 1) := by decide +kernel
theorem d_SS_sweep_2 : decode b_SS_sweep 2 = .ok (.iconst 0, 1) := by decide +kernel
theorem d_SS_sweep_3 : decode b_SS_sweep 3 = .ok (.istore_n 2, 1) := by decide +kernel
theorem d_SS_sweep_4 : decode b_SS_sweep 4 = .ok (.iload_n 2, 1) := by decide +kernel
theorem d_SS_sweep_5 : decode b_SS_sweep 5 = .ok (.aload_n 0, 1) := by decide +kernel
theorem d_SS_sweep_6 : decode b_SS_sweep 6 = .ok (.getfield 47, 3) := by decide +kernel
theorem d_SS_sweep_9 : decode b_SS_sweep 9 = .ok (.if_icmp .ge 48, 3) := by decide +kernel
theorem d_SS_sweep_12 : decode b_SS_sweep 12 = .ok (.aload_n 0, 1) := by decide +kernel
theorem d_SS_sweep_13 : decode b_SS_sweep 13 = .ok (.getfield 44, 3) := by decide +kernel
theorem d_SS_sweep_16 : decode b_SS_sweep 16 = .ok (.iload_n 2, 1) := by decide +kernel
theorem d_SS_sweep_17 : decode b_SS_sweep 17 = .ok (.iaload, 1) := by decide +kernel
theorem d_SS_sweep_18 : decode b_SS_sweep 18 = .ok (.istore_n 3, 1) := by decide +kernel
theorem d_SS_sweep_19 : decode b_SS_sweep 19 = .ok (.aload_n 0, 1) := by decide +kernel
theorem d_SS_sweep_20 : decode b_SS_sweep 20 = .ok (.getfield 9, 3) := by decide +kernel
theorem d_SS_sweep_23 : decode b_SS_sweep 23 = .ok (.iload_n 3, 1) := by decide +kernel
theorem d_SS_sweep_24 : decode b_SS_sweep 24 = .ok (.iaload, 1) := by decide +kernel
theorem d_SS_sweep_25 : decode b_SS_sweep 25 = .ok (.iconst (-1), 1) := by decide +kernel
theorem d_SS_sweep_26 : decode b_SS_sweep 26 = .ok (.if_icmp .eq 25, 3) := by decide +kernel
theorem d_SS_sweep_29 : decode b_SS_sweep 29 = .ok (.aload_n 0, 1) := by decide +kernel
theorem d_SS_sweep_30 : decode b_SS_sweep 30 = .ok (.getfield 44, 3) := by decide +kernel
theorem d_SS_sweep_33 : decode b_SS_sweep 33 = .ok (.iload_n 2, 1) := by decide +kernel
theorem d_SS_sweep_34 : decode b_SS_sweep 34 = .ok (.aload_n 0, 1) := by decide +kernel
theorem d_SS_sweep_35 : decode b_SS_sweep 35 = .ok (.getfield 44, 3) := by decide +kernel
theorem d_SS_sweep_38 : decode b_SS_sweep 38 = .ok (.iload_n 1, 1) := by decide +kernel
theorem d_SS_sweep_39 : decode b_SS_sweep 39 = .ok (.iaload, 1) := by decide +kernel
theorem d_SS_sweep_40 : decode b_SS_sweep 40 = .ok (.iastore, 1) := by decide +kernel
theorem d_SS_sweep_41 : decode b_SS_sweep 41 = .ok (.aload_n 0, 1) := by decide +kernel
theorem d_SS_sweep_42 : decode b_SS_sweep 42 = .ok (.getfield 44, 3) := by decide +kernel
theorem d_SS_sweep_45 : decode b_SS_sweep 45 = .ok (.iload_n 1, 1) := by decide +kernel
theorem d_SS_sweep_46 : decode b_SS_sweep 46 = .ok (.iload_n 3, 1) := by decide +kernel
theorem d_SS_sweep_47 : decode b_SS_sweep 47 = .ok (.iastore, 1) := by decide +kernel
theorem d_SS_sweep_48 : decode b_SS_sweep 48 = .ok (.iinc 1 1, 3) := by decide +kernel
theorem d_SS_sweep_51 : decode b_SS_sweep 51 = .ok (.iinc 2 1, 3) := by decide +kernel
theorem d_SS_sweep_54 : decode b_SS_sweep 54 = .ok (.goto (-50), 3) := by decide +kernel
theorem d_SS_sweep_57 : decode b_SS_sweep 57 = .ok (.aload_n 0, 1) := by decide +kernel
theorem d_SS_sweep_58 : decode b_SS_sweep 58 = .ok (.iload_n 1, 1) := by decide +kernel
theorem d_SS_sweep_59 : decode b_SS_sweep 59 = .ok (.putfield 47, 3) := by decide +kernel
theorem d_SS_sweep_62 : decode b_SS_sweep 62 = .ok (.return_, 1) := by decide +kernel
theorem d_SS_dropEndsUpTo_0 : decode b_SS_dropEndsUpTo 0 = .ok (.iconst 0, 1) := by decide +kernel
theorem d_SS_dropEndsUpTo_1 : decode b_SS_dropEndsUpTo 1 = .ok (.istore_n 3, 1) := by decide +kernel
theorem d_SS_dropEndsUpTo_2 : decode b_SS_dropEndsUpTo 2 = .ok (.iload_n 3, 1) := by decide +kernel
theorem d_SS_dropEndsUpTo_3 : decode b_SS_dropEndsUpTo 3 = .ok (.aload_n 0, 1) := by decide +kernel
theorem d_SS_dropEndsUpTo_4 : decode b_SS_dropEndsUpTo 4 = .ok (.getfield 47, 3) := by decide +kernel
theorem d_SS_dropEndsUpTo_7 : decode b_SS_dropEndsUpTo 7 = .ok (.if_icmp .ge 37, 3) := by decide +kernel
theorem d_SS_dropEndsUpTo_10 : decode b_SS_dropEndsUpTo 10 = .ok (.aload_n 0, 1) := by decide +kernel
theorem d_SS_dropEndsUpTo_11 : decode b_SS_dropEndsUpTo 11 = .ok (.getfield 44, 3) := by decide +kernel
theorem d_SS_dropEndsUpTo_14 : decode b_SS_dropEndsUpTo 14 = .ok (.iload_n 3, 1) := by decide +kernel
theorem d_SS_dropEndsUpTo_15 : decode b_SS_dropEndsUpTo 15 = .ok (.iaload, 1) := by decide +kernel
theorem d_SS_dropEndsUpTo_16 : decode b_SS_dropEndsUpTo 16 = .ok (.istore 4, 2) := by decide +kernel
theorem d_SS_dropEndsUpTo_18 : decode b_SS_dropEndsUpTo 18 = .ok (.aload_n 0, 1) := by decide +kernel
theorem d_SS_dropEndsUpTo_19 : decode b_SS_dropEndsUpTo 19 = .ok (.getfield 19, 3) := by decide +kernel
theorem d_SS_dropEndsUpTo_22 : decode b_SS_dropEndsUpTo 22 = .ok (.iload 4, 2) := by decide +kernel
theorem d_SS_dropEndsUpTo_24 : decode b_SS_dropEndsUpTo 24 = .ok (.laload, 1) := by decide +kernel
theorem d_SS_dropEndsUpTo_25 : decode b_SS_dropEndsUpTo 25 = .ok (.lload_n 1, 1) := by decide +kernel
theorem d_SS_dropEndsUpTo_26 : decode b_SS_dropEndsUpTo 26 = .ok (.lcmp, 1) := by decide +kernel
theorem d_SS_dropEndsUpTo_27 : decode b_SS_dropEndsUpTo 27 = .ok (.ifCond .gt 11, 3) := by decide +kernel
theorem d_SS_dropEndsUpTo_30 : decode b_SS_dropEndsUpTo 30 = .ok (.aload_n 0, 1) := by decide +kernel
theorem d_SS_dropEndsUpTo_31 : decode b_SS_dropEndsUpTo 31 = .ok (.getfield 9, 3) := by decide +kernel
theorem d_SS_dropEndsUpTo_34 : decode b_SS_dropEndsUpTo 34 = .ok (.iload 4, 2) := by decide +kernel
theorem d_SS_dropEndsUpTo_36 : decode b_SS_dropEndsUpTo 36 = .ok (.iconst (-1), 1) := by decide +kernel
theorem d_SS_dropEndsUpTo_37 : decode b_SS_dropEndsUpTo 37 = .ok (.iastore, 1) := by decide +kernel
theorem d_SS_dropEndsUpTo_38 : decode b_SS_dropEndsUpTo 38 = .ok (.iinc 3 1, 3) := by decide +kernel
theorem d_SS_dropEndsUpTo_41 : decode b_SS_dropEndsUpTo 41 = .ok (.goto (-39), 3) := by decide +kernel
theorem d_SS_dropEndsUpTo_44 : decode b_SS_dropEndsUpTo 44 = .ok (.aload_n 0, 1) := by decide +kernel
theorem d_SS_dropEndsUpTo_45 : decode b_SS_dropEndsUpTo 45 = .ok (.invokevirtual 76, 3) := by decide +kernel
theorem d_SS_dropEndsUpTo_48 : decode b_SS_dropEndsUpTo 48 = .ok (.return_, 1) := by decide +kernel
theorem d_SS_uniteRows_0 : decode b_SS_uniteRows 0 = .ok (.iconst 0, 1) := by decide +kernel
theorem d_SS_uniteRows_1 : decode b_SS_uniteRows 1 = .ok (.istore_n 1, 1) := by decide +kernel
theorem d_SS_uniteRows_2 : decode b_SS_uniteRows 2 = .ok (.iload_n 1, 1) := by decide +kernel
theorem d_SS_uniteRows_3 : decode b_SS_uniteRows 3 = .ok (.iconst 5, 1) := by decide +kernel
theorem d_SS_uniteRows_4 : decode b_SS_uniteRows 4 = .ok (.if_icmp .ge 56, 3) := by decide +kernel
theorem d_SS_uniteRows_7 : decode b_SS_uniteRows 7 = .ok (.aload_n 0, 1) := by decide +kernel
theorem d_SS_uniteRows_8 : decode b_SS_uniteRows 8 = .ok (.getfield 38, 3) := by decide +kernel
theorem d_SS_uniteRows_11 : decode b_SS_uniteRows 11 = .ok (.iload_n 1, 1) := by decide +kernel
theorem d_SS_uniteRows_12 : decode b_SS_uniteRows 12 = .ok (.lconst 0, 1) := by decide +kernel
theorem d_SS_uniteRows_13 : decode b_SS_uniteRows 13 = .ok (.lastore, 1) := by decide +kernel
theorem d_SS_uniteRows_14 : decode b_SS_uniteRows 14 = .ok (.iconst 0, 1) := by decide +kernel
theorem d_SS_uniteRows_15 : decode b_SS_uniteRows 15 = .ok (.istore_n 2, 1) := by decide +kernel
theorem d_SS_uniteRows_16 : decode b_SS_uniteRows 16 = .ok (.iload_n 2, 1) := by decide +kernel
theorem d_SS_uniteRows_17 : decode b_SS_uniteRows 17 = .ok (.aload_n 0, 1) := by decide +kernel
theorem d_SS_uniteRows_18 : decode b_SS_uniteRows 18 = .ok (.getfield 47, 3) := by decide +kernel
theorem d_SS_uniteRows_21 : decode b_SS_uniteRows 21 = .ok (.if_icmp .ge 33, 3) := by decide +kernel
theorem d_SS_uniteRows_24 : decode b_SS_uniteRows 24 = .ok (.aload_n 0, 1) := by decide +kernel
theorem d_SS_uniteRows_25 : decode b_SS_uniteRows 25 = .ok (.getfield 38, 3) := by decide +kernel
theorem d_SS_uniteRows_28 : decode b_SS_uniteRows 28 = .ok (.iload_n 1, 1) := by decide +kernel
theorem d_SS_uniteRows_29 : decode b_SS_uniteRows 29 = .ok (.dup2, 1) := by decide +kernel
theorem d_SS_uniteRows_30 : decode b_SS_uniteRows 30 = .ok (.laload, 1) := by decide +kernel
theorem d_SS_uniteRows_31 : decode b_SS_uniteRows 31 = .ok (.aload_n 0, 1) := by decide +kernel
theorem d_SS_uniteRows_32 : decode b_SS_uniteRows 32 = .ok (.getfield 32, 3) := by decide +kernel
theorem d_SS_uniteRows_35 : decode b_SS_uniteRows 35 = .ok (.aload_n 0, 1) := by decide +kernel
theorem d_SS_uniteRows_36 : decode b_SS_uniteRows 36 = .ok (.getfield 44, 3) := by decide +kernel
theorem d_SS_uniteRows_39 : decode b_SS_uniteRows 39 = .ok (.iload_n 2, 1) := by decide +kernel
theorem d_SS_uniteRows_40 : decode b_SS_uniteRows 40 = .ok (.iaload, 1) := by decide +kernel
theorem d_SS_uniteRows_41 : decode b_SS_uniteRows 41 = .ok (.iconst 5, 1) := by decide +kernel
theorem d_SS_uniteRows_42 : decode b_SS_uniteRows 42 = .ok (.imul, 1) := by decide +kernel
theorem d_SS_uniteRows_43 : decode b_SS_uniteRows 43 = .ok (.iload_n 1, 1) := by decide +kernel
theorem d_SS_uniteRows_44 : decode b_SS_uniteRows 44 = .ok (.iadd, 1) := by decide +kernel
theorem d_SS_uniteRows_45 : decode b_SS_uniteRows 45 = .ok (.laload, 1) := by decide +kernel
theorem d_SS_uniteRows_46 : decode b_SS_uniteRows 46 = .ok (.lor, 1) := by decide +kernel
theorem d_SS_uniteRows_47 : decode b_SS_uniteRows 47 = .ok (.lastore, 1) := by decide +kernel
theorem d_SS_uniteRows_48 : decode b_SS_uniteRows 48 = .ok (.iinc 2 1, 3) := by decide +kernel
theorem d_SS_uniteRows_51 : decode b_SS_uniteRows 51 = .ok (.goto (-35), 3) := by decide +kernel
theorem d_SS_uniteRows_54 : decode b_SS_uniteRows 54 = .ok (.iinc 1 1, 3) := by decide +kernel
theorem d_SS_uniteRows_57 : decode b_SS_uniteRows 57 = .ok (.goto (-55), 3) := by decide +kernel
theorem d_SS_uniteRows_60 : decode b_SS_uniteRows 60 = .ok (.return_, 1) := by decide +kernel
theorem d_SR_endSpans_0 : decode b_SR_endSpans 0 = .ok (.aload_n 0, 1) := by decide +kernel
theorem d_SR_endSpans_1 : decode b_SR_endSpans 1 = .ok (.getfield 26, 3) := by decide +kernel
theorem d_SR_endSpans_4 : decode b_SR_endSpans 4 = .ok (.aload_n 0, 1) := by decide +kernel
theorem d_SR_endSpans_5 : decode b_SR_endSpans 5 = .ok (.getfield 57, 3) := by decide +kernel
theorem d_SR_endSpans_8 : decode b_SR_endSpans 8 = .ok (.invokevirtual 321, 3) := by decide +kernel
theorem d_SR_endSpans_11 : decode b_SR_endSpans 11 = .ok (.istore_n 1, 1) := by decide +kernel
theorem d_SR_endSpans_12 : decode b_SR_endSpans 12 = .ok (.iconst 0, 1) := by decide +kernel
theorem d_SR_endSpans_13 : decode b_SR_endSpans 13 = .ok (.istore_n 2, 1) := by decide +kernel
theorem d_SR_endSpans_14 : decode b_SR_endSpans 14 = .ok (.iload_n 2, 1) := by decide +kernel
theorem d_SR_endSpans_15 : decode b_SR_endSpans 15 = .ok (.iload_n 1, 1) := by decide +kernel
theorem d_SR_endSpans_16 : decode b_SR_endSpans 16 = .ok (.if_icmp .ge 23, 3) := by decide +kernel
theorem d_SR_endSpans_19 : decode b_SR_endSpans 19 = .ok (.aload_n 0, 1) := by decide +kernel
theorem d_SR_endSpans_20 : decode b_SR_endSpans 20 = .ok (.aload_n 0, 1) := by decide +kernel
theorem d_SR_endSpans_21 : decode b_SR_endSpans 21 = .ok (.getfield 26, 3) := by decide +kernel
theorem d_SR_endSpans_24 : decode b_SR_endSpans 24 = .ok (.getfield 325, 3) := by decide +kernel
theorem d_SR_endSpans_27 : decode b_SR_endSpans 27 = .ok (.iload_n 2, 1) := by decide +kernel
theorem d_SR_endSpans_28 : decode b_SR_endSpans 28 = .ok (.iaload, 1) := by decide +kernel
theorem d_SR_endSpans_29 : decode b_SR_endSpans 29 = .ok (.iconst 1, 1) := by decide +kernel
theorem d_SR_endSpans_30 : decode b_SR_endSpans 30 = .ok (.invokevirtual 291, 3) := by decide +kernel
theorem d_SR_endSpans_33 : decode b_SR_endSpans 33 = .ok (.iinc 2 1, 3) := by decide +kernel
theorem d_SR_endSpans_36 : decode b_SR_endSpans 36 = .ok (.goto (-22), 3) := by decide +kernel
theorem d_SR_endSpans_39 : decode b_SR_endSpans 39 = .ok (.aload_n 0, 1) := by decide +kernel
theorem d_SR_endSpans_40 : decode b_SR_endSpans 40 = .ok (.getfield 26, 3) := by decide +kernel
theorem d_SR_endSpans_43 : decode b_SR_endSpans 43 = .ok (.aload_n 0, 1) := by decide +kernel
theorem d_SR_endSpans_44 : decode b_SR_endSpans 44 = .ok (.getfield 57, 3) := by decide +kernel
theorem d_SR_endSpans_47 : decode b_SR_endSpans 47 = .ok (.aload_n 0, 1) := by decide +kernel
theorem d_SR_endSpans_48 : decode b_SR_endSpans 48 = .ok (.getfield 51, 3) := by decide +kernel
theorem d_SR_endSpans_51 : decode b_SR_endSpans 51 = .ok (.lsub, 1) := by decide +kernel
theorem d_SR_endSpans_52 : decode b_SR_endSpans 52 = .ok (.invokevirtual 328, 3) := by decide +kernel
theorem d_SR_endSpans_55 : decode b_SR_endSpans 55 = .ok (.aload_n 0, 1) := by decide +kernel
theorem d_SR_endSpans_56 : decode b_SR_endSpans 56 = .ok (.getfield 26, 3) := by decide +kernel
theorem d_SR_endSpans_59 : decode b_SR_endSpans 59 = .ok (.invokevirtual 331, 3) := by decide +kernel
theorem d_SR_endSpans_62 : decode b_SR_endSpans 62 = .ok (.iconst 0, 1) := by decide +kernel
theorem d_SR_endSpans_63 : decode b_SR_endSpans 63 = .ok (.istore_n 2, 1) := by decide +kernel
theorem d_SR_endSpans_64 : decode b_SR_endSpans 64 = .ok (.iload_n 2, 1) := by decide +kernel
theorem d_SR_endSpans_65 : decode b_SR_endSpans 65 = .ok (.aload_n 0, 1) := by decide +kernel
theorem d_SR_endSpans_66 : decode b_SR_endSpans 66 = .ok (.getfield 19, 3) := by decide +kernel
theorem d_SR_endSpans_69 : decode b_SR_endSpans 69 = .ok (.getfield 154, 3) := by decide +kernel
theorem d_SR_endSpans_72 : decode b_SR_endSpans 72 = .ok (.if_icmp .ge 48, 3) := by decide +kernel
theorem d_SR_endSpans_75 : decode b_SR_endSpans 75 = .ok (.aload_n 0, 1) := by decide +kernel
theorem d_SR_endSpans_76 : decode b_SR_endSpans 76 = .ok (.getfield 19, 3) := by decide +kernel
theorem d_SR_endSpans_79 : decode b_SR_endSpans 79 = .ok (.getfield 309, 3) := by decide +kernel
theorem d_SR_endSpans_82 : decode b_SR_endSpans 82 = .ok (.iload_n 2, 1) := by decide +kernel
theorem d_SR_endSpans_83 : decode b_SR_endSpans 83 = .ok (.iaload, 1) := by decide +kernel
theorem d_SR_endSpans_84 : decode b_SR_endSpans 84 = .ok (.istore_n 3, 1) := by decide +kernel
theorem d_SR_endSpans_85 : decode b_SR_endSpans 85 = .ok (.aload_n 0, 1) := by decide +kernel
theorem d_SR_endSpans_86 : decode b_SR_endSpans 86 = .ok (.getfield 19, 3) := by decide +kernel
theorem d_SR_endSpans_89 : decode b_SR_endSpans 89 = .ok (.getfield 334, 3) := by decide +kernel
theorem d_SR_endSpans_92 : decode b_SR_endSpans 92 = .ok (.iload_n 3, 1) := by decide +kernel
theorem d_SR_endSpans_93 : decode b_SR_endSpans 93 = .ok (.aload_n 0, 1) := by decide +kernel
theorem d_SR_endSpans_94 : decode b_SR_endSpans 94 = .ok (.getfield 26, 3) := by decide +kernel
theorem d_SR_endSpans_97 : decode b_SR_endSpans 97 = .ok (.getfield 337, 3) := by decide +kernel
theorem d_SR_endSpans_100 : decode b_SR_endSpans 100 = .ok (.iconst 0, 1) := by decide +kernel
theorem d_SR_endSpans_101 : decode b_SR_endSpans 101 = .ok (.iload_n 3, 1) := by decide +kernel
theorem d_SR_endSpans_102 : decode b_SR_endSpans 102 = .ok (.invokestatic 312, 3) := by decide +kernel
theorem d_SR_endSpans_105 : decode b_SR_endSpans 105 = .ok (.ifCond .ne 7, 3) := by decide +kernel
theorem d_SR_endSpans_108 : decode b_SR_endSpans 108 = .ok (.iconst 1, 1) := by decide +kernel
theorem d_SR_endSpans_109 : decode b_SR_endSpans 109 = .ok (.goto 4, 3) := by decide +kernel
theorem d_SR_endSpans_112 : decode b_SR_endSpans 112 = .ok (.iconst 0, 1) := by decide +kernel
theorem d_SR_endSpans_113 : decode b_SR_endSpans 113 = .ok (.bastore, 1) := by decide +kernel
theorem d_SR_endSpans_114 : decode b_SR_endSpans 114 = .ok (.iinc 2 1, 3) := by decide +kernel
theorem d_SR_endSpans_117 : decode b_SR_endSpans 117 = .ok (.goto (-53), 3) := by decide +kernel
theorem d_SR_endSpans_120 : decode b_SR_endSpans 120 = .ok (.aload_n 0, 1) := by decide +kernel
theorem d_SR_endSpans_121 : decode b_SR_endSpans 121 = .ok (.getfield 19, 3) := by decide +kernel
theorem d_SR_endSpans_124 : decode b_SR_endSpans 124 = .ok (.invokevirtual 340, 3) := by decide +kernel
theorem d_SR_endSpans_127 : decode b_SR_endSpans 127 = .ok (.iload_n 1, 1) := by decide +kernel
theorem d_SR_endSpans_128 : decode b_SR_endSpans 128 = .ok (.ireturn, 1) := by decide +kernel
theorem d_SR_mark_0 : decode b_SR_mark 0 = .ok (.lload_n 1, 1) := by decide +kernel
theorem d_SR_mark_1 : decode b_SR_mark 1 = .ok (.ldc2_w 55, 3) := by decide +kernel
theorem d_SR_mark_4 : decode b_SR_mark 4 = .ok (.ldc2_w 145, 3) := by decide +kernel
theorem d_SR_mark_7 : decode b_SR_mark 7 = .ok (.invokestatic 95, 3) := by decide +kernel
theorem d_SR_mark_10 : decode b_SR_mark 10 = .ok (.ifCond .ne 6, 3) := by decide +kernel
theorem d_SR_mark_13 : decode b_SR_mark 13 = .ok (.bipush (-2), 2) := by decide +kernel
theorem d_SR_mark_15 : decode b_SR_mark 15 = .ok (.ireturn, 1) := by decide +kernel
theorem d_SR_mark_16 : decode b_SR_mark 16 = .ok (.lload_n 1, 1) := by decide +kernel
theorem d_SR_mark_17 : decode b_SR_mark 17 = .ok (.aload_n 0, 1) := by decide +kernel
theorem d_SR_mark_18 : decode b_SR_mark 18 = .ok (.getfield 57, 3) := by decide +kernel
theorem d_SR_mark_21 : decode b_SR_mark 21 = .ok (.lcmp, 1) := by decide +kernel
theorem d_SR_mark_22 : decode b_SR_mark 22 = .ok (.ifCond .ge 6, 3) := by decide +kernel
theorem d_SR_mark_25 : decode b_SR_mark 25 = .ok (.bipush (-3), 2) := by decide +kernel
theorem d_SR_mark_27 : decode b_SR_mark 27 = .ok (.ireturn, 1) := by decide +kernel
theorem d_SR_mark_28 : decode b_SR_mark 28 = .ok (.aload_n 0, 1) := by decide +kernel
theorem d_SR_mark_29 : decode b_SR_mark 29 = .ok (.lload_n 1, 1) := by decide +kernel
theorem d_SR_mark_30 : decode b_SR_mark 30 = .ok (.putfield 57, 3) := by decide +kernel
theorem d_SR_mark_33 : decode b_SR_mark 33 = .ok (.aload_n 0, 1) := by decide +kernel
theorem d_SR_mark_34 : decode b_SR_mark 34 = .ok (.getfield 87, 3) := by decide +kernel
theorem d_SR_mark_37 : decode b_SR_mark 37 = .ok (.getfield 102, 3) := by decide +kernel
theorem d_SR_mark_40 : decode b_SR_mark 40 = .ok (.iconst 3, 1) := by decide +kernel
theorem d_SR_mark_41 : decode b_SR_mark 41 = .ok (.if_icmp .ne 10, 3) := by decide +kernel
theorem d_SR_mark_44 : decode b_SR_mark 44 = .ok (.aload_n 0, 1) := by decide +kernel
theorem d_SR_mark_45 : decode b_SR_mark 45 = .ok (.invokevirtual 147, 3) := by decide +kernel
theorem d_SR_mark_48 : decode b_SR_mark 48 = .ok (.goto 7, 3) := by decide +kernel
theorem d_SR_mark_51 : decode b_SR_mark 51 = .ok (.aload_n 0, 1) := by decide +kernel
theorem d_SR_mark_52 : decode b_SR_mark 52 = .ok (.invokevirtual 151, 3) := by decide +kernel
theorem d_SR_mark_55 : decode b_SR_mark 55 = .ok (.ireturn, 1) := by decide +kernel
theorem d_SR_count_0 : decode b_SR_count 0 = .ok (.iload_n 1, 1) := by decide +kernel
theorem d_SR_count_1 : decode b_SR_count 1 = .ok (.tableswitch 105 0 7 #[47, 55, 63, 71, 76, 81, 89, 97], 47) := by decide +kernel
theorem d_SR_count_48 : decode b_SR_count 48 = .ok (.aload_n 0, 1) := by decide +kernel
theorem d_SR_count_49 : decode b_SR_count 49 = .ok (.getfield 19, 3) := by decide +kernel
theorem d_SR_count_52 : decode b_SR_count 52 = .ok (.getfield 154, 3) := by decide +kernel
theorem d_SR_count_55 : decode b_SR_count 55 = .ok (.ireturn, 1) := by decide +kernel
theorem d_SR_count_56 : decode b_SR_count 56 = .ok (.aload_n 0, 1) := by decide +kernel
theorem d_SR_count_57 : decode b_SR_count 57 = .ok (.getfield 26, 3) := by decide +kernel
theorem d_SR_count_60 : decode b_SR_count 60 = .ok (.getfield 157, 3) := by decide +kernel
theorem d_SR_count_63 : decode b_SR_count 63 = .ok (.ireturn, 1) := by decide +kernel
theorem d_SR_count_64 : decode b_SR_count 64 = .ok (.aload_n 0, 1) := by decide +kernel
theorem d_SR_count_65 : decode b_SR_count 65 = .ok (.getfield 40, 3) := by decide +kernel
theorem d_SR_count_68 : decode b_SR_count 68 = .ok (.getfield 158, 3) := by decide +kernel
theorem d_SR_count_71 : decode b_SR_count 71 = .ok (.ireturn, 1) := by decide +kernel
theorem d_SR_count_72 : decode b_SR_count 72 = .ok (.aload_n 0, 1) := by decide +kernel
theorem d_SR_count_73 : decode b_SR_count 73 = .ok (.getfield 74, 3) := by decide +kernel
theorem d_SR_count_76 : decode b_SR_count 76 = .ok (.ireturn, 1) := by decide +kernel
theorem d_SR_count_77 : decode b_SR_count 77 = .ok (.aload_n 0, 1) := by decide +kernel
theorem d_SR_count_78 : decode b_SR_count 78 = .ok (.getfield 71, 3) := by decide +kernel
theorem d_SR_count_81 : decode b_SR_count 81 = .ok (.ireturn, 1) := by decide +kernel
theorem d_SR_count_82 : decode b_SR_count 82 = .ok (.aload_n 0, 1) := by decide +kernel
theorem d_SR_count_83 : decode b_SR_count 83 = .ok (.getfield 40, 3) := by decide +kernel
theorem d_SR_count_86 : decode b_SR_count 86 = .ok (.invokevirtual 161, 3) := by decide +kernel
theorem d_SR_count_89 : decode b_SR_count 89 = .ok (.ireturn, 1) := by decide +kernel
theorem d_SR_count_90 : decode b_SR_count 90 = .ok (.aload_n 0, 1) := by decide +kernel
theorem d_SR_count_91 : decode b_SR_count 91 = .ok (.getfield 40, 3) := by decide +kernel
theorem d_SR_count_94 : decode b_SR_count 94 = .ok (.getfield 163, 3) := by decide +kernel
theorem d_SR_count_97 : decode b_SR_count 97 = .ok (.ireturn, 1) := by decide +kernel
theorem d_SR_count_98 : decode b_SR_count 98 = .ok (.aload_n 0, 1) := by decide +kernel
theorem d_SR_count_99 : decode b_SR_count 99 = .ok (.getfield 40, 3) := by decide +kernel
theorem d_SR_count_102 : decode b_SR_count 102 = .ok (.getfield 166, 3) := by decide +kernel
theorem d_SR_count_105 : decode b_SR_count 105 = .ok (.ireturn, 1) := by decide +kernel
theorem d_SR_count_106 : decode b_SR_count 106 = .ok (.bipush (-2), 2) := by decide +kernel
theorem d_SR_count_108 : decode b_SR_count 108 = .ok (.ireturn, 1) := by decide +kernel
theorem d_SR_fired_0 : decode b_SR_fired 0 = .ok (.iload_n 1, 1) := by decide +kernel
theorem d_SR_fired_1 : decode b_SR_fired 1 = .ok (.i2l, 1) := by decide +kernel
theorem d_SR_fired_2 : decode b_SR_fired 2 = .ok (.lconst 0, 1) := by decide +kernel
theorem d_SR_fired_3 : decode b_SR_fired 3 = .ok (.aload_n 0, 1) := by decide +kernel
theorem d_SR_fired_4 : decode b_SR_fired 4 = .ok (.getfield 40, 3) := by decide +kernel
theorem d_SR_fired_7 : decode b_SR_fired 7 = .ok (.invokevirtual 161, 3) := by decide +kernel
theorem d_SR_fired_10 : decode b_SR_fired 10 = .ok (.iconst 1, 1) := by decide +kernel
theorem d_SR_fired_11 : decode b_SR_fired 11 = .ok (.isub, 1) := by decide +kernel
theorem d_SR_fired_12 : decode b_SR_fired 12 = .ok (.i2l, 1) := by decide +kernel
theorem d_SR_fired_13 : decode b_SR_fired 13 = .ok (.invokestatic 95, 3) := by decide +kernel
theorem d_SR_fired_16 : decode b_SR_fired 16 = .ok (.ifCond .ne 7, 3) := by decide +kernel
theorem d_SR_fired_19 : decode b_SR_fired 19 = .ok (.ldc2_w 169, 3) := by decide +kernel
theorem d_SR_fired_22 : decode b_SR_fired 22 = .ok (.lreturn, 1) := by decide +kernel
theorem d_SR_fired_23 : decode b_SR_fired 23 = .ok (.iload_n 2, 1) := by decide +kernel
theorem d_SR_fired_24 : decode b_SR_fired 24 = .ok (.i2l, 1) := by decide +kernel
theorem d_SR_fired_25 : decode b_SR_fired 25 = .ok (.lconst 0, 1) := by decide +kernel
theorem d_SR_fired_26 : decode b_SR_fired 26 = .ok (.ldc2_w 171, 3) := by decide +kernel
theorem d_SR_fired_29 : decode b_SR_fired 29 = .ok (.invokestatic 95, 3) := by decide +kernel
theorem d_SR_fired_32 : decode b_SR_fired 32 = .ok (.ifCond .ne 7, 3) := by decide +kernel
theorem d_SR_fired_35 : decode b_SR_fired 35 = .ok (.ldc2_w 173, 3) := by decide +kernel
theorem d_SR_fired_38 : decode b_SR_fired 38 = .ok (.lreturn, 1) := by decide +kernel
theorem d_SR_fired_39 : decode b_SR_fired 39 = .ok (.aload_n 0, 1) := by decide +kernel
theorem d_SR_fired_40 : decode b_SR_fired 40 = .ok (.getfield 40, 3) := by decide +kernel
theorem d_SR_fired_43 : decode b_SR_fired 43 = .ok (.iload_n 1, 1) := by decide +kernel
theorem d_SR_fired_44 : decode b_SR_fired 44 = .ok (.iload_n 2, 1) := by decide +kernel
theorem d_SR_fired_45 : decode b_SR_fired 45 = .ok (.invokevirtual 175, 3) := by decide +kernel
theorem d_SR_fired_48 : decode b_SR_fired 48 = .ok (.lreturn, 1) := by decide +kernel
theorem d_SR_isKey_0 : decode b_SR_isKey 0 = .ok (.iload_n 0, 1) := by decide +kernel
theorem d_SR_isKey_1 : decode b_SR_isKey 1 = .ok (.i2l, 1) := by decide +kernel
theorem d_SR_isKey_2 : decode b_SR_isKey 2 = .ok (.lconst 0, 1) := by decide +kernel
theorem d_SR_isKey_3 : decode b_SR_isKey 3 = .ok (.ldc2_w 226, 3) := by decide +kernel
theorem d_SR_isKey_6 : decode b_SR_isKey 6 = .ok (.invokestatic 95, 3) := by decide +kernel
theorem d_SR_isKey_9 : decode b_SR_isKey 9 = .ok (.ireturn, 1) := by decide +kernel
theorem d_SS_ofKey_0 : decode b_SS_ofKey 0 = .ok (.iconst 0, 1) := by decide +kernel
theorem d_SS_ofKey_1 : decode b_SS_ofKey 1 = .ok (.istore_n 2, 1) := by decide +kernel
theorem d_SS_ofKey_2 : decode b_SS_ofKey 2 = .ok (.iconst 0, 1) := by decide +kernel
theorem d_SS_ofKey_3 : decode b_SS_ofKey 3 = .ok (.istore_n 3, 1) := by decide +kernel
theorem d_SS_ofKey_4 : decode b_SS_ofKey 4 = .ok (.iload_n 3, 1) := by decide +kernel
theorem d_SS_ofKey_5 : decode b_SS_ofKey 5 = .ok (.aload_n 0, 1) := by decide +kernel
theorem d_SS_ofKey_6 : decode b_SS_ofKey 6 = .ok (.getfield 47, 3) := by decide +kernel
theorem d_SS_ofKey_9 : decode b_SS_ofKey 9 = .ok (.if_icmp .ge 27, 3) := by decide +kernel
theorem d_SS_ofKey_12 : decode b_SS_ofKey 12 = .ok (.aload_n 0, 1) := by decide +kernel
theorem d_SS_ofKey_13 : decode b_SS_ofKey 13 = .ok (.getfield 9, 3) := by decide +kernel
theorem d_SS_ofKey_16 : decode b_SS_ofKey 16 = .ok (.aload_n 0, 1) := by decide +kernel
theorem d_SS_ofKey_17 : decode b_SS_ofKey 17 = .ok (.getfield 44, 3) := by decide +kernel
theorem d_SS_ofKey_20 : decode b_SS_ofKey 20 = .ok (.iload_n 3, 1) := by decide +kernel
theorem d_SS_ofKey_21 : decode b_SS_ofKey 21 = .ok (.iaload, 1) := by decide +kernel
theorem d_SS_ofKey_22 : decode b_SS_ofKey 22 = .ok (.iaload, 1) := by decide +kernel
theorem d_SS_ofKey_23 : decode b_SS_ofKey 23 = .ok (.iload_n 1, 1) := by decide +kernel
theorem d_SS_ofKey_24 : decode b_SS_ofKey 24 = .ok (.if_icmp .ne 6, 3) := by decide +kernel
theorem d_SS_ofKey_27 : decode b_SS_ofKey 27 = .ok (.iinc 2 1, 3) := by decide +kernel
theorem d_SS_ofKey_30 : decode b_SS_ofKey 30 = .ok (.iinc 3 1, 3) := by decide +kernel
theorem d_SS_ofKey_33 : decode b_SS_ofKey 33 = .ok (.goto (-29), 3) := by decide +kernel
theorem d_SS_ofKey_36 : decode b_SS_ofKey 36 = .ok (.iload_n 2, 1) := by decide +kernel
theorem d_SS_ofKey_37 : decode b_SS_ofKey 37 = .ok (.ireturn, 1) := by decide +kernel
theorem d_SR_spans_0 : decode b_SR_spans 0 = .ok (.iload_n 1, 1) := by decide +kernel
theorem d_SR_spans_1 : decode b_SR_spans 1 = .ok (.invokestatic 116, 3) := by decide +kernel
theorem d_SR_spans_4 : decode b_SR_spans 4 = .ok (.ifCond .ne 5, 3) := by decide +kernel
theorem d_SR_spans_7 : decode b_SR_spans 7 = .ok (.iconst (-1), 1) := by decide +kernel
theorem d_SR_spans_8 : decode b_SR_spans 8 = .ok (.ireturn, 1) := by decide +kernel
theorem d_SR_spans_9 : decode b_SR_spans 9 = .ok (.aload_n 0, 1) := by decide +kernel
theorem d_SR_spans_10 : decode b_SR_spans 10 = .ok (.getfield 87, 3) := by decide +kernel
theorem d_SR_spans_13 : decode b_SR_spans 13 = .ok (.getfield 102, 3) := by decide +kernel
theorem d_SR_spans_16 : decode b_SR_spans 16 = .ok (.iconst 3, 1) := by decide +kernel
theorem d_SR_spans_17 : decode b_SR_spans 17 = .ok (.if_icmp .ne 15, 3) := by decide +kernel
theorem d_SR_spans_20 : decode b_SR_spans 20 = .ok (.aload_n 0, 1) := by decide +kernel
theorem d_SR_spans_21 : decode b_SR_spans 21 = .ok (.getfield 33, 3) := by decide +kernel
theorem d_SR_spans_24 : decode b_SR_spans 24 = .ok (.getfield 179, 3) := by decide +kernel
theorem d_SR_spans_27 : decode b_SR_spans 27 = .ok (.iload_n 1, 1) := by decide +kernel
theorem d_SR_spans_28 : decode b_SR_spans 28 = .ok (.iaload, 1) := by decide +kernel
theorem d_SR_spans_29 : decode b_SR_spans 29 = .ok (.goto 11, 3) := by decide +kernel
theorem d_SR_spans_32 : decode b_SR_spans 32 = .ok (.aload_n 0, 1) := by decide +kernel
theorem d_SR_spans_33 : decode b_SR_spans 33 = .ok (.getfield 26, 3) := by decide +kernel
theorem d_SR_spans_36 : decode b_SR_spans 36 = .ok (.iload_n 1, 1) := by decide +kernel
theorem d_SR_spans_37 : decode b_SR_spans 37 = .ok (.invokevirtual 183, 3) := by decide +kernel
theorem d_SR_spans_40 : decode b_SR_spans 40 = .ok (.ireturn, 1) := by decide +kernel
theorem d_SS_nthOfKey_0 : decode b_SS_nthOfKey 0 = .ok (.iconst 0, 1) := by decide +kernel
theorem d_SS_nthOfKey_1 : decode b_SS_nthOfKey 1 = .ok (.istore_n 3, 1) := by decide +kernel
theorem d_SS_nthOfKey_2 : decode b_SS_nthOfKey 2 = .ok (.iconst 0, 1) := by decide +kernel
theorem d_SS_nthOfKey_3 : decode b_SS_nthOfKey 3 = .ok (.istore 4, 2) := by decide +kernel
theorem d_SS_nthOfKey_5 : decode b_SS_nthOfKey 5 = .ok (.iload 4, 2) := by decide +kernel
theorem d_SS_nthOfKey_7 : decode b_SS_nthOfKey 7 = .ok (.aload_n 0, 1) := by decide +kernel
theorem d_SS_nthOfKey_8 : decode b_SS_nthOfKey 8 = .ok (.getfield 47, 3) := by decide +kernel
theorem d_SS_nthOfKey_11 : decode b_SS_nthOfKey 11 = .ok (.if_icmp .ge 40, 3) := by decide +kernel
theorem d_SS_nthOfKey_14 : decode b_SS_nthOfKey 14 = .ok (.aload_n 0, 1) := by decide +kernel
theorem d_SS_nthOfKey_15 : decode b_SS_nthOfKey 15 = .ok (.getfield 44, 3) := by decide +kernel
theorem d_SS_nthOfKey_18 : decode b_SS_nthOfKey 18 = .ok (.iload 4, 2) := by decide +kernel
theorem d_SS_nthOfKey_20 : decode b_SS_nthOfKey 20 = .ok (.iaload, 1) := by decide +kernel
theorem d_SS_nthOfKey_21 : decode b_SS_nthOfKey 21 = .ok (.istore 5, 2) := by decide +kernel
theorem d_SS_nthOfKey_23 : decode b_SS_nthOfKey 23 = .ok (.aload_n 0, 1) := by decide +kernel
theorem d_SS_nthOfKey_24 : decode b_SS_nthOfKey 24 = .ok (.getfield 9, 3) := by decide +kernel
theorem d_SS_nthOfKey_27 : decode b_SS_nthOfKey 27 = .ok (.iload 5, 2) := by decide +kernel
theorem d_SS_nthOfKey_29 : decode b_SS_nthOfKey 29 = .ok (.iaload, 1) := by decide +kernel
theorem d_SS_nthOfKey_30 : decode b_SS_nthOfKey 30 = .ok (.iload_n 1, 1) := by decide +kernel
theorem d_SS_nthOfKey_31 : decode b_SS_nthOfKey 31 = .ok (.if_icmp .ne 14, 3) := by decide +kernel
theorem d_SS_nthOfKey_34 : decode b_SS_nthOfKey 34 = .ok (.iload_n 3, 1) := by decide +kernel
theorem d_SS_nthOfKey_35 : decode b_SS_nthOfKey 35 = .ok (.iload_n 2, 1) := by decide +kernel
theorem d_SS_nthOfKey_36 : decode b_SS_nthOfKey 36 = .ok (.if_icmp .ne 6, 3) := by decide +kernel
theorem d_SS_nthOfKey_39 : decode b_SS_nthOfKey 39 = .ok (.iload 5, 2) := by decide +kernel
theorem d_SS_nthOfKey_41 : decode b_SS_nthOfKey 41 = .ok (.ireturn, 1) := by decide +kernel
theorem d_SS_nthOfKey_42 : decode b_SS_nthOfKey 42 = .ok (.iinc 3 1, 3) := by decide +kernel
theorem d_SS_nthOfKey_45 : decode b_SS_nthOfKey 45 = .ok (.iinc 4 1, 3) := by decide +kernel
theorem d_SS_nthOfKey_48 : decode b_SS_nthOfKey 48 = .ok (.goto (-43), 3) := by decide +kernel
theorem d_SS_nthOfKey_51 : decode b_SS_nthOfKey 51 = .ok (.iconst (-1), 1) := by decide +kernel
theorem d_SS_nthOfKey_52 : decode b_SS_nthOfKey 52 = .ok (.ireturn, 1) := by decide +kernel
theorem d_SR_span_0 : decode b_SR_span 0 = .ok (.aload_n 0, 1) := by decide +kernel
theorem d_SR_span_1 : decode b_SR_span 1 = .ok (.getfield 26, 3) := by decide +kernel
theorem d_SR_span_4 : decode b_SR_span 4 = .ok (.iload_n 1, 1) := by decide +kernel
theorem d_SR_span_5 : decode b_SR_span 5 = .ok (.iload_n 2, 1) := by decide +kernel
theorem d_SR_span_6 : decode b_SR_span 6 = .ok (.invokevirtual 187, 3) := by decide +kernel
theorem d_SR_span_9 : decode b_SR_span 9 = .ok (.istore 4, 2) := by decide +kernel
theorem d_SR_span_11 : decode b_SR_span 11 = .ok (.iload 4, 2) := by decide +kernel
theorem d_SR_span_13 : decode b_SR_span 13 = .ok (.iconst (-1), 1) := by decide +kernel
theorem d_SR_span_14 : decode b_SR_span 14 = .ok (.if_icmp .ne 7, 3) := by decide +kernel
theorem d_SR_span_17 : decode b_SR_span 17 = .ok (.ldc2_w 169, 3) := by decide +kernel
theorem d_SR_span_20 : decode b_SR_span 20 = .ok (.lreturn, 1) := by decide +kernel
theorem d_SR_span_21 : decode b_SR_span 21 = .ok (.iload_n 3, 1) := by decide +kernel
theorem d_SR_span_22 : decode b_SR_span 22 = .ok (.tableswitch 122 1 10 #[54, 65, 122, 76, 76, 76, 76, 76, 98, 110], 54) := by decide +kernel
theorem d_SR_span_76 : decode b_SR_span 76 = .ok (.aload_n 0, 1) := by decide +kernel
theorem d_SR_span_77 : decode b_SR_span 77 = .ok (.getfield 26, 3) := by decide +kernel
theorem d_SR_span_80 : decode b_SR_span 80 = .ok (.getfield 191, 3) := by decide +kernel
theorem d_SR_span_83 : decode b_SR_span 83 = .ok (.iload 4, 2) := by decide +kernel
theorem d_SR_span_85 : decode b_SR_span 85 = .ok (.laload, 1) := by decide +kernel
theorem d_SR_span_86 : decode b_SR_span 86 = .ok (.lreturn, 1) := by decide +kernel
theorem d_SR_span_87 : decode b_SR_span 87 = .ok (.aload_n 0, 1) := by decide +kernel
theorem d_SR_span_88 : decode b_SR_span 88 = .ok (.getfield 26, 3) := by decide +kernel
theorem d_SR_span_91 : decode b_SR_span 91 = .ok (.getfield 195, 3) := by decide +kernel
theorem d_SR_span_94 : decode b_SR_span 94 = .ok (.iload 4, 2) := by decide +kernel
theorem d_SR_span_96 : decode b_SR_span 96 = .ok (.laload, 1) := by decide +kernel
theorem d_SR_span_97 : decode b_SR_span 97 = .ok (.lreturn, 1) := by decide +kernel
theorem d_SR_span_98 : decode b_SR_span 98 = .ok (.aload_n 0, 1) := by decide +kernel
theorem d_SR_span_99 : decode b_SR_span 99 = .ok (.iload 4, 2) := by decide +kernel
theorem d_SR_span_101 : decode b_SR_span 101 = .ok (.aload_n 0, 1) := by decide +kernel
theorem d_SR_span_102 : decode b_SR_span 102 = .ok (.getfield 26, 3) := by decide +kernel
theorem d_SR_span_105 : decode b_SR_span 105 = .ok (.getfield 198, 3) := by decide +kernel
theorem d_SR_span_108 : decode b_SR_span 108 = .ok (.invokevirtual 201, 3) := by decide +kernel
theorem d_SR_span_111 : decode b_SR_span 111 = .ok (.aload_n 0, 1) := by decide +kernel
theorem d_SR_span_112 : decode b_SR_span 112 = .ok (.getfield 47, 3) := by decide +kernel
theorem d_SR_span_115 : decode b_SR_span 115 = .ok (.iload_n 3, 1) := by decide +kernel
theorem d_SR_span_116 : decode b_SR_span 116 = .ok (.invokevirtual 205, 3) := by decide +kernel
theorem d_SR_span_119 : decode b_SR_span 119 = .ok (.lreturn, 1) := by decide +kernel
theorem d_SR_span_120 : decode b_SR_span 120 = .ok (.aload_n 0, 1) := by decide +kernel
theorem d_SR_span_121 : decode b_SR_span 121 = .ok (.getfield 26, 3) := by decide +kernel
theorem d_SR_span_124 : decode b_SR_span 124 = .ok (.getfield 209, 3) := by decide +kernel
theorem d_SR_span_127 : decode b_SR_span 127 = .ok (.iload 4, 2) := by decide +kernel
theorem d_SR_span_129 : decode b_SR_span 129 = .ok (.iaload, 1) := by decide +kernel
theorem d_SR_span_130 : decode b_SR_span 130 = .ok (.i2l, 1) := by decide +kernel
theorem d_SR_span_131 : decode b_SR_span 131 = .ok (.lreturn, 1) := by decide +kernel
theorem d_SR_span_132 : decode b_SR_span 132 = .ok (.aload_n 0, 1) := by decide +kernel
theorem d_SR_span_133 : decode b_SR_span 133 = .ok (.getfield 26, 3) := by decide +kernel
theorem d_SR_span_136 : decode b_SR_span 136 = .ok (.getfield 212, 3) := by decide +kernel
theorem d_SR_span_139 : decode b_SR_span 139 = .ok (.iload 4, 2) := by decide +kernel
theorem d_SR_span_141 : decode b_SR_span 141 = .ok (.iaload, 1) := by decide +kernel
theorem d_SR_span_142 : decode b_SR_span 142 = .ok (.i2l, 1) := by decide +kernel
theorem d_SR_span_143 : decode b_SR_span 143 = .ok (.lreturn, 1) := by decide +kernel
theorem d_SR_span_144 : decode b_SR_span 144 = .ok (.ldc2_w 173, 3) := by decide +kernel
theorem d_SR_span_147 : decode b_SR_span 147 = .ok (.lreturn, 1) := by decide +kernel
theorem d_SR_month_0 : decode b_SR_month 0 = .ok (.iload_n 1, 1) := by decide +kernel
theorem d_SR_month_1 : decode b_SR_month 1 = .ok (.i2l, 1) := by decide +kernel
theorem d_SR_month_2 : decode b_SR_month 2 = .ok (.ldc2_w 215, 3) := by decide +kernel
theorem d_SR_month_5 : decode b_SR_month 5 = .ok (.ldc2_w 217, 3) := by decide +kernel
theorem d_SR_month_8 : decode b_SR_month 8 = .ok (.invokestatic 95, 3) := by decide +kernel
theorem d_SR_month_11 : decode b_SR_month 11 = .ok (.ifCond .eq 12, 3) := by decide +kernel
theorem d_SR_month_14 : decode b_SR_month 14 = .ok (.iload_n 1, 1) := by decide +kernel
theorem d_SR_month_15 : decode b_SR_month 15 = .ok (.i2l, 1) := by decide +kernel
theorem d_SR_month_16 : decode b_SR_month 16 = .ok (.invokestatic 219, 3) := by decide +kernel
theorem d_SR_month_19 : decode b_SR_month 19 = .ok (.l2i, 1) := by decide +kernel
theorem d_SR_month_20 : decode b_SR_month 20 = .ok (.goto 5, 3) := by decide +kernel
theorem d_SR_month_23 : decode b_SR_month 23 = .ok (.ldc 225, 2) := by decide +kernel
theorem d_SR_month_25 : decode b_SR_month 25 = .ok (.ireturn, 1) := by decide +kernel
theorem d_SR_nearest_0 : decode b_SR_nearest 0 = .ok (.iload_n 0, 1) := by decide +kernel
theorem d_SR_nearest_1 : decode b_SR_nearest 1 = .ok (.iload_n 1, 1) := by decide +kernel
theorem d_SR_nearest_2 : decode b_SR_nearest 2 = .ok (.if_icmp .ge 7, 3) := by decide +kernel
theorem d_SR_nearest_5 : decode b_SR_nearest 5 = .ok (.iload_n 1, 1) := by decide +kernel
theorem d_SR_nearest_6 : decode b_SR_nearest 6 = .ok (.goto 13, 3) := by decide +kernel
theorem d_SR_nearest_9 : decode b_SR_nearest 9 = .ok (.iload_n 0, 1) := by decide +kernel
theorem d_SR_nearest_10 : decode b_SR_nearest 10 = .ok (.iload_n 2, 1) := by decide +kernel
theorem d_SR_nearest_11 : decode b_SR_nearest 11 = .ok (.if_icmp .le 7, 3) := by decide +kernel
theorem d_SR_nearest_14 : decode b_SR_nearest 14 = .ok (.iload_n 2, 1) := by decide +kernel
theorem d_SR_nearest_15 : decode b_SR_nearest 15 = .ok (.goto 4, 3) := by decide +kernel
theorem d_SR_nearest_18 : decode b_SR_nearest 18 = .ok (.iload_n 0, 1) := by decide +kernel
theorem d_SR_nearest_19 : decode b_SR_nearest 19 = .ok (.ireturn, 1) := by decide +kernel
theorem d_SR_isGone_0 : decode b_SR_isGone 0 = .ok (.lload_n 1, 1) := by decide +kernel
theorem d_SR_isGone_1 : decode b_SR_isGone 1 = .ok (.aload_n 0, 1) := by decide +kernel
theorem d_SR_isGone_2 : decode b_SR_isGone 2 = .ok (.getfield 51, 3) := by decide +kernel
theorem d_SR_isGone_5 : decode b_SR_isGone 5 = .ok (.ladd, 1) := by decide +kernel
theorem d_SR_isGone_6 : decode b_SR_isGone 6 = .ok (.aload_n 0, 1) := by decide +kernel
theorem d_SR_isGone_7 : decode b_SR_isGone 7 = .ok (.getfield 57, 3) := by decide +kernel
theorem d_SR_isGone_10 : decode b_SR_isGone 10 = .ok (.lcmp, 1) := by decide +kernel
theorem d_SR_isGone_11 : decode b_SR_isGone 11 = .ok (.ifCond .gt 7, 3) := by decide +kernel
theorem d_SR_isGone_14 : decode b_SR_isGone 14 = .ok (.iconst 1, 1) := by decide +kernel
theorem d_SR_isGone_15 : decode b_SR_isGone 15 = .ok (.goto 4, 3) := by decide +kernel
theorem d_SR_isGone_18 : decode b_SR_isGone 18 = .ok (.iconst 0, 1) := by decide +kernel
theorem d_SR_isGone_19 : decode b_SR_isGone 19 = .ok (.ireturn, 1) := by decide +kernel
theorem d_SR_dropLate_0 : decode b_SR_dropLate 0 = .ok (.aload_n 0, 1) := by decide +kernel
theorem d_SR_dropLate_1 : decode b_SR_dropLate 1 = .ok (.dup, 1) := by decide +kernel
theorem d_SR_dropLate_2 : decode b_SR_dropLate 2 = .ok (.getfield 71, 3) := by decide +kernel
theorem d_SR_dropLate_5 : decode b_SR_dropLate 5 = .ok (.iconst 1, 1) := by decide +kernel
theorem d_SR_dropLate_6 : decode b_SR_dropLate 6 = .ok (.iadd, 1) := by decide +kernel
theorem d_SR_dropLate_7 : decode b_SR_dropLate 7 = .ok (.putfield 71, 3) := by decide +kernel
theorem d_SR_dropLate_10 : decode b_SR_dropLate 10 = .ok (.aload_n 0, 1) := by decide +kernel
theorem d_SR_dropLate_11 : decode b_SR_dropLate 11 = .ok (.dup, 1) := by decide +kernel
theorem d_SR_dropLate_12 : decode b_SR_dropLate 12 = .ok (.getfield 74, 3) := by decide +kernel
theorem d_SR_dropLate_15 : decode b_SR_dropLate 15 = .ok (.iconst 1, 1) := by decide +kernel
theorem d_SR_dropLate_16 : decode b_SR_dropLate 16 = .ok (.iadd, 1) := by decide +kernel
theorem d_SR_dropLate_17 : decode b_SR_dropLate 17 = .ok (.putfield 74, 3) := by decide +kernel
theorem d_SR_dropLate_20 : decode b_SR_dropLate 20 = .ok (.iconst 0, 1) := by decide +kernel
theorem d_SR_dropLate_21 : decode b_SR_dropLate 21 = .ok (.ireturn, 1) := by decide +kernel
theorem d_RS_isFull_0 : decode b_RS_isFull 0 = .ok (.aload_n 0, 1) := by decide +kernel
theorem d_RS_isFull_1 : decode b_RS_isFull 1 = .ok (.getfield 32, 3) := by decide +kernel
theorem d_RS_isFull_4 : decode b_RS_isFull 4 = .ok (.sipush 300, 3) := by decide +kernel
theorem d_RS_isFull_7 : decode b_RS_isFull 7 = .ok (.if_icmp .lt 7, 3) := by decide +kernel
theorem d_RS_isFull_10 : decode b_RS_isFull 10 = .ok (.iconst 1, 1) := by decide +kernel
theorem d_RS_isFull_11 : decode b_RS_isFull 11 = .ok (.goto 4, 3) := by decide +kernel
theorem d_RS_isFull_14 : decode b_RS_isFull 14 = .ok (.iconst 0, 1) := by decide +kernel
theorem d_RS_isFull_15 : decode b_RS_isFull 15 = .ok (.ireturn, 1) := by decide +kernel
theorem d_RS_add_0 : decode b_RS_add 0 = .ok (.aload_n 0, 1) := by decide +kernel
theorem d_RS_add_1 : decode b_RS_add 1 = .ok (.getfield 29, 3) := by decide +kernel
theorem d_RS_add_4 : decode b_RS_add 4 = .ok (.aload_n 0, 1) := by decide +kernel
theorem d_RS_add_5 : decode b_RS_add 5 = .ok (.getfield 32, 3) := by decide +kernel
theorem d_RS_add_8 : decode b_RS_add 8 = .ok (.iaload, 1) := by decide +kernel
theorem d_RS_add_9 : decode b_RS_add 9 = .ok (.istore 6, 2) := by decide +kernel
theorem d_RS_add_11 : decode b_RS_add 11 = .ok (.aload_n 0, 1) := by decide +kernel
theorem d_RS_add_12 : decode b_RS_add 12 = .ok (.getfield 9, 3) := by decide +kernel
theorem d_RS_add_15 : decode b_RS_add 15 = .ok (.iload 6, 2) := by decide +kernel
theorem d_RS_add_17 : decode b_RS_add 17 = .ok (.iload_n 1, 1) := by decide +kernel
theorem d_RS_add_18 : decode b_RS_add 18 = .ok (.iastore, 1) := by decide +kernel
theorem d_RS_add_19 : decode b_RS_add 19 = .ok (.aload_n 0, 1) := by decide +kernel
theorem d_RS_add_20 : decode b_RS_add 20 = .ok (.getfield 15, 3) := by decide +kernel
theorem d_RS_add_23 : decode b_RS_add 23 = .ok (.iload 6, 2) := by decide +kernel
theorem d_RS_add_25 : decode b_RS_add 25 = .ok (.lload_n 2, 1) := by decide +kernel
theorem d_RS_add_26 : decode b_RS_add 26 = .ok (.lastore, 1) := by decide +kernel
theorem d_RS_add_27 : decode b_RS_add 27 = .ok (.aload_n 0, 1) := by decide +kernel
theorem d_RS_add_28 : decode b_RS_add 28 = .ok (.getfield 19, 3) := by decide +kernel
theorem d_RS_add_31 : decode b_RS_add 31 = .ok (.iload 6, 2) := by decide +kernel
theorem d_RS_add_33 : decode b_RS_add 33 = .ok (.lload 4, 2) := by decide +kernel
theorem d_RS_add_35 : decode b_RS_add 35 = .ok (.lastore, 1) := by decide +kernel
theorem d_RS_add_36 : decode b_RS_add 36 = .ok (.aload_n 0, 1) := by decide +kernel
theorem d_RS_add_37 : decode b_RS_add 37 = .ok (.getfield 22, 3) := by decide +kernel
theorem d_RS_add_40 : decode b_RS_add 40 = .ok (.iload 6, 2) := by decide +kernel
theorem d_RS_add_42 : decode b_RS_add 42 = .ok (.iconst (-1), 1) := by decide +kernel
theorem d_RS_add_43 : decode b_RS_add 43 = .ok (.iastore, 1) := by decide +kernel
theorem d_RS_add_44 : decode b_RS_add 44 = .ok (.aload_n 0, 1) := by decide +kernel
theorem d_RS_add_45 : decode b_RS_add 45 = .ok (.getfield 32, 3) := by decide +kernel
theorem d_RS_add_48 : decode b_RS_add 48 = .ok (.istore 7, 2) := by decide +kernel
theorem d_RS_add_50 : decode b_RS_add 50 = .ok (.iload 7, 2) := by decide +kernel
theorem d_RS_add_52 : decode b_RS_add 52 = .ok (.ifCond .le 44, 3) := by decide +kernel
theorem d_RS_add_55 : decode b_RS_add 55 = .ok (.aload_n 0, 1) := by decide +kernel
theorem d_RS_add_56 : decode b_RS_add 56 = .ok (.getfield 15, 3) := by decide +kernel
theorem d_RS_add_59 : decode b_RS_add 59 = .ok (.aload_n 0, 1) := by decide +kernel
theorem d_RS_add_60 : decode b_RS_add 60 = .ok (.getfield 29, 3) := by decide +kernel
theorem d_RS_add_63 : decode b_RS_add 63 = .ok (.iload 7, 2) := by decide +kernel
theorem d_RS_add_65 : decode b_RS_add 65 = .ok (.iconst 1, 1) := by decide +kernel
theorem d_RS_add_66 : decode b_RS_add 66 = .ok (.isub, 1) := by decide +kernel
theorem d_RS_add_67 : decode b_RS_add 67 = .ok (.iaload, 1) := by decide +kernel
theorem d_RS_add_68 : decode b_RS_add 68 = .ok (.laload, 1) := by decide +kernel
theorem d_RS_add_69 : decode b_RS_add 69 = .ok (.lload_n 2, 1) := by decide +kernel
theorem d_RS_add_70 : decode b_RS_add 70 = .ok (.lcmp, 1) := by decide +kernel
theorem d_RS_add_71 : decode b_RS_add 71 = .ok (.ifCond .le 25, 3) := by decide +kernel
theorem d_RS_add_74 : decode b_RS_add 74 = .ok (.aload_n 0, 1) := by decide +kernel
theorem d_RS_add_75 : decode b_RS_add 75 = .ok (.getfield 29, 3) := by decide +kernel
theorem d_RS_add_78 : decode b_RS_add 78 = .ok (.iload 7, 2) := by decide +kernel
theorem d_RS_add_80 : decode b_RS_add 80 = .ok (.aload_n 0, 1) := by decide +kernel
theorem d_RS_add_81 : decode b_RS_add 81 = .ok (.getfield 29, 3) := by decide +kernel
theorem d_RS_add_84 : decode b_RS_add 84 = .ok (.iload 7, 2) := by decide +kernel
theorem d_RS_add_86 : decode b_RS_add 86 = .ok (.iconst 1, 1) := by decide +kernel
theorem d_RS_add_87 : decode b_RS_add 87 = .ok (.isub, 1) := by decide +kernel
theorem d_RS_add_88 : decode b_RS_add 88 = .ok (.iaload, 1) := by decide +kernel
theorem d_RS_add_89 : decode b_RS_add 89 = .ok (.iastore, 1) := by decide +kernel
theorem d_RS_add_90 : decode b_RS_add 90 = .ok (.iinc 7 (-1), 3) := by decide +kernel
theorem d_RS_add_93 : decode b_RS_add 93 = .ok (.goto (-43), 3) := by decide +kernel
theorem d_RS_add_96 : decode b_RS_add 96 = .ok (.aload_n 0, 1) := by decide +kernel
theorem d_RS_add_97 : decode b_RS_add 97 = .ok (.getfield 29, 3) := by decide +kernel
theorem d_RS_add_100 : decode b_RS_add 100 = .ok (.iload 7, 2) := by decide +kernel
theorem d_RS_add_102 : decode b_RS_add 102 = .ok (.iload 6, 2) := by decide +kernel
theorem d_RS_add_104 : decode b_RS_add 104 = .ok (.iastore, 1) := by decide +kernel
theorem d_RS_add_105 : decode b_RS_add 105 = .ok (.aload_n 0, 1) := by decide +kernel
theorem d_RS_add_106 : decode b_RS_add 106 = .ok (.dup, 1) := by decide +kernel
theorem d_RS_add_107 : decode b_RS_add 107 = .ok (.getfield 32, 3) := by decide +kernel
theorem d_RS_add_110 : decode b_RS_add 110 = .ok (.iconst 1, 1) := by decide +kernel
theorem d_RS_add_111 : decode b_RS_add 111 = .ok (.iadd, 1) := by decide +kernel
theorem d_RS_add_112 : decode b_RS_add 112 = .ok (.putfield 32, 3) := by decide +kernel
theorem d_RS_add_115 : decode b_RS_add 115 = .ok (.iload 6, 2) := by decide +kernel
theorem d_RS_add_117 : decode b_RS_add 117 = .ok (.ireturn, 1) := by decide +kernel
theorem d_SR_putWaiting_0 : decode b_SR_putWaiting 0 = .ok (.lload_n 2, 1) := by decide +kernel
theorem d_SR_putWaiting_1 : decode b_SR_putWaiting 1 = .ok (.aload_n 0, 1) := by decide +kernel
theorem d_SR_putWaiting_2 : decode b_SR_putWaiting 2 = .ok (.getfield 57, 3) := by decide +kernel
theorem d_SR_putWaiting_5 : decode b_SR_putWaiting 5 = .ok (.lcmp, 1) := by decide +kernel
theorem d_SR_putWaiting_6 : decode b_SR_putWaiting 6 = .ok (.ifCond .ge 8, 3) := by decide +kernel
theorem d_SR_putWaiting_9 : decode b_SR_putWaiting 9 = .ok (.aload_n 0, 1) := by decide +kernel
theorem d_SR_putWaiting_10 : decode b_SR_putWaiting 10 = .ok (.invokevirtual 234, 3) := by decide +kernel
theorem d_SR_putWaiting_13 : decode b_SR_putWaiting 13 = .ok (.ireturn, 1) := by decide +kernel
theorem d_SR_putWaiting_14 : decode b_SR_putWaiting 14 = .ok (.aload_n 0, 1) := by decide +kernel
theorem d_SR_putWaiting_15 : decode b_SR_putWaiting 15 = .ok (.getfield 19, 3) := by decide +kernel
theorem d_SR_putWaiting_18 : decode b_SR_putWaiting 18 = .ok (.invokevirtual 237, 3) := by decide +kernel
theorem d_SR_putWaiting_21 : decode b_SR_putWaiting 21 = .ok (.ifCond .eq 6, 3) := by decide +kernel
theorem d_SR_putWaiting_24 : decode b_SR_putWaiting 24 = .ok (.bipush (-4), 2) := by decide +kernel
theorem d_SR_putWaiting_26 : decode b_SR_putWaiting 26 = .ok (.ireturn, 1) := by decide +kernel
theorem d_SR_putWaiting_27 : decode b_SR_putWaiting 27 = .ok (.aload_n 0, 1) := by decide +kernel
theorem d_SR_putWaiting_28 : decode b_SR_putWaiting 28 = .ok (.getfield 19, 3) := by decide +kernel
theorem d_SR_putWaiting_31 : decode b_SR_putWaiting 31 = .ok (.iload_n 1, 1) := by decide +kernel
theorem d_SR_putWaiting_32 : decode b_SR_putWaiting 32 = .ok (.lload_n 2, 1) := by decide +kernel
theorem d_SR_putWaiting_33 : decode b_SR_putWaiting 33 = .ok (.lload 4, 2) := by decide +kernel
theorem d_SR_putWaiting_35 : decode b_SR_putWaiting 35 = .ok (.invokevirtual 241, 3) := by decide +kernel
theorem d_SR_putWaiting_38 : decode b_SR_putWaiting 38 = .ok (.pop, 1) := by decide +kernel
theorem d_SR_putWaiting_39 : decode b_SR_putWaiting 39 = .ok (.aload_n 0, 1) := by decide +kernel
theorem d_SR_putWaiting_40 : decode b_SR_putWaiting 40 = .ok (.dup, 1) := by decide +kernel
theorem d_SR_putWaiting_41 : decode b_SR_putWaiting 41 = .ok (.getfield 71, 3) := by decide +kernel
theorem d_SR_putWaiting_44 : decode b_SR_putWaiting 44 = .ok (.iconst 1, 1) := by decide +kernel
theorem d_SR_putWaiting_45 : decode b_SR_putWaiting 45 = .ok (.iadd, 1) := by decide +kernel
theorem d_SR_putWaiting_46 : decode b_SR_putWaiting 46 = .ok (.putfield 71, 3) := by decide +kernel
theorem d_SR_putWaiting_49 : decode b_SR_putWaiting 49 = .ok (.iconst 1, 1) := by decide +kernel
theorem d_SR_putWaiting_50 : decode b_SR_putWaiting 50 = .ok (.ireturn, 1) := by decide +kernel
theorem d_SS_shares_0 : decode b_SS_shares 0 = .ok (.aload_n 0, 1) := by decide +kernel
theorem d_SS_shares_1 : decode b_SS_shares 1 = .ok (.getfield 9, 3) := by decide +kernel
theorem d_SS_shares_4 : decode b_SS_shares 4 = .ok (.iload_n 1, 1) := by decide +kernel
theorem d_SS_shares_5 : decode b_SS_shares 5 = .ok (.iaload, 1) := by decide +kernel
theorem d_SS_shares_6 : decode b_SS_shares 6 = .ok (.iload_n 2, 1) := by decide +kernel
theorem d_SS_shares_7 : decode b_SS_shares 7 = .ok (.if_icmp .ne 30, 3) := by decide +kernel
theorem d_SS_shares_10 : decode b_SS_shares 10 = .ok (.aload_n 0, 1) := by decide +kernel
theorem d_SS_shares_11 : decode b_SS_shares 11 = .ok (.getfield 15, 3) := by decide +kernel
theorem d_SS_shares_14 : decode b_SS_shares 14 = .ok (.iload_n 1, 1) := by decide +kernel
theorem d_SS_shares_15 : decode b_SS_shares 15 = .ok (.laload, 1) := by decide +kernel
theorem d_SS_shares_16 : decode b_SS_shares 16 = .ok (.lload 5, 2) := by decide +kernel
theorem d_SS_shares_18 : decode b_SS_shares 18 = .ok (.lcmp, 1) := by decide +kernel
theorem d_SS_shares_19 : decode b_SS_shares 19 = .ok (.ifCond .ge 18, 3) := by decide +kernel
theorem d_SS_shares_22 : decode b_SS_shares 22 = .ok (.lload_n 3, 1) := by decide +kernel
theorem d_SS_shares_23 : decode b_SS_shares 23 = .ok (.aload_n 0, 1) := by decide +kernel
theorem d_SS_shares_24 : decode b_SS_shares 24 = .ok (.getfield 19, 3) := by decide +kernel
theorem d_SS_shares_27 : decode b_SS_shares 27 = .ok (.iload_n 1, 1) := by decide +kernel
theorem d_SS_shares_28 : decode b_SS_shares 28 = .ok (.laload, 1) := by decide +kernel
theorem d_SS_shares_29 : decode b_SS_shares 29 = .ok (.lcmp, 1) := by decide +kernel
theorem d_SS_shares_30 : decode b_SS_shares 30 = .ok (.ifCond .ge 7, 3) := by decide +kernel
theorem d_SS_shares_33 : decode b_SS_shares 33 = .ok (.iconst 1, 1) := by decide +kernel
theorem d_SS_shares_34 : decode b_SS_shares 34 = .ok (.goto 4, 3) := by decide +kernel
theorem d_SS_shares_37 : decode b_SS_shares 37 = .ok (.iconst 0, 1) := by decide +kernel
theorem d_SS_shares_38 : decode b_SS_shares 38 = .ok (.ireturn, 1) := by decide +kernel
theorem d_SS_joinedEnd_0 : decode b_SS_joinedEnd 0 = .ok (.lload 4, 2) := by decide +kernel
theorem d_SS_joinedEnd_2 : decode b_SS_joinedEnd 2 = .ok (.lstore 6, 2) := by decide +kernel
theorem d_SS_joinedEnd_4 : decode b_SS_joinedEnd 4 = .ok (.iconst 0, 1) := by decide +kernel
theorem d_SS_joinedEnd_5 : decode b_SS_joinedEnd 5 = .ok (.istore 8, 2) := by decide +kernel
theorem d_SS_joinedEnd_7 : decode b_SS_joinedEnd 7 = .ok (.iload 8, 2) := by decide +kernel
theorem d_SS_joinedEnd_9 : decode b_SS_joinedEnd 9 = .ok (.aload_n 0, 1) := by decide +kernel
theorem d_SS_joinedEnd_10 : decode b_SS_joinedEnd 10 = .ok (.getfield 47, 3) := by decide +kernel
theorem d_SS_joinedEnd_13 : decode b_SS_joinedEnd 13 = .ok (.if_icmp .ge 45, 3) := by decide +kernel
theorem d_SS_joinedEnd_16 : decode b_SS_joinedEnd 16 = .ok (.aload_n 0, 1) := by decide +kernel
theorem d_SS_joinedEnd_17 : decode b_SS_joinedEnd 17 = .ok (.getfield 44, 3) := by decide +kernel
theorem d_SS_joinedEnd_20 : decode b_SS_joinedEnd 20 = .ok (.iload 8, 2) := by decide +kernel
theorem d_SS_joinedEnd_22 : decode b_SS_joinedEnd 22 = .ok (.iaload, 1) := by decide +kernel
theorem d_SS_joinedEnd_23 : decode b_SS_joinedEnd 23 = .ok (.istore 9, 2) := by decide +kernel
theorem d_SS_joinedEnd_25 : decode b_SS_joinedEnd 25 = .ok (.aload_n 0, 1) := by decide +kernel
theorem d_SS_joinedEnd_26 : decode b_SS_joinedEnd 26 = .ok (.iload 9, 2) := by decide +kernel
theorem d_SS_joinedEnd_28 : decode b_SS_joinedEnd 28 = .ok (.iload_n 1, 1) := by decide +kernel
theorem d_SS_joinedEnd_29 : decode b_SS_joinedEnd 29 = .ok (.lload_n 2, 1) := by decide +kernel
theorem d_SS_joinedEnd_30 : decode b_SS_joinedEnd 30 = .ok (.lload 4, 2) := by decide +kernel
theorem d_SS_joinedEnd_32 : decode b_SS_joinedEnd 32 = .ok (.invokevirtual 55, 3) := by decide +kernel
theorem d_SS_joinedEnd_35 : decode b_SS_joinedEnd 35 = .ok (.ifCond .eq 17, 3) := by decide +kernel
theorem d_SS_joinedEnd_38 : decode b_SS_joinedEnd 38 = .ok (.lload 6, 2) := by decide +kernel
theorem d_SS_joinedEnd_40 : decode b_SS_joinedEnd 40 = .ok (.aload_n 0, 1) := by decide +kernel
theorem d_SS_joinedEnd_41 : decode b_SS_joinedEnd 41 = .ok (.getfield 19, 3) := by decide +kernel
theorem d_SS_joinedEnd_44 : decode b_SS_joinedEnd 44 = .ok (.iload 9, 2) := by decide +kernel
theorem d_SS_joinedEnd_46 : decode b_SS_joinedEnd 46 = .ok (.laload, 1) := by decide +kernel
theorem d_SS_joinedEnd_47 : decode b_SS_joinedEnd 47 = .ok (.invokestatic 59, 3) := by decide +kernel
theorem d_SS_joinedEnd_50 : decode b_SS_joinedEnd 50 = .ok (.lstore 6, 2) := by decide +kernel
theorem d_SS_joinedEnd_52 : decode b_SS_joinedEnd 52 = .ok (.iinc 8 1, 3) := by decide +kernel
theorem d_SS_joinedEnd_55 : decode b_SS_joinedEnd 55 = .ok (.goto (-48), 3) := by decide +kernel
theorem d_SS_joinedEnd_58 : decode b_SS_joinedEnd 58 = .ok (.lload 6, 2) := by decide +kernel
theorem d_SS_joinedEnd_60 : decode b_SS_joinedEnd 60 = .ok (.lreturn, 1) := by decide +kernel
theorem d_SS_sharing_0 : decode b_SS_sharing 0 = .ok (.iconst 0, 1) := by decide +kernel
theorem d_SS_sharing_1 : decode b_SS_sharing 1 = .ok (.istore 6, 2) := by decide +kernel
theorem d_SS_sharing_3 : decode b_SS_sharing 3 = .ok (.iconst 0, 1) := by decide +kernel
theorem d_SS_sharing_4 : decode b_SS_sharing 4 = .ok (.istore 7, 2) := by decide +kernel
theorem d_SS_sharing_6 : decode b_SS_sharing 6 = .ok (.iload 7, 2) := by decide +kernel
theorem d_SS_sharing_8 : decode b_SS_sharing 8 = .ok (.aload_n 0, 1) := by decide +kernel
theorem d_SS_sharing_9 : decode b_SS_sharing 9 = .ok (.getfield 47, 3) := by decide +kernel
theorem d_SS_sharing_12 : decode b_SS_sharing 12 = .ok (.if_icmp .ge 30, 3) := by decide +kernel
theorem d_SS_sharing_15 : decode b_SS_sharing 15 = .ok (.aload_n 0, 1) := by decide +kernel
theorem d_SS_sharing_16 : decode b_SS_sharing 16 = .ok (.aload_n 0, 1) := by decide +kernel
theorem d_SS_sharing_17 : decode b_SS_sharing 17 = .ok (.getfield 44, 3) := by decide +kernel
theorem d_SS_sharing_20 : decode b_SS_sharing 20 = .ok (.iload 7, 2) := by decide +kernel
theorem d_SS_sharing_22 : decode b_SS_sharing 22 = .ok (.iaload, 1) := by decide +kernel
theorem d_SS_sharing_23 : decode b_SS_sharing 23 = .ok (.iload_n 1, 1) := by decide +kernel
theorem d_SS_sharing_24 : decode b_SS_sharing 24 = .ok (.lload_n 2, 1) := by decide +kernel
theorem d_SS_sharing_25 : decode b_SS_sharing 25 = .ok (.lload 4, 2) := by decide +kernel
theorem d_SS_sharing_27 : decode b_SS_sharing 27 = .ok (.invokevirtual 55, 3) := by decide +kernel
theorem d_SS_sharing_30 : decode b_SS_sharing 30 = .ok (.ifCond .eq 6, 3) := by decide +kernel
theorem d_SS_sharing_33 : decode b_SS_sharing 33 = .ok (.iinc 6 1, 3) := by decide +kernel
theorem d_SS_sharing_36 : decode b_SS_sharing 36 = .ok (.iinc 7 1, 3) := by decide +kernel
theorem d_SS_sharing_39 : decode b_SS_sharing 39 = .ok (.goto (-33), 3) := by decide +kernel
theorem d_SS_sharing_42 : decode b_SS_sharing 42 = .ok (.iload 6, 2) := by decide +kernel
theorem d_SS_sharing_44 : decode b_SS_sharing 44 = .ok (.ireturn, 1) := by decide +kernel
theorem d_SS_absorb_0 : decode b_SS_absorb 0 = .ok (.aload_n 0, 1) := by decide +kernel
theorem d_SS_absorb_1 : decode b_SS_absorb 1 = .ok (.getfield 19, 3) := by decide +kernel
theorem d_SS_absorb_4 : decode b_SS_absorb 4 = .ok (.iload_n 1, 1) := by decide +kernel
theorem d_SS_absorb_5 : decode b_SS_absorb 5 = .ok (.aload_n 0, 1) := by decide +kernel
theorem d_SS_absorb_6 : decode b_SS_absorb 6 = .ok (.getfield 19, 3) := by decide +kernel
theorem d_SS_absorb_9 : decode b_SS_absorb 9 = .ok (.iload_n 1, 1) := by decide +kernel
theorem d_SS_absorb_10 : decode b_SS_absorb 10 = .ok (.laload, 1) := by decide +kernel
theorem d_SS_absorb_11 : decode b_SS_absorb 11 = .ok (.aload_n 0, 1) := by decide +kernel
theorem d_SS_absorb_12 : decode b_SS_absorb 12 = .ok (.getfield 19, 3) := by decide +kernel
theorem d_SS_absorb_15 : decode b_SS_absorb 15 = .ok (.iload_n 2, 1) := by decide +kernel
theorem d_SS_absorb_16 : decode b_SS_absorb 16 = .ok (.laload, 1) := by decide +kernel
theorem d_SS_absorb_17 : decode b_SS_absorb 17 = .ok (.invokestatic 59, 3) := by decide +kernel
theorem d_SS_absorb_20 : decode b_SS_absorb 20 = .ok (.lastore, 1) := by decide +kernel
theorem d_SS_absorb_21 : decode b_SS_absorb 21 = .ok (.aload_n 0, 1) := by decide +kernel
theorem d_SS_absorb_22 : decode b_SS_absorb 22 = .ok (.getfield 22, 3) := by decide +kernel
theorem d_SS_absorb_25 : decode b_SS_absorb 25 = .ok (.iload_n 1, 1) := by decide +kernel
theorem d_SS_absorb_26 : decode b_SS_absorb 26 = .ok (.aload_n 0, 1) := by decide +kernel
theorem d_SS_absorb_27 : decode b_SS_absorb 27 = .ok (.getfield 22, 3) := by decide +kernel
theorem d_SS_absorb_30 : decode b_SS_absorb 30 = .ok (.iload_n 1, 1) := by decide +kernel
theorem d_SS_absorb_31 : decode b_SS_absorb 31 = .ok (.iaload, 1) := by decide +kernel
theorem d_SS_absorb_32 : decode b_SS_absorb 32 = .ok (.aload_n 0, 1) := by decide +kernel
theorem d_SS_absorb_33 : decode b_SS_absorb 33 = .ok (.getfield 22, 3) := by decide +kernel
theorem d_SS_absorb_36 : decode b_SS_absorb 36 = .ok (.iload_n 2, 1) := by decide +kernel
theorem d_SS_absorb_37 : decode b_SS_absorb 37 = .ok (.iaload, 1) := by decide +kernel
theorem d_SS_absorb_38 : decode b_SS_absorb 38 = .ok (.invokestatic 79, 3) := by decide +kernel
theorem d_SS_absorb_41 : decode b_SS_absorb 41 = .ok (.iastore, 1) := by decide +kernel
theorem d_SS_absorb_42 : decode b_SS_absorb 42 = .ok (.aload_n 0, 1) := by decide +kernel
theorem d_SS_absorb_43 : decode b_SS_absorb 43 = .ok (.getfield 25, 3) := by decide +kernel
theorem d_SS_absorb_46 : decode b_SS_absorb 46 = .ok (.iload_n 1, 1) := by decide +kernel
theorem d_SS_absorb_47 : decode b_SS_absorb 47 = .ok (.dup2, 1) := by decide +kernel
theorem d_SS_absorb_48 : decode b_SS_absorb 48 = .ok (.iaload, 1) := by decide +kernel
theorem d_SS_absorb_49 : decode b_SS_absorb 49 = .ok (.aload_n 0, 1) := by decide +kernel
theorem d_SS_absorb_50 : decode b_SS_absorb 50 = .ok (.getfield 25, 3) := by decide +kernel
theorem d_SS_absorb_53 : decode b_SS_absorb 53 = .ok (.iload_n 2, 1) := by decide +kernel
theorem d_SS_absorb_54 : decode b_SS_absorb 54 = .ok (.iaload, 1) := by decide +kernel
theorem d_SS_absorb_55 : decode b_SS_absorb 55 = .ok (.iadd, 1) := by decide +kernel
theorem d_SS_absorb_56 : decode b_SS_absorb 56 = .ok (.iastore, 1) := by decide +kernel
theorem d_SS_absorb_57 : decode b_SS_absorb 57 = .ok (.aload_n 0, 1) := by decide +kernel
theorem d_SS_absorb_58 : decode b_SS_absorb 58 = .ok (.getfield 28, 3) := by decide +kernel
theorem d_SS_absorb_61 : decode b_SS_absorb 61 = .ok (.iload_n 1, 1) := by decide +kernel
theorem d_SS_absorb_62 : decode b_SS_absorb 62 = .ok (.aload_n 0, 1) := by decide +kernel
theorem d_SS_absorb_63 : decode b_SS_absorb 63 = .ok (.getfield 28, 3) := by decide +kernel
theorem d_SS_absorb_66 : decode b_SS_absorb 66 = .ok (.iload_n 1, 1) := by decide +kernel
theorem d_SS_absorb_67 : decode b_SS_absorb 67 = .ok (.baload, 1) := by decide +kernel
theorem d_SS_absorb_68 : decode b_SS_absorb 68 = .ok (.ifCond .ne 12, 3) := by decide +kernel
theorem d_SS_absorb_71 : decode b_SS_absorb 71 = .ok (.aload_n 0, 1) := by decide +kernel
theorem d_SS_absorb_72 : decode b_SS_absorb 72 = .ok (.getfield 28, 3) := by decide +kernel
theorem d_SS_absorb_75 : decode b_SS_absorb 75 = .ok (.iload_n 2, 1) := by decide +kernel
theorem d_SS_absorb_76 : decode b_SS_absorb 76 = .ok (.baload, 1) := by decide +kernel
theorem d_SS_absorb_77 : decode b_SS_absorb 77 = .ok (.ifCond .eq 7, 3) := by decide +kernel
theorem d_SS_absorb_80 : decode b_SS_absorb 80 = .ok (.iconst 1, 1) := by decide +kernel
theorem d_SS_absorb_81 : decode b_SS_absorb 81 = .ok (.goto 4, 3) := by decide +kernel
theorem d_SS_absorb_84 : decode b_SS_absorb 84 = .ok (.iconst 0, 1) := by decide +kernel
theorem d_SS_absorb_85 : decode b_SS_absorb 85 = .ok (.bastore, 1) := by decide +kernel
theorem d_SS_absorb_86 : decode b_SS_absorb 86 = .ok (.iconst 0, 1) := by decide +kernel
theorem d_SS_absorb_87 : decode b_SS_absorb 87 = .ok (.istore_n 3, 1) := by decide +kernel
theorem d_SS_absorb_88 : decode b_SS_absorb 88 = .ok (.iload_n 3, 1) := by decide +kernel
theorem d_SS_absorb_89 : decode b_SS_absorb 89 = .ok (.iconst 5, 1) := by decide +kernel
theorem d_SS_absorb_90 : decode b_SS_absorb 90 = .ok (.if_icmp .ge 55, 3) := by decide +kernel
theorem d_SS_absorb_93 : decode b_SS_absorb 93 = .ok (.aload_n 0, 1) := by decide +kernel
theorem d_SS_absorb_94 : decode b_SS_absorb 94 = .ok (.getfield 32, 3) := by decide +kernel
theorem d_SS_absorb_97 : decode b_SS_absorb 97 = .ok (.iload_n 1, 1) := by decide +kernel
theorem d_SS_absorb_98 : decode b_SS_absorb 98 = .ok (.iconst 5, 1) := by decide +kernel
theorem d_SS_absorb_99 : decode b_SS_absorb 99 = .ok (.imul, 1) := by decide +kernel
theorem d_SS_absorb_100 : decode b_SS_absorb 100 = .ok (.iload_n 3, 1) := by decide +kernel
theorem d_SS_absorb_101 : decode b_SS_absorb 101 = .ok (.iadd, 1) := by decide +kernel
theorem d_SS_absorb_102 : decode b_SS_absorb 102 = .ok (.dup2, 1) := by decide +kernel
theorem d_SS_absorb_103 : decode b_SS_absorb 103 = .ok (.laload, 1) := by decide +kernel
theorem d_SS_absorb_104 : decode b_SS_absorb 104 = .ok (.aload_n 0, 1) := by decide +kernel
theorem d_SS_absorb_105 : decode b_SS_absorb 105 = .ok (.getfield 32, 3) := by decide +kernel
theorem d_SS_absorb_108 : decode b_SS_absorb 108 = .ok (.iload_n 2, 1) := by decide +kernel
theorem d_SS_absorb_109 : decode b_SS_absorb 109 = .ok (.iconst 5, 1) := by decide +kernel
theorem d_SS_absorb_110 : decode b_SS_absorb 110 = .ok (.imul, 1) := by decide +kernel
theorem d_SS_absorb_111 : decode b_SS_absorb 111 = .ok (.iload_n 3, 1) := by decide +kernel
theorem d_SS_absorb_112 : decode b_SS_absorb 112 = .ok (.iadd, 1) := by decide +kernel
theorem d_SS_absorb_113 : decode b_SS_absorb 113 = .ok (.laload, 1) := by decide +kernel
theorem d_SS_absorb_114 : decode b_SS_absorb 114 = .ok (.lor, 1) := by decide +kernel
theorem d_SS_absorb_115 : decode b_SS_absorb 115 = .ok (.lastore, 1) := by decide +kernel
theorem d_SS_absorb_116 : decode b_SS_absorb 116 = .ok (.aload_n 0, 1) := by decide +kernel
theorem d_SS_absorb_117 : decode b_SS_absorb 117 = .ok (.getfield 35, 3) := by decide +kernel
theorem d_SS_absorb_120 : decode b_SS_absorb 120 = .ok (.iload_n 1, 1) := by decide +kernel
theorem d_SS_absorb_121 : decode b_SS_absorb 121 = .ok (.iconst 5, 1) := by decide +kernel
theorem d_SS_absorb_122 : decode b_SS_absorb 122 = .ok (.imul, 1) := by decide +kernel
theorem d_SS_absorb_123 : decode b_SS_absorb 123 = .ok (.iload_n 3, 1) := by decide +kernel
theorem d_SS_absorb_124 : decode b_SS_absorb 124 = .ok (.iadd, 1) := by decide +kernel
theorem d_SS_absorb_125 : decode b_SS_absorb 125 = .ok (.dup2, 1) := by decide +kernel
theorem d_SS_absorb_126 : decode b_SS_absorb 126 = .ok (.laload, 1) := by decide +kernel
theorem d_SS_absorb_127 : decode b_SS_absorb 127 = .ok (.aload_n 0, 1) := by decide +kernel
theorem d_SS_absorb_128 : decode b_SS_absorb 128 = .ok (.getfield 35, 3) := by decide +kernel
theorem d_SS_absorb_131 : decode b_SS_absorb 131 = .ok (.iload_n 2, 1) := by decide +kernel
theorem d_SS_absorb_132 : decode b_SS_absorb 132 = .ok (.iconst 5, 1) := by decide +kernel
theorem d_SS_absorb_133 : decode b_SS_absorb 133 = .ok (.imul, 1) := by decide +kernel
theorem d_SS_absorb_134 : decode b_SS_absorb 134 = .ok (.iload_n 3, 1) := by decide +kernel
theorem d_SS_absorb_135 : decode b_SS_absorb 135 = .ok (.iadd, 1) := by decide +kernel
theorem d_SS_absorb_136 : decode b_SS_absorb 136 = .ok (.laload, 1) := by decide +kernel
theorem d_SS_absorb_137 : decode b_SS_absorb 137 = .ok (.lor, 1) := by decide +kernel
theorem d_SS_absorb_138 : decode b_SS_absorb 138 = .ok (.lastore, 1) := by decide +kernel
theorem d_SS_absorb_139 : decode b_SS_absorb 139 = .ok (.iinc 3 1, 3) := by decide +kernel
theorem d_SS_absorb_142 : decode b_SS_absorb 142 = .ok (.goto (-54), 3) := by decide +kernel
theorem d_SS_absorb_145 : decode b_SS_absorb 145 = .ok (.aload_n 0, 1) := by decide +kernel
theorem d_SS_absorb_146 : decode b_SS_absorb 146 = .ok (.getfield 9, 3) := by decide +kernel
theorem d_SS_absorb_149 : decode b_SS_absorb 149 = .ok (.iload_n 2, 1) := by decide +kernel
theorem d_SS_absorb_150 : decode b_SS_absorb 150 = .ok (.iconst (-1), 1) := by decide +kernel
theorem d_SS_absorb_151 : decode b_SS_absorb 151 = .ok (.iastore, 1) := by decide +kernel
theorem d_SS_absorb_152 : decode b_SS_absorb 152 = .ok (.return_, 1) := by decide +kernel
theorem d_SS_isBehind_0 : decode b_SS_isBehind 0 = .ok (.aload_n 0, 1) := by decide +kernel
theorem d_SS_isBehind_1 : decode b_SS_isBehind 1 = .ok (.getfield 9, 3) := by decide +kernel
theorem d_SS_isBehind_4 : decode b_SS_isBehind 4 = .ok (.iload_n 1, 1) := by decide +kernel
theorem d_SS_isBehind_5 : decode b_SS_isBehind 5 = .ok (.iaload, 1) := by decide +kernel
theorem d_SS_isBehind_6 : decode b_SS_isBehind 6 = .ok (.aload_n 0, 1) := by decide +kernel
theorem d_SS_isBehind_7 : decode b_SS_isBehind 7 = .ok (.getfield 9, 3) := by decide +kernel
theorem d_SS_isBehind_10 : decode b_SS_isBehind 10 = .ok (.iload_n 2, 1) := by decide +kernel
theorem d_SS_isBehind_11 : decode b_SS_isBehind 11 = .ok (.iaload, 1) := by decide +kernel
theorem d_SS_isBehind_12 : decode b_SS_isBehind 12 = .ok (.if_icmp .eq 24, 3) := by decide +kernel
theorem d_SS_isBehind_15 : decode b_SS_isBehind 15 = .ok (.aload_n 0, 1) := by decide +kernel
theorem d_SS_isBehind_16 : decode b_SS_isBehind 16 = .ok (.getfield 9, 3) := by decide +kernel
theorem d_SS_isBehind_19 : decode b_SS_isBehind 19 = .ok (.iload_n 1, 1) := by decide +kernel
theorem d_SS_isBehind_20 : decode b_SS_isBehind 20 = .ok (.iaload, 1) := by decide +kernel
theorem d_SS_isBehind_21 : decode b_SS_isBehind 21 = .ok (.aload_n 0, 1) := by decide +kernel
theorem d_SS_isBehind_22 : decode b_SS_isBehind 22 = .ok (.getfield 9, 3) := by decide +kernel
theorem d_SS_isBehind_25 : decode b_SS_isBehind 25 = .ok (.iload_n 2, 1) := by decide +kernel
theorem d_SS_isBehind_26 : decode b_SS_isBehind 26 = .ok (.iaload, 1) := by decide +kernel
theorem d_SS_isBehind_27 : decode b_SS_isBehind 27 = .ok (.if_icmp .le 7, 3) := by decide +kernel
theorem d_SS_isBehind_30 : decode b_SS_isBehind 30 = .ok (.iconst 1, 1) := by decide +kernel
theorem d_SS_isBehind_31 : decode b_SS_isBehind 31 = .ok (.goto 4, 3) := by decide +kernel
theorem d_SS_isBehind_34 : decode b_SS_isBehind 34 = .ok (.iconst 0, 1) := by decide +kernel
theorem d_SS_isBehind_35 : decode b_SS_isBehind 35 = .ok (.ireturn, 1) := by decide +kernel
theorem d_SS_isBehind_36 : decode b_SS_isBehind 36 = .ok (.aload_n 0, 1) := by decide +kernel
theorem d_SS_isBehind_37 : decode b_SS_isBehind 37 = .ok (.getfield 15, 3) := by decide +kernel
theorem d_SS_isBehind_40 : decode b_SS_isBehind 40 = .ok (.iload_n 1, 1) := by decide +kernel
theorem d_SS_isBehind_41 : decode b_SS_isBehind 41 = .ok (.laload, 1) := by decide +kernel
theorem d_SS_isBehind_42 : decode b_SS_isBehind 42 = .ok (.aload_n 0, 1) := by decide +kernel
theorem d_SS_isBehind_43 : decode b_SS_isBehind 43 = .ok (.getfield 15, 3) := by decide +kernel
theorem d_SS_isBehind_46 : decode b_SS_isBehind 46 = .ok (.iload_n 2, 1) := by decide +kernel
theorem d_SS_isBehind_47 : decode b_SS_isBehind 47 = .ok (.laload, 1) := by decide +kernel
theorem d_SS_isBehind_48 : decode b_SS_isBehind 48 = .ok (.lcmp, 1) := by decide +kernel
theorem d_SS_isBehind_49 : decode b_SS_isBehind 49 = .ok (.ifCond .eq 27, 3) := by decide +kernel
theorem d_SS_isBehind_52 : decode b_SS_isBehind 52 = .ok (.aload_n 0, 1) := by decide +kernel
theorem d_SS_isBehind_53 : decode b_SS_isBehind 53 = .ok (.getfield 15, 3) := by decide +kernel
theorem d_SS_isBehind_56 : decode b_SS_isBehind 56 = .ok (.iload_n 1, 1) := by decide +kernel
theorem d_SS_isBehind_57 : decode b_SS_isBehind 57 = .ok (.laload, 1) := by decide +kernel
theorem d_SS_isBehind_58 : decode b_SS_isBehind 58 = .ok (.aload_n 0, 1) := by decide +kernel
theorem d_SS_isBehind_59 : decode b_SS_isBehind 59 = .ok (.getfield 15, 3) := by decide +kernel
theorem d_SS_isBehind_62 : decode b_SS_isBehind 62 = .ok (.iload_n 2, 1) := by decide +kernel
theorem d_SS_isBehind_63 : decode b_SS_isBehind 63 = .ok (.laload, 1) := by decide +kernel
theorem d_SS_isBehind_64 : decode b_SS_isBehind 64 = .ok (.lcmp, 1) := by decide +kernel
theorem d_SS_isBehind_65 : decode b_SS_isBehind 65 = .ok (.ifCond .le 7, 3) := by decide +kernel
theorem d_SS_isBehind_68 : decode b_SS_isBehind 68 = .ok (.iconst 1, 1) := by decide +kernel
theorem d_SS_isBehind_69 : decode b_SS_isBehind 69 = .ok (.goto 28, 3) := by decide +kernel
theorem d_SS_isBehind_72 : decode b_SS_isBehind 72 = .ok (.iconst 0, 1) := by decide +kernel
theorem d_SS_isBehind_73 : decode b_SS_isBehind 73 = .ok (.goto 24, 3) := by decide +kernel
theorem d_SS_isBehind_76 : decode b_SS_isBehind 76 = .ok (.aload_n 0, 1) := by decide +kernel
theorem d_SS_isBehind_77 : decode b_SS_isBehind 77 = .ok (.getfield 19, 3) := by decide +kernel
theorem d_SS_isBehind_80 : decode b_SS_isBehind 80 = .ok (.iload_n 1, 1) := by decide +kernel
theorem d_SS_isBehind_81 : decode b_SS_isBehind 81 = .ok (.laload, 1) := by decide +kernel
theorem d_SS_isBehind_82 : decode b_SS_isBehind 82 = .ok (.aload_n 0, 1) := by decide +kernel
theorem d_SS_isBehind_83 : decode b_SS_isBehind 83 = .ok (.getfield 19, 3) := by decide +kernel
theorem d_SS_isBehind_86 : decode b_SS_isBehind 86 = .ok (.iload_n 2, 1) := by decide +kernel
theorem d_SS_isBehind_87 : decode b_SS_isBehind 87 = .ok (.laload, 1) := by decide +kernel
theorem d_SS_isBehind_88 : decode b_SS_isBehind 88 = .ok (.lcmp, 1) := by decide +kernel
theorem d_SS_isBehind_89 : decode b_SS_isBehind 89 = .ok (.ifCond .le 7, 3) := by decide +kernel
theorem d_SS_isBehind_92 : decode b_SS_isBehind 92 = .ok (.iconst 1, 1) := by decide +kernel
theorem d_SS_isBehind_93 : decode b_SS_isBehind 93 = .ok (.goto 4, 3) := by decide +kernel
theorem d_SS_isBehind_96 : decode b_SS_isBehind 96 = .ok (.iconst 0, 1) := by decide +kernel
theorem d_SS_isBehind_97 : decode b_SS_isBehind 97 = .ok (.ireturn, 1) := by decide +kernel
theorem d_SS_add_0 : decode b_SS_add 0 = .ok (.aload_n 0, 1) := by decide +kernel
theorem d_SS_add_1 : decode b_SS_add 1 = .ok (.getfield 44, 3) := by decide +kernel
theorem d_SS_add_4 : decode b_SS_add 4 = .ok (.aload_n 0, 1) := by decide +kernel
theorem d_SS_add_5 : decode b_SS_add 5 = .ok (.getfield 47, 3) := by decide +kernel
theorem d_SS_add_8 : decode b_SS_add 8 = .ok (.iaload, 1) := by decide +kernel
theorem d_SS_add_9 : decode b_SS_add 9 = .ok (.istore 6, 2) := by decide +kernel
theorem d_SS_add_11 : decode b_SS_add 11 = .ok (.aload_n 0, 1) := by decide +kernel
theorem d_SS_add_12 : decode b_SS_add 12 = .ok (.getfield 9, 3) := by decide +kernel
theorem d_SS_add_15 : decode b_SS_add 15 = .ok (.iload 6, 2) := by decide +kernel
theorem d_SS_add_17 : decode b_SS_add 17 = .ok (.iload_n 1, 1) := by decide +kernel
theorem d_SS_add_18 : decode b_SS_add 18 = .ok (.iastore, 1) := by decide +kernel
theorem d_SS_add_19 : decode b_SS_add 19 = .ok (.aload_n 0, 1) := by decide +kernel
theorem d_SS_add_20 : decode b_SS_add 20 = .ok (.getfield 15, 3) := by decide +kernel
theorem d_SS_add_23 : decode b_SS_add 23 = .ok (.iload 6, 2) := by decide +kernel
theorem d_SS_add_25 : decode b_SS_add 25 = .ok (.lload_n 2, 1) := by decide +kernel
theorem d_SS_add_26 : decode b_SS_add 26 = .ok (.lastore, 1) := by decide +kernel
theorem d_SS_add_27 : decode b_SS_add 27 = .ok (.aload_n 0, 1) := by decide +kernel
theorem d_SS_add_28 : decode b_SS_add 28 = .ok (.getfield 19, 3) := by decide +kernel
theorem d_SS_add_31 : decode b_SS_add 31 = .ok (.iload 6, 2) := by decide +kernel
theorem d_SS_add_33 : decode b_SS_add 33 = .ok (.lload 4, 2) := by decide +kernel
theorem d_SS_add_35 : decode b_SS_add 35 = .ok (.lastore, 1) := by decide +kernel
theorem d_SS_add_36 : decode b_SS_add 36 = .ok (.aload_n 0, 1) := by decide +kernel
