set_option maxRecDepth 100000 in
theorem dX6_init_k0 : (decode cX6_init 0 = .ok (.aload_n 0, 1)) ∧ (decode cX6_init 1 = .ok (.invokespecial 3, 3)) ∧ (decode cX6_init 4 = .ok (.aload_n 0, 1)) ∧ (decode cX6_init 5 = .ok (.bipush 6, 2)) ∧ (decode cX6_init 7 = .ok (.newarray .long, 2)) ∧ (decode cX6_init 9 = .ok (.putfield 9, 3)) := by decide +kernel
theorem dX6_init_0 : decode cX6_init 0 = .ok (.aload_n 0, 1) := dX6_init_k0.1
theorem dX6_init_1 : decode cX6_init 1 = .ok (.invokespecial 3, 3) := dX6_init_k0.2.1
theorem dX6_init_4 : decode cX6_init 4 = .ok (.aload_n 0, 1) := dX6_init_k0.2.2.1
theorem dX6_init_5 : decode cX6_init 5 = .ok (.bipush 6, 2) := dX6_init_k0.2.2.2.1
theorem dX6_init_7 : decode cX6_init 7 = .ok (.newarray .long, 2) := dX6_init_k0.2.2.2.2.1
theorem dX6_init_9 : decode cX6_init 9 = .ok (.putfield 9, 3) := dX6_init_k0.2.2.2.2.2
set_option maxRecDepth 100000 in
theorem dX6_init_k1 : (decode cX6_init 12 = .ok (.aload_n 0, 1)) ∧ (decode cX6_init 13 = .ok (.bipush 6, 2)) ∧ (decode cX6_init 15 = .ok (.newarray .long, 2)) ∧ (decode cX6_init 17 = .ok (.putfield 15, 3)) ∧ (decode cX6_init 20 = .ok (.return_, 1)) := by decide +kernel
theorem dX6_init_12 : decode cX6_init 12 = .ok (.aload_n 0, 1) := dX6_init_k1.1
theorem dX6_init_13 : decode cX6_init 13 = .ok (.bipush 6, 2) := dX6_init_k1.2.1
theorem dX6_init_15 : decode cX6_init 15 = .ok (.newarray .long, 2) := dX6_init_k1.2.2.1
theorem dX6_init_17 : decode cX6_init 17 = .ok (.putfield 15, 3) := dX6_init_k1.2.2.2.1
theorem dX6_init_20 : decode cX6_init 20 = .ok (.return_, 1) := dX6_init_k1.2.2.2.2
set_option maxRecDepth 100000 in
theorem dX6_walk_k2 : (decode cX6_walk 0 = .ok (.aload_n 0, 1)) ∧ (decode cX6_walk 1 = .ok (.getfield 9, 3)) ∧ (decode cX6_walk 4 = .ok (.lconst 0, 1)) ∧ (decode cX6_walk 5 = .ok (.invokestatic 18, 3)) ∧ (decode cX6_walk 8 = .ok (.aload_n 0, 1)) ∧ (decode cX6_walk 9 = .ok (.getfield 9, 3)) := by decide +kernel
theorem dX6_walk_0 : decode cX6_walk 0 = .ok (.aload_n 0, 1) := dX6_walk_k2.1
theorem dX6_walk_1 : decode cX6_walk 1 = .ok (.getfield 9, 3) := dX6_walk_k2.2.1
theorem dX6_walk_4 : decode cX6_walk 4 = .ok (.lconst 0, 1) := dX6_walk_k2.2.2.1
theorem dX6_walk_5 : decode cX6_walk 5 = .ok (.invokestatic 18, 3) := dX6_walk_k2.2.2.2.1
theorem dX6_walk_8 : decode cX6_walk 8 = .ok (.aload_n 0, 1) := dX6_walk_k2.2.2.2.2.1
theorem dX6_walk_9 : decode cX6_walk 9 = .ok (.getfield 9, 3) := dX6_walk_k2.2.2.2.2.2
set_option maxRecDepth 100000 in
theorem dX6_walk_k3 : (decode cX6_walk 12 = .ok (.aload_n 1, 1)) ∧ (decode cX6_walk 13 = .ok (.getfield 24, 3)) ∧ (decode cX6_walk 16 = .ok (.iload_n 2, 1)) ∧ (decode cX6_walk 17 = .ok (.iaload, 1)) ∧ (decode cX6_walk 18 = .ok (.lconst 1, 1)) ∧ (decode cX6_walk 19 = .ok (.lastore, 1)) := by decide +kernel
theorem dX6_walk_12 : decode cX6_walk 12 = .ok (.aload_n 1, 1) := dX6_walk_k3.1
theorem dX6_walk_13 : decode cX6_walk 13 = .ok (.getfield 24, 3) := dX6_walk_k3.2.1
theorem dX6_walk_16 : decode cX6_walk 16 = .ok (.iload_n 2, 1) := dX6_walk_k3.2.2.1
theorem dX6_walk_17 : decode cX6_walk 17 = .ok (.iaload, 1) := dX6_walk_k3.2.2.2.1
theorem dX6_walk_18 : decode cX6_walk 18 = .ok (.lconst 1, 1) := dX6_walk_k3.2.2.2.2.1
theorem dX6_walk_19 : decode cX6_walk 19 = .ok (.lastore, 1) := dX6_walk_k3.2.2.2.2.2
set_option maxRecDepth 100000 in
theorem dX6_walk_k4 : (decode cX6_walk 20 = .ok (.aload_n 0, 1)) ∧ (decode cX6_walk 21 = .ok (.lconst 1, 1)) ∧ (decode cX6_walk 22 = .ok (.putfield 30, 3)) ∧ (decode cX6_walk 25 = .ok (.iconst 0, 1)) ∧ (decode cX6_walk 26 = .ok (.istore 5, 2)) ∧ (decode cX6_walk 28 = .ok (.iload 5, 2)) := by decide +kernel
theorem dX6_walk_20 : decode cX6_walk 20 = .ok (.aload_n 0, 1) := dX6_walk_k4.1
theorem dX6_walk_21 : decode cX6_walk 21 = .ok (.lconst 1, 1) := dX6_walk_k4.2.1
theorem dX6_walk_22 : decode cX6_walk 22 = .ok (.putfield 30, 3) := dX6_walk_k4.2.2.1
theorem dX6_walk_25 : decode cX6_walk 25 = .ok (.iconst 0, 1) := dX6_walk_k4.2.2.2.1
theorem dX6_walk_26 : decode cX6_walk 26 = .ok (.istore 5, 2) := dX6_walk_k4.2.2.2.2.1
theorem dX6_walk_28 : decode cX6_walk 28 = .ok (.iload 5, 2) := dX6_walk_k4.2.2.2.2.2
set_option maxRecDepth 100000 in
theorem dX6_walk_k5 : (decode cX6_walk 30 = .ok (.iload 4, 2)) ∧ (decode cX6_walk 32 = .ok (.if_icmp .ge 75, 3)) ∧ (decode cX6_walk 35 = .ok (.aload_n 0, 1)) ∧ (decode cX6_walk 36 = .ok (.getfield 15, 3)) ∧ (decode cX6_walk 39 = .ok (.lconst 0, 1)) ∧ (decode cX6_walk 40 = .ok (.invokestatic 18, 3)) := by decide +kernel
theorem dX6_walk_30 : decode cX6_walk 30 = .ok (.iload 4, 2) := dX6_walk_k5.1
theorem dX6_walk_32 : decode cX6_walk 32 = .ok (.if_icmp .ge 75, 3) := dX6_walk_k5.2.1
theorem dX6_walk_35 : decode cX6_walk 35 = .ok (.aload_n 0, 1) := dX6_walk_k5.2.2.1
theorem dX6_walk_36 : decode cX6_walk 36 = .ok (.getfield 15, 3) := dX6_walk_k5.2.2.2.1
theorem dX6_walk_39 : decode cX6_walk 39 = .ok (.lconst 0, 1) := dX6_walk_k5.2.2.2.2.1
theorem dX6_walk_40 : decode cX6_walk 40 = .ok (.invokestatic 18, 3) := dX6_walk_k5.2.2.2.2.2
set_option maxRecDepth 100000 in
theorem dX6_walk_k6 : (decode cX6_walk 43 = .ok (.iconst 0, 1)) ∧ (decode cX6_walk 44 = .ok (.istore 6, 2)) ∧ (decode cX6_walk 46 = .ok (.iload 6, 2)) ∧ (decode cX6_walk 48 = .ok (.aload_n 1, 1)) ∧ (decode cX6_walk 49 = .ok (.getfield 34, 3)) ∧ (decode cX6_walk 52 = .ok (.if_icmp .ge 17, 3)) := by decide +kernel
theorem dX6_walk_43 : decode cX6_walk 43 = .ok (.iconst 0, 1) := dX6_walk_k6.1
theorem dX6_walk_44 : decode cX6_walk 44 = .ok (.istore 6, 2) := dX6_walk_k6.2.1
theorem dX6_walk_46 : decode cX6_walk 46 = .ok (.iload 6, 2) := dX6_walk_k6.2.2.1
theorem dX6_walk_48 : decode cX6_walk 48 = .ok (.aload_n 1, 1) := dX6_walk_k6.2.2.2.1
theorem dX6_walk_49 : decode cX6_walk 49 = .ok (.getfield 34, 3) := dX6_walk_k6.2.2.2.2.1
theorem dX6_walk_52 : decode cX6_walk 52 = .ok (.if_icmp .ge 17, 3) := dX6_walk_k6.2.2.2.2.2
set_option maxRecDepth 100000 in
theorem dX6_walk_k7 : (decode cX6_walk 55 = .ok (.aload_n 0, 1)) ∧ (decode cX6_walk 56 = .ok (.aload_n 1, 1)) ∧ (decode cX6_walk 57 = .ok (.iload 6, 2)) ∧ (decode cX6_walk 59 = .ok (.iload_n 3, 1)) ∧ (decode cX6_walk 60 = .ok (.invokevirtual 38, 3)) ∧ (decode cX6_walk 63 = .ok (.iinc 6 1, 3)) := by decide +kernel
theorem dX6_walk_55 : decode cX6_walk 55 = .ok (.aload_n 0, 1) := dX6_walk_k7.1
theorem dX6_walk_56 : decode cX6_walk 56 = .ok (.aload_n 1, 1) := dX6_walk_k7.2.1
theorem dX6_walk_57 : decode cX6_walk 57 = .ok (.iload 6, 2) := dX6_walk_k7.2.2.1
theorem dX6_walk_59 : decode cX6_walk 59 = .ok (.iload_n 3, 1) := dX6_walk_k7.2.2.2.1
theorem dX6_walk_60 : decode cX6_walk 60 = .ok (.invokevirtual 38, 3) := dX6_walk_k7.2.2.2.2.1
theorem dX6_walk_63 : decode cX6_walk 63 = .ok (.iinc 6 1, 3) := dX6_walk_k7.2.2.2.2.2
set_option maxRecDepth 100000 in
theorem dX6_walk_k8 : (decode cX6_walk 66 = .ok (.goto (-20), 3)) ∧ (decode cX6_walk 69 = .ok (.aload_n 0, 1)) ∧ (decode cX6_walk 70 = .ok (.getfield 9, 3)) ∧ (decode cX6_walk 73 = .ok (.astore 6, 2)) ∧ (decode cX6_walk 75 = .ok (.aload_n 0, 1)) ∧ (decode cX6_walk 76 = .ok (.aload_n 0, 1)) := by decide +kernel
theorem dX6_walk_66 : decode cX6_walk 66 = .ok (.goto (-20), 3) := dX6_walk_k8.1
theorem dX6_walk_69 : decode cX6_walk 69 = .ok (.aload_n 0, 1) := dX6_walk_k8.2.1
theorem dX6_walk_70 : decode cX6_walk 70 = .ok (.getfield 9, 3) := dX6_walk_k8.2.2.1
theorem dX6_walk_73 : decode cX6_walk 73 = .ok (.astore 6, 2) := dX6_walk_k8.2.2.2.1
theorem dX6_walk_75 : decode cX6_walk 75 = .ok (.aload_n 0, 1) := dX6_walk_k8.2.2.2.2.1
theorem dX6_walk_76 : decode cX6_walk 76 = .ok (.aload_n 0, 1) := dX6_walk_k8.2.2.2.2.2
set_option maxRecDepth 100000 in
theorem dX6_walk_k9 : (decode cX6_walk 77 = .ok (.getfield 15, 3)) ∧ (decode cX6_walk 80 = .ok (.putfield 9, 3)) ∧ (decode cX6_walk 83 = .ok (.aload_n 0, 1)) ∧ (decode cX6_walk 84 = .ok (.aload 6, 2)) ∧ (decode cX6_walk 86 = .ok (.putfield 15, 3)) ∧ (decode cX6_walk 89 = .ok (.aload_n 0, 1)) := by decide +kernel
theorem dX6_walk_77 : decode cX6_walk 77 = .ok (.getfield 15, 3) := dX6_walk_k9.1
theorem dX6_walk_80 : decode cX6_walk 80 = .ok (.putfield 9, 3) := dX6_walk_k9.2.1
theorem dX6_walk_83 : decode cX6_walk 83 = .ok (.aload_n 0, 1) := dX6_walk_k9.2.2.1
theorem dX6_walk_84 : decode cX6_walk 84 = .ok (.aload 6, 2) := dX6_walk_k9.2.2.2.1
theorem dX6_walk_86 : decode cX6_walk 86 = .ok (.putfield 15, 3) := dX6_walk_k9.2.2.2.2.1
theorem dX6_walk_89 : decode cX6_walk 89 = .ok (.aload_n 0, 1) := dX6_walk_k9.2.2.2.2.2
set_option maxRecDepth 100000 in
theorem dX6_walk_k10 : (decode cX6_walk 90 = .ok (.dup, 1)) ∧ (decode cX6_walk 91 = .ok (.getfield 30, 3)) ∧ (decode cX6_walk 94 = .ok (.ldc2_w 42, 3)) ∧ (decode cX6_walk 97 = .ok (.lmul, 1)) ∧ (decode cX6_walk 98 = .ok (.putfield 30, 3)) ∧ (decode cX6_walk 101 = .ok (.iinc 5 1, 3)) := by decide +kernel
theorem dX6_walk_90 : decode cX6_walk 90 = .ok (.dup, 1) := dX6_walk_k10.1
theorem dX6_walk_91 : decode cX6_walk 91 = .ok (.getfield 30, 3) := dX6_walk_k10.2.1
theorem dX6_walk_94 : decode cX6_walk 94 = .ok (.ldc2_w 42, 3) := dX6_walk_k10.2.2.1
theorem dX6_walk_97 : decode cX6_walk 97 = .ok (.lmul, 1) := dX6_walk_k10.2.2.2.1
theorem dX6_walk_98 : decode cX6_walk 98 = .ok (.putfield 30, 3) := dX6_walk_k10.2.2.2.2.1
theorem dX6_walk_101 : decode cX6_walk 101 = .ok (.iinc 5 1, 3) := dX6_walk_k10.2.2.2.2.2
set_option maxRecDepth 100000 in
theorem dX6_walk_k11 : (decode cX6_walk 104 = .ok (.goto (-76), 3)) ∧ (decode cX6_walk 107 = .ok (.return_, 1)) := by decide +kernel
theorem dX6_walk_104 : decode cX6_walk 104 = .ok (.goto (-76), 3) := dX6_walk_k11.1
theorem dX6_walk_107 : decode cX6_walk 107 = .ok (.return_, 1) := dX6_walk_k11.2
set_option maxRecDepth 100000 in
theorem dX6_spread_k12 : (decode cX6_spread 0 = .ok (.iconst 0, 1)) ∧ (decode cX6_spread 1 = .ok (.istore 4, 2)) ∧ (decode cX6_spread 3 = .ok (.iconst 0, 1)) ∧ (decode cX6_spread 4 = .ok (.istore 5, 2)) ∧ (decode cX6_spread 6 = .ok (.iload 5, 2)) ∧ (decode cX6_spread 8 = .ok (.aload_n 1, 1)) := by decide +kernel
theorem dX6_spread_0 : decode cX6_spread 0 = .ok (.iconst 0, 1) := dX6_spread_k12.1
theorem dX6_spread_1 : decode cX6_spread 1 = .ok (.istore 4, 2) := dX6_spread_k12.2.1
theorem dX6_spread_3 : decode cX6_spread 3 = .ok (.iconst 0, 1) := dX6_spread_k12.2.2.1
theorem dX6_spread_4 : decode cX6_spread 4 = .ok (.istore 5, 2) := dX6_spread_k12.2.2.2.1
theorem dX6_spread_6 : decode cX6_spread 6 = .ok (.iload 5, 2) := dX6_spread_k12.2.2.2.2.1
theorem dX6_spread_8 : decode cX6_spread 8 = .ok (.aload_n 1, 1) := dX6_spread_k12.2.2.2.2.2
set_option maxRecDepth 100000 in
theorem dX6_spread_k13 : (decode cX6_spread 9 = .ok (.getfield 34, 3)) ∧ (decode cX6_spread 12 = .ok (.if_icmp .ge 29, 3)) ∧ (decode cX6_spread 15 = .ok (.iload 4, 2)) ∧ (decode cX6_spread 17 = .ok (.aload_n 1, 1)) ∧ (decode cX6_spread 18 = .ok (.iload_n 2, 1)) ∧ (decode cX6_spread 19 = .ok (.iload 5, 2)) := by decide +kernel
theorem dX6_spread_9 : decode cX6_spread 9 = .ok (.getfield 34, 3) := dX6_spread_k13.1
theorem dX6_spread_12 : decode cX6_spread 12 = .ok (.if_icmp .ge 29, 3) := dX6_spread_k13.2.1
theorem dX6_spread_15 : decode cX6_spread 15 = .ok (.iload 4, 2) := dX6_spread_k13.2.2.1
theorem dX6_spread_17 : decode cX6_spread 17 = .ok (.aload_n 1, 1) := dX6_spread_k13.2.2.2.1
theorem dX6_spread_18 : decode cX6_spread 18 = .ok (.iload_n 2, 1) := dX6_spread_k13.2.2.2.2.1
theorem dX6_spread_19 : decode cX6_spread 19 = .ok (.iload 5, 2) := dX6_spread_k13.2.2.2.2.2
set_option maxRecDepth 100000 in
theorem dX6_spread_k14 : (decode cX6_spread 21 = .ok (.invokevirtual 44, 3)) ∧ (decode cX6_spread 24 = .ok (.ifCond .le 7, 3)) ∧ (decode cX6_spread 27 = .ok (.iconst 1, 1)) ∧ (decode cX6_spread 28 = .ok (.goto 4, 3)) ∧ (decode cX6_spread 31 = .ok (.iconst 0, 1)) ∧ (decode cX6_spread 32 = .ok (.iadd, 1)) := by decide +kernel
theorem dX6_spread_21 : decode cX6_spread 21 = .ok (.invokevirtual 44, 3) := dX6_spread_k14.1
theorem dX6_spread_24 : decode cX6_spread 24 = .ok (.ifCond .le 7, 3) := dX6_spread_k14.2.1
theorem dX6_spread_27 : decode cX6_spread 27 = .ok (.iconst 1, 1) := dX6_spread_k14.2.2.1
theorem dX6_spread_28 : decode cX6_spread 28 = .ok (.goto 4, 3) := dX6_spread_k14.2.2.2.1
theorem dX6_spread_31 : decode cX6_spread 31 = .ok (.iconst 0, 1) := dX6_spread_k14.2.2.2.2.1
theorem dX6_spread_32 : decode cX6_spread 32 = .ok (.iadd, 1) := dX6_spread_k14.2.2.2.2.2
set_option maxRecDepth 100000 in
theorem dX6_spread_k15 : (decode cX6_spread 33 = .ok (.istore 4, 2)) ∧ (decode cX6_spread 35 = .ok (.iinc 5 1, 3)) ∧ (decode cX6_spread 38 = .ok (.goto (-32), 3)) ∧ (decode cX6_spread 41 = .ok (.iload 4, 2)) ∧ (decode cX6_spread 43 = .ok (.ifCond .ne 27, 3)) ∧ (decode cX6_spread 46 = .ok (.aload_n 0, 1)) := by decide +kernel
theorem dX6_spread_33 : decode cX6_spread 33 = .ok (.istore 4, 2) := dX6_spread_k15.1
theorem dX6_spread_35 : decode cX6_spread 35 = .ok (.iinc 5 1, 3) := dX6_spread_k15.2.1
theorem dX6_spread_38 : decode cX6_spread 38 = .ok (.goto (-32), 3) := dX6_spread_k15.2.2.1
theorem dX6_spread_41 : decode cX6_spread 41 = .ok (.iload 4, 2) := dX6_spread_k15.2.2.2.1
theorem dX6_spread_43 : decode cX6_spread 43 = .ok (.ifCond .ne 27, 3) := dX6_spread_k15.2.2.2.2.1
theorem dX6_spread_46 : decode cX6_spread 46 = .ok (.aload_n 0, 1) := dX6_spread_k15.2.2.2.2.2
set_option maxRecDepth 100000 in
theorem dX6_spread_k16 : (decode cX6_spread 47 = .ok (.getfield 15, 3)) ∧ (decode cX6_spread 50 = .ok (.iload_n 2, 1)) ∧ (decode cX6_spread 51 = .ok (.dup2, 1)) ∧ (decode cX6_spread 52 = .ok (.laload, 1)) ∧ (decode cX6_spread 53 = .ok (.aload_n 0, 1)) ∧ (decode cX6_spread 54 = .ok (.getfield 9, 3)) := by decide +kernel
theorem dX6_spread_47 : decode cX6_spread 47 = .ok (.getfield 15, 3) := dX6_spread_k16.1
theorem dX6_spread_50 : decode cX6_spread 50 = .ok (.iload_n 2, 1) := dX6_spread_k16.2.1
theorem dX6_spread_51 : decode cX6_spread 51 = .ok (.dup2, 1) := dX6_spread_k16.2.2.1
theorem dX6_spread_52 : decode cX6_spread 52 = .ok (.laload, 1) := dX6_spread_k16.2.2.2.1
theorem dX6_spread_53 : decode cX6_spread 53 = .ok (.aload_n 0, 1) := dX6_spread_k16.2.2.2.2.1
theorem dX6_spread_54 : decode cX6_spread 54 = .ok (.getfield 9, 3) := dX6_spread_k16.2.2.2.2.2
set_option maxRecDepth 100000 in
theorem dX6_spread_k17 : (decode cX6_spread 57 = .ok (.iload_n 2, 1)) ∧ (decode cX6_spread 58 = .ok (.laload, 1)) ∧ (decode cX6_spread 59 = .ok (.ldc2_w 48, 3)) ∧ (decode cX6_spread 62 = .ok (.lmul, 1)) ∧ (decode cX6_spread 63 = .ok (.ldc2_w 50, 3)) ∧ (decode cX6_spread 66 = .ok (.lmul, 1)) := by decide +kernel
theorem dX6_spread_57 : decode cX6_spread 57 = .ok (.iload_n 2, 1) := dX6_spread_k17.1
theorem dX6_spread_58 : decode cX6_spread 58 = .ok (.laload, 1) := dX6_spread_k17.2.1
theorem dX6_spread_59 : decode cX6_spread 59 = .ok (.ldc2_w 48, 3) := dX6_spread_k17.2.2.1
theorem dX6_spread_62 : decode cX6_spread 62 = .ok (.lmul, 1) := dX6_spread_k17.2.2.2.1
theorem dX6_spread_63 : decode cX6_spread 63 = .ok (.ldc2_w 50, 3) := dX6_spread_k17.2.2.2.2.1
theorem dX6_spread_66 : decode cX6_spread 66 = .ok (.lmul, 1) := dX6_spread_k17.2.2.2.2.2
set_option maxRecDepth 100000 in
theorem dX6_spread_k18 : (decode cX6_spread 67 = .ok (.ladd, 1)) ∧ (decode cX6_spread 68 = .ok (.lastore, 1)) ∧ (decode cX6_spread 69 = .ok (.return_, 1)) ∧ (decode cX6_spread 70 = .ok (.aload_n 0, 1)) ∧ (decode cX6_spread 71 = .ok (.getfield 15, 3)) ∧ (decode cX6_spread 74 = .ok (.iload_n 2, 1)) := by decide +kernel
theorem dX6_spread_67 : decode cX6_spread 67 = .ok (.ladd, 1) := dX6_spread_k18.1
theorem dX6_spread_68 : decode cX6_spread 68 = .ok (.lastore, 1) := dX6_spread_k18.2.1
theorem dX6_spread_69 : decode cX6_spread 69 = .ok (.return_, 1) := dX6_spread_k18.2.2.1
theorem dX6_spread_70 : decode cX6_spread 70 = .ok (.aload_n 0, 1) := dX6_spread_k18.2.2.2.1
theorem dX6_spread_71 : decode cX6_spread 71 = .ok (.getfield 15, 3) := dX6_spread_k18.2.2.2.2.1
theorem dX6_spread_74 : decode cX6_spread 74 = .ok (.iload_n 2, 1) := dX6_spread_k18.2.2.2.2.2
set_option maxRecDepth 100000 in
theorem dX6_spread_k19 : (decode cX6_spread 75 = .ok (.dup2, 1)) ∧ (decode cX6_spread 76 = .ok (.laload, 1)) ∧ (decode cX6_spread 77 = .ok (.aload_n 0, 1)) ∧ (decode cX6_spread 78 = .ok (.getfield 9, 3)) ∧ (decode cX6_spread 81 = .ok (.iload_n 2, 1)) ∧ (decode cX6_spread 82 = .ok (.laload, 1)) := by decide +kernel
theorem dX6_spread_75 : decode cX6_spread 75 = .ok (.dup2, 1) := dX6_spread_k19.1
theorem dX6_spread_76 : decode cX6_spread 76 = .ok (.laload, 1) := dX6_spread_k19.2.1
theorem dX6_spread_77 : decode cX6_spread 77 = .ok (.aload_n 0, 1) := dX6_spread_k19.2.2.1
theorem dX6_spread_78 : decode cX6_spread 78 = .ok (.getfield 9, 3) := dX6_spread_k19.2.2.2.1
theorem dX6_spread_81 : decode cX6_spread 81 = .ok (.iload_n 2, 1) := dX6_spread_k19.2.2.2.2.1
theorem dX6_spread_82 : decode cX6_spread 82 = .ok (.laload, 1) := dX6_spread_k19.2.2.2.2.2
set_option maxRecDepth 100000 in
theorem dX6_spread_k20 : (decode cX6_spread 83 = .ok (.ldc2_w 48, 3)) ∧ (decode cX6_spread 86 = .ok (.lmul, 1)) ∧ (decode cX6_spread 87 = .ok (.iload_n 3, 1)) ∧ (decode cX6_spread 88 = .ok (.i2l, 1)) ∧ (decode cX6_spread 89 = .ok (.lmul, 1)) ∧ (decode cX6_spread 90 = .ok (.ladd, 1)) := by decide +kernel
theorem dX6_spread_83 : decode cX6_spread 83 = .ok (.ldc2_w 48, 3) := dX6_spread_k20.1
theorem dX6_spread_86 : decode cX6_spread 86 = .ok (.lmul, 1) := dX6_spread_k20.2.1
theorem dX6_spread_87 : decode cX6_spread 87 = .ok (.iload_n 3, 1) := dX6_spread_k20.2.2.1
theorem dX6_spread_88 : decode cX6_spread 88 = .ok (.i2l, 1) := dX6_spread_k20.2.2.2.1
theorem dX6_spread_89 : decode cX6_spread 89 = .ok (.lmul, 1) := dX6_spread_k20.2.2.2.2.1
theorem dX6_spread_90 : decode cX6_spread 90 = .ok (.ladd, 1) := dX6_spread_k20.2.2.2.2.2
set_option maxRecDepth 100000 in
theorem dX6_spread_k21 : (decode cX6_spread 91 = .ok (.lastore, 1)) ∧ (decode cX6_spread 92 = .ok (.iconst 0, 1)) ∧ (decode cX6_spread 93 = .ok (.istore 5, 2)) ∧ (decode cX6_spread 95 = .ok (.iload 5, 2)) ∧ (decode cX6_spread 97 = .ok (.aload_n 1, 1)) ∧ (decode cX6_spread 98 = .ok (.getfield 34, 3)) := by decide +kernel
theorem dX6_spread_91 : decode cX6_spread 91 = .ok (.lastore, 1) := dX6_spread_k21.1
theorem dX6_spread_92 : decode cX6_spread 92 = .ok (.iconst 0, 1) := dX6_spread_k21.2.1
theorem dX6_spread_93 : decode cX6_spread 93 = .ok (.istore 5, 2) := dX6_spread_k21.2.2.1
theorem dX6_spread_95 : decode cX6_spread 95 = .ok (.iload 5, 2) := dX6_spread_k21.2.2.2.1
theorem dX6_spread_97 : decode cX6_spread 97 = .ok (.aload_n 1, 1) := dX6_spread_k21.2.2.2.2.1
theorem dX6_spread_98 : decode cX6_spread 98 = .ok (.getfield 34, 3) := dX6_spread_k21.2.2.2.2.2
set_option maxRecDepth 100000 in
theorem dX6_spread_k22 : (decode cX6_spread 101 = .ok (.if_icmp .ge 48, 3)) ∧ (decode cX6_spread 104 = .ok (.aload_n 1, 1)) ∧ (decode cX6_spread 105 = .ok (.iload_n 2, 1)) ∧ (decode cX6_spread 106 = .ok (.iload 5, 2)) ∧ (decode cX6_spread 108 = .ok (.invokevirtual 44, 3)) ∧ (decode cX6_spread 111 = .ok (.ifCond .le 32, 3)) := by decide +kernel
theorem dX6_spread_101 : decode cX6_spread 101 = .ok (.if_icmp .ge 48, 3) := dX6_spread_k22.1
theorem dX6_spread_104 : decode cX6_spread 104 = .ok (.aload_n 1, 1) := dX6_spread_k22.2.1
theorem dX6_spread_105 : decode cX6_spread 105 = .ok (.iload_n 2, 1) := dX6_spread_k22.2.2.1
theorem dX6_spread_106 : decode cX6_spread 106 = .ok (.iload 5, 2) := dX6_spread_k22.2.2.2.1
theorem dX6_spread_108 : decode cX6_spread 108 = .ok (.invokevirtual 44, 3) := dX6_spread_k22.2.2.2.2.1
theorem dX6_spread_111 : decode cX6_spread 111 = .ok (.ifCond .le 32, 3) := dX6_spread_k22.2.2.2.2.2
set_option maxRecDepth 100000 in
theorem dX6_spread_k23 : (decode cX6_spread 114 = .ok (.aload_n 0, 1)) ∧ (decode cX6_spread 115 = .ok (.getfield 15, 3)) ∧ (decode cX6_spread 118 = .ok (.iload 5, 2)) ∧ (decode cX6_spread 120 = .ok (.dup2, 1)) ∧ (decode cX6_spread 121 = .ok (.laload, 1)) ∧ (decode cX6_spread 122 = .ok (.aload_n 0, 1)) := by decide +kernel
theorem dX6_spread_114 : decode cX6_spread 114 = .ok (.aload_n 0, 1) := dX6_spread_k23.1
theorem dX6_spread_115 : decode cX6_spread 115 = .ok (.getfield 15, 3) := dX6_spread_k23.2.1
theorem dX6_spread_118 : decode cX6_spread 118 = .ok (.iload 5, 2) := dX6_spread_k23.2.2.1
theorem dX6_spread_120 : decode cX6_spread 120 = .ok (.dup2, 1) := dX6_spread_k23.2.2.2.1
theorem dX6_spread_121 : decode cX6_spread 121 = .ok (.laload, 1) := dX6_spread_k23.2.2.2.2.1
theorem dX6_spread_122 : decode cX6_spread 122 = .ok (.aload_n 0, 1) := dX6_spread_k23.2.2.2.2.2
set_option maxRecDepth 100000 in
theorem dX6_spread_k24 : (decode cX6_spread 123 = .ok (.getfield 9, 3)) ∧ (decode cX6_spread 126 = .ok (.iload_n 2, 1)) ∧ (decode cX6_spread 127 = .ok (.laload, 1)) ∧ (decode cX6_spread 128 = .ok (.bipush 60, 2)) ∧ (decode cX6_spread 130 = .ok (.iload 4, 2)) ∧ (decode cX6_spread 132 = .ok (.idiv, 1)) := by decide +kernel
theorem dX6_spread_123 : decode cX6_spread 123 = .ok (.getfield 9, 3) := dX6_spread_k24.1
theorem dX6_spread_126 : decode cX6_spread 126 = .ok (.iload_n 2, 1) := dX6_spread_k24.2.1
theorem dX6_spread_127 : decode cX6_spread 127 = .ok (.laload, 1) := dX6_spread_k24.2.2.1
theorem dX6_spread_128 : decode cX6_spread 128 = .ok (.bipush 60, 2) := dX6_spread_k24.2.2.2.1
theorem dX6_spread_130 : decode cX6_spread 130 = .ok (.iload 4, 2) := dX6_spread_k24.2.2.2.2.1
theorem dX6_spread_132 : decode cX6_spread 132 = .ok (.idiv, 1) := dX6_spread_k24.2.2.2.2.2
set_option maxRecDepth 100000 in
theorem dX6_spread_k25 : (decode cX6_spread 133 = .ok (.i2l, 1)) ∧ (decode cX6_spread 134 = .ok (.lmul, 1)) ∧ (decode cX6_spread 135 = .ok (.bipush 10, 2)) ∧ (decode cX6_spread 137 = .ok (.iload_n 3, 1)) ∧ (decode cX6_spread 138 = .ok (.isub, 1)) ∧ (decode cX6_spread 139 = .ok (.i2l, 1)) := by decide +kernel
theorem dX6_spread_133 : decode cX6_spread 133 = .ok (.i2l, 1) := dX6_spread_k25.1
theorem dX6_spread_134 : decode cX6_spread 134 = .ok (.lmul, 1) := dX6_spread_k25.2.1
theorem dX6_spread_135 : decode cX6_spread 135 = .ok (.bipush 10, 2) := dX6_spread_k25.2.2.1
theorem dX6_spread_137 : decode cX6_spread 137 = .ok (.iload_n 3, 1) := dX6_spread_k25.2.2.2.1
theorem dX6_spread_138 : decode cX6_spread 138 = .ok (.isub, 1) := dX6_spread_k25.2.2.2.2.1
theorem dX6_spread_139 : decode cX6_spread 139 = .ok (.i2l, 1) := dX6_spread_k25.2.2.2.2.2
set_option maxRecDepth 100000 in
theorem dX6_spread_k26 : (decode cX6_spread 140 = .ok (.lmul, 1)) ∧ (decode cX6_spread 141 = .ok (.ladd, 1)) ∧ (decode cX6_spread 142 = .ok (.lastore, 1)) ∧ (decode cX6_spread 143 = .ok (.iinc 5 1, 3)) ∧ (decode cX6_spread 146 = .ok (.goto (-51), 3)) ∧ (decode cX6_spread 149 = .ok (.return_, 1)) := by decide +kernel
theorem dX6_spread_140 : decode cX6_spread 140 = .ok (.lmul, 1) := dX6_spread_k26.1
theorem dX6_spread_141 : decode cX6_spread 141 = .ok (.ladd, 1) := dX6_spread_k26.2.1
theorem dX6_spread_142 : decode cX6_spread 142 = .ok (.lastore, 1) := dX6_spread_k26.2.2.1
theorem dX6_spread_143 : decode cX6_spread 143 = .ok (.iinc 5 1, 3) := dX6_spread_k26.2.2.2.1
theorem dX6_spread_146 : decode cX6_spread 146 = .ok (.goto (-51), 3) := dX6_spread_k26.2.2.2.2.1
theorem dX6_spread_149 : decode cX6_spread 149 = .ok (.return_, 1) := dX6_spread_k26.2.2.2.2.2
set_option maxRecDepth 100000 in
theorem dX6_upper_k27 : (decode cX6_upper 0 = .ok (.aload_n 0, 1)) ∧ (decode cX6_upper 1 = .ok (.getfield 9, 3)) ∧ (decode cX6_upper 4 = .ok (.iload_n 1, 1)) ∧ (decode cX6_upper 5 = .ok (.laload, 1)) ∧ (decode cX6_upper 6 = .ok (.aload_n 0, 1)) ∧ (decode cX6_upper 7 = .ok (.iload_n 1, 1)) := by decide +kernel
theorem dX6_upper_0 : decode cX6_upper 0 = .ok (.aload_n 0, 1) := dX6_upper_k27.1
theorem dX6_upper_1 : decode cX6_upper 1 = .ok (.getfield 9, 3) := dX6_upper_k27.2.1
theorem dX6_upper_4 : decode cX6_upper 4 = .ok (.iload_n 1, 1) := dX6_upper_k27.2.2.1
theorem dX6_upper_5 : decode cX6_upper 5 = .ok (.laload, 1) := dX6_upper_k27.2.2.2.1
theorem dX6_upper_6 : decode cX6_upper 6 = .ok (.aload_n 0, 1) := dX6_upper_k27.2.2.2.2.1
theorem dX6_upper_7 : decode cX6_upper 7 = .ok (.iload_n 1, 1) := dX6_upper_k27.2.2.2.2.2
set_option maxRecDepth 100000 in
theorem dX6_upper_k28 : (decode cX6_upper 8 = .ok (.invokevirtual 52, 3)) ∧ (decode cX6_upper 11 = .ok (.ldiv, 1)) ∧ (decode cX6_upper 12 = .ok (.lreturn, 1)) := by decide +kernel
theorem dX6_upper_8 : decode cX6_upper 8 = .ok (.invokevirtual 52, 3) := dX6_upper_k28.1
theorem dX6_upper_11 : decode cX6_upper 11 = .ok (.ldiv, 1) := dX6_upper_k28.2.1
theorem dX6_upper_12 : decode cX6_upper 12 = .ok (.lreturn, 1) := dX6_upper_k28.2.2
set_option maxRecDepth 100000 in
theorem dX6_lower_k29 : (decode cX6_lower 0 = .ok (.aload_n 0, 1)) ∧ (decode cX6_lower 1 = .ok (.getfield 30, 3)) ∧ (decode cX6_lower 4 = .ok (.aload_n 0, 1)) ∧ (decode cX6_lower 5 = .ok (.iload_n 1, 1)) ∧ (decode cX6_lower 6 = .ok (.invokevirtual 52, 3)) ∧ (decode cX6_lower 9 = .ok (.ldiv, 1)) := by decide +kernel
theorem dX6_lower_0 : decode cX6_lower 0 = .ok (.aload_n 0, 1) := dX6_lower_k29.1
theorem dX6_lower_1 : decode cX6_lower 1 = .ok (.getfield 30, 3) := dX6_lower_k29.2.1
theorem dX6_lower_4 : decode cX6_lower 4 = .ok (.aload_n 0, 1) := dX6_lower_k29.2.2.1
theorem dX6_lower_5 : decode cX6_lower 5 = .ok (.iload_n 1, 1) := dX6_lower_k29.2.2.2.1
theorem dX6_lower_6 : decode cX6_lower 6 = .ok (.invokevirtual 52, 3) := dX6_lower_k29.2.2.2.2.1
theorem dX6_lower_9 : decode cX6_lower 9 = .ok (.ldiv, 1) := dX6_lower_k29.2.2.2.2.2
theorem dX6_lower_10 : decode cX6_lower 10 = .ok (.lreturn, 1) := by decide +kernel
set_option maxRecDepth 100000 in
theorem dX6_shared_k30 : (decode cX6_shared 0 = .ok (.aload_n 0, 1)) ∧ (decode cX6_shared 1 = .ok (.getfield 30, 3)) ∧ (decode cX6_shared 4 = .ok (.lstore_n 2, 1)) ∧ (decode cX6_shared 5 = .ok (.aload_n 0, 1)) ∧ (decode cX6_shared 6 = .ok (.getfield 9, 3)) ∧ (decode cX6_shared 9 = .ok (.iload_n 1, 1)) := by decide +kernel
theorem dX6_shared_0 : decode cX6_shared 0 = .ok (.aload_n 0, 1) := dX6_shared_k30.1
theorem dX6_shared_1 : decode cX6_shared 1 = .ok (.getfield 30, 3) := dX6_shared_k30.2.1
theorem dX6_shared_4 : decode cX6_shared 4 = .ok (.lstore_n 2, 1) := dX6_shared_k30.2.2.1
theorem dX6_shared_5 : decode cX6_shared 5 = .ok (.aload_n 0, 1) := dX6_shared_k30.2.2.2.1
theorem dX6_shared_6 : decode cX6_shared 6 = .ok (.getfield 9, 3) := dX6_shared_k30.2.2.2.2.1
theorem dX6_shared_9 : decode cX6_shared 9 = .ok (.iload_n 1, 1) := dX6_shared_k30.2.2.2.2.2
set_option maxRecDepth 100000 in
theorem dX6_shared_k31 : (decode cX6_shared 10 = .ok (.laload, 1)) ∧ (decode cX6_shared 11 = .ok (.lstore 4, 2)) ∧ (decode cX6_shared 13 = .ok (.iconst 0, 1)) ∧ (decode cX6_shared 14 = .ok (.istore 6, 2)) ∧ (decode cX6_shared 16 = .ok (.iload 6, 2)) ∧ (decode cX6_shared 18 = .ok (.sipush 1000, 3)) := by decide +kernel
theorem dX6_shared_10 : decode cX6_shared 10 = .ok (.laload, 1) := dX6_shared_k31.1
theorem dX6_shared_11 : decode cX6_shared 11 = .ok (.lstore 4, 2) := dX6_shared_k31.2.1
theorem dX6_shared_13 : decode cX6_shared 13 = .ok (.iconst 0, 1) := dX6_shared_k31.2.2.1
theorem dX6_shared_14 : decode cX6_shared 14 = .ok (.istore 6, 2) := dX6_shared_k31.2.2.2.1
theorem dX6_shared_16 : decode cX6_shared 16 = .ok (.iload 6, 2) := dX6_shared_k31.2.2.2.2.1
theorem dX6_shared_18 : decode cX6_shared 18 = .ok (.sipush 1000, 3) := dX6_shared_k31.2.2.2.2.2
set_option maxRecDepth 100000 in
theorem dX6_shared_k32 : (decode cX6_shared 21 = .ok (.if_icmp .ge 29, 3)) ∧ (decode cX6_shared 24 = .ok (.lload 4, 2)) ∧ (decode cX6_shared 26 = .ok (.lconst 0, 1)) ∧ (decode cX6_shared 27 = .ok (.lcmp, 1)) ∧ (decode cX6_shared 28 = .ok (.ifCond .eq 22, 3)) ∧ (decode cX6_shared 31 = .ok (.lload_n 2, 1)) := by decide +kernel
theorem dX6_shared_21 : decode cX6_shared 21 = .ok (.if_icmp .ge 29, 3) := dX6_shared_k32.1
theorem dX6_shared_24 : decode cX6_shared 24 = .ok (.lload 4, 2) := dX6_shared_k32.2.1
theorem dX6_shared_26 : decode cX6_shared 26 = .ok (.lconst 0, 1) := dX6_shared_k32.2.2.1
theorem dX6_shared_27 : decode cX6_shared 27 = .ok (.lcmp, 1) := dX6_shared_k32.2.2.2.1
theorem dX6_shared_28 : decode cX6_shared 28 = .ok (.ifCond .eq 22, 3) := dX6_shared_k32.2.2.2.2.1
theorem dX6_shared_31 : decode cX6_shared 31 = .ok (.lload_n 2, 1) := dX6_shared_k32.2.2.2.2.2
set_option maxRecDepth 100000 in
theorem dX6_shared_k33 : (decode cX6_shared 32 = .ok (.lload 4, 2)) ∧ (decode cX6_shared 34 = .ok (.lrem, 1)) ∧ (decode cX6_shared 35 = .ok (.lstore 7, 2)) ∧ (decode cX6_shared 37 = .ok (.lload 4, 2)) ∧ (decode cX6_shared 39 = .ok (.lstore_n 2, 1)) ∧ (decode cX6_shared 40 = .ok (.lload 7, 2)) := by decide +kernel
theorem dX6_shared_32 : decode cX6_shared 32 = .ok (.lload 4, 2) := dX6_shared_k33.1
theorem dX6_shared_34 : decode cX6_shared 34 = .ok (.lrem, 1) := dX6_shared_k33.2.1
theorem dX6_shared_35 : decode cX6_shared 35 = .ok (.lstore 7, 2) := dX6_shared_k33.2.2.1
theorem dX6_shared_37 : decode cX6_shared 37 = .ok (.lload 4, 2) := dX6_shared_k33.2.2.2.1
theorem dX6_shared_39 : decode cX6_shared 39 = .ok (.lstore_n 2, 1) := dX6_shared_k33.2.2.2.2.1
theorem dX6_shared_40 : decode cX6_shared 40 = .ok (.lload 7, 2) := dX6_shared_k33.2.2.2.2.2
set_option maxRecDepth 100000 in
theorem dX6_shared_k34 : (decode cX6_shared 42 = .ok (.lstore 4, 2)) ∧ (decode cX6_shared 44 = .ok (.iinc 6 1, 3)) ∧ (decode cX6_shared 47 = .ok (.goto (-31), 3)) ∧ (decode cX6_shared 50 = .ok (.lload_n 2, 1)) ∧ (decode cX6_shared 51 = .ok (.lconst 0, 1)) ∧ (decode cX6_shared 52 = .ok (.lcmp, 1)) := by decide +kernel
theorem dX6_shared_42 : decode cX6_shared 42 = .ok (.lstore 4, 2) := dX6_shared_k34.1
theorem dX6_shared_44 : decode cX6_shared 44 = .ok (.iinc 6 1, 3) := dX6_shared_k34.2.1
theorem dX6_shared_47 : decode cX6_shared 47 = .ok (.goto (-31), 3) := dX6_shared_k34.2.2.1
theorem dX6_shared_50 : decode cX6_shared 50 = .ok (.lload_n 2, 1) := dX6_shared_k34.2.2.2.1
theorem dX6_shared_51 : decode cX6_shared 51 = .ok (.lconst 0, 1) := dX6_shared_k34.2.2.2.2.1
theorem dX6_shared_52 : decode cX6_shared 52 = .ok (.lcmp, 1) := dX6_shared_k34.2.2.2.2.2
set_option maxRecDepth 100000 in
theorem dX6_shared_k35 : (decode cX6_shared 53 = .ok (.ifCond .ne 7, 3)) ∧ (decode cX6_shared 56 = .ok (.lconst 1, 1)) ∧ (decode cX6_shared 57 = .ok (.goto 4, 3)) ∧ (decode cX6_shared 60 = .ok (.lload_n 2, 1)) ∧ (decode cX6_shared 61 = .ok (.lreturn, 1)) := by decide +kernel
theorem dX6_shared_53 : decode cX6_shared 53 = .ok (.ifCond .ne 7, 3) := dX6_shared_k35.1
theorem dX6_shared_56 : decode cX6_shared 56 = .ok (.lconst 1, 1) := dX6_shared_k35.2.1
theorem dX6_shared_57 : decode cX6_shared 57 = .ok (.goto 4, 3) := dX6_shared_k35.2.2.1
theorem dX6_shared_60 : decode cX6_shared 60 = .ok (.lload_n 2, 1) := dX6_shared_k35.2.2.2.1
theorem dX6_shared_61 : decode cX6_shared 61 = .ok (.lreturn, 1) := dX6_shared_k35.2.2.2.2
