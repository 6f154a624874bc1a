set_option maxRecDepth 100000 in
theorem dX0_init_k0 : (decode cX0_init 0 = .ok (.aload_n 0, 1)) ∧ (decode cX0_init 1 = .ok (.invokespecial 3, 3)) ∧ (decode cX0_init 4 = .ok (.aload_n 0, 1)) ∧ (decode cX0_init 5 = .ok (.new 9, 3)) ∧ (decode cX0_init 8 = .ok (.dup, 1)) ∧ (decode cX0_init 9 = .ok (.invokespecial 11, 3)) := by decide +kernel
theorem dX0_init_0 : decode cX0_init 0 = .ok (.aload_n 0, 1) := dX0_init_k0.1
theorem dX0_init_1 : decode cX0_init 1 = .ok (.invokespecial 3, 3) := dX0_init_k0.2.1
theorem dX0_init_4 : decode cX0_init 4 = .ok (.aload_n 0, 1) := dX0_init_k0.2.2.1
theorem dX0_init_5 : decode cX0_init 5 = .ok (.new 9, 3) := dX0_init_k0.2.2.2.1
theorem dX0_init_8 : decode cX0_init 8 = .ok (.dup, 1) := dX0_init_k0.2.2.2.2.1
theorem dX0_init_9 : decode cX0_init 9 = .ok (.invokespecial 11, 3) := dX0_init_k0.2.2.2.2.2
set_option maxRecDepth 100000 in
theorem dX0_init_k1 : (decode cX0_init 12 = .ok (.putfield 12, 3)) ∧ (decode cX0_init 15 = .ok (.aload_n 0, 1)) ∧ (decode cX0_init 16 = .ok (.bipush 48, 2)) ∧ (decode cX0_init 18 = .ok (.newarray .int, 2)) ∧ (decode cX0_init 20 = .ok (.putfield 18, 3)) ∧ (decode cX0_init 23 = .ok (.aload_n 0, 1)) := by decide +kernel
theorem dX0_init_12 : decode cX0_init 12 = .ok (.putfield 12, 3) := dX0_init_k1.1
theorem dX0_init_15 : decode cX0_init 15 = .ok (.aload_n 0, 1) := dX0_init_k1.2.1
theorem dX0_init_16 : decode cX0_init 16 = .ok (.bipush 48, 2) := dX0_init_k1.2.2.1
theorem dX0_init_18 : decode cX0_init 18 = .ok (.newarray .int, 2) := dX0_init_k1.2.2.2.1
theorem dX0_init_20 : decode cX0_init 20 = .ok (.putfield 18, 3) := dX0_init_k1.2.2.2.2.1
theorem dX0_init_23 : decode cX0_init 23 = .ok (.aload_n 0, 1) := dX0_init_k1.2.2.2.2.2
set_option maxRecDepth 100000 in
theorem dX0_init_k2 : (decode cX0_init 24 = .ok (.bipush 6, 2)) ∧ (decode cX0_init 26 = .ok (.newarray .int, 2)) ∧ (decode cX0_init 28 = .ok (.putfield 22, 3)) ∧ (decode cX0_init 31 = .ok (.aload_n 0, 1)) ∧ (decode cX0_init 32 = .ok (.bipush 36, 2)) ∧ (decode cX0_init 34 = .ok (.newarray .int, 2)) := by decide +kernel
theorem dX0_init_24 : decode cX0_init 24 = .ok (.bipush 6, 2) := dX0_init_k2.1
theorem dX0_init_26 : decode cX0_init 26 = .ok (.newarray .int, 2) := dX0_init_k2.2.1
theorem dX0_init_28 : decode cX0_init 28 = .ok (.putfield 22, 3) := dX0_init_k2.2.2.1
theorem dX0_init_31 : decode cX0_init 31 = .ok (.aload_n 0, 1) := dX0_init_k2.2.2.2.1
theorem dX0_init_32 : decode cX0_init 32 = .ok (.bipush 36, 2) := dX0_init_k2.2.2.2.2.1
theorem dX0_init_34 : decode cX0_init 34 = .ok (.newarray .int, 2) := dX0_init_k2.2.2.2.2.2
set_option maxRecDepth 100000 in
theorem dX0_init_k3 : (decode cX0_init 36 = .ok (.putfield 25, 3)) ∧ (decode cX0_init 39 = .ok (.aload_n 0, 1)) ∧ (decode cX0_init 40 = .ok (.bipush 36, 2)) ∧ (decode cX0_init 42 = .ok (.newarray .int, 2)) ∧ (decode cX0_init 44 = .ok (.putfield 28, 3)) ∧ (decode cX0_init 47 = .ok (.return_, 1)) := by decide +kernel
theorem dX0_init_36 : decode cX0_init 36 = .ok (.putfield 25, 3) := dX0_init_k3.1
theorem dX0_init_39 : decode cX0_init 39 = .ok (.aload_n 0, 1) := dX0_init_k3.2.1
theorem dX0_init_40 : decode cX0_init 40 = .ok (.bipush 36, 2) := dX0_init_k3.2.2.1
theorem dX0_init_42 : decode cX0_init 42 = .ok (.newarray .int, 2) := dX0_init_k3.2.2.2.1
theorem dX0_init_44 : decode cX0_init 44 = .ok (.putfield 28, 3) := dX0_init_k3.2.2.2.2.1
theorem dX0_init_47 : decode cX0_init 47 = .ok (.return_, 1) := dX0_init_k3.2.2.2.2.2
set_option maxRecDepth 100000 in
theorem dX0_begin_k4 : (decode cX0_begin 0 = .ok (.aload_n 0, 1)) ∧ (decode cX0_begin 1 = .ok (.getfield 12, 3)) ∧ (decode cX0_begin 4 = .ok (.aload_n 1, 1)) ∧ (decode cX0_begin 5 = .ok (.invokevirtual 31, 3)) ∧ (decode cX0_begin 8 = .ok (.aload_n 0, 1)) ∧ (decode cX0_begin 9 = .ok (.invokevirtual 35, 3)) := by decide +kernel
theorem dX0_begin_0 : decode cX0_begin 0 = .ok (.aload_n 0, 1) := dX0_begin_k4.1
theorem dX0_begin_1 : decode cX0_begin 1 = .ok (.getfield 12, 3) := dX0_begin_k4.2.1
theorem dX0_begin_4 : decode cX0_begin 4 = .ok (.aload_n 1, 1) := dX0_begin_k4.2.2.1
theorem dX0_begin_5 : decode cX0_begin 5 = .ok (.invokevirtual 31, 3) := dX0_begin_k4.2.2.2.1
theorem dX0_begin_8 : decode cX0_begin 8 = .ok (.aload_n 0, 1) := dX0_begin_k4.2.2.2.2.1
theorem dX0_begin_9 : decode cX0_begin 9 = .ok (.invokevirtual 35, 3) := dX0_begin_k4.2.2.2.2.2
theorem dX0_begin_12 : decode cX0_begin 12 = .ok (.return_, 1) := by decide +kernel
set_option maxRecDepth 100000 in
theorem dX0_ready_k5 : (decode cX0_ready 0 = .ok (.aload_n 0, 1)) ∧ (decode cX0_ready 1 = .ok (.getfield 28, 3)) ∧ (decode cX0_ready 4 = .ok (.iconst 0, 1)) ∧ (decode cX0_ready 5 = .ok (.invokestatic 38, 3)) ∧ (decode cX0_ready 8 = .ok (.aload_n 0, 1)) ∧ (decode cX0_ready 9 = .ok (.getfield 22, 3)) := by decide +kernel
theorem dX0_ready_0 : decode cX0_ready 0 = .ok (.aload_n 0, 1) := dX0_ready_k5.1
theorem dX0_ready_1 : decode cX0_ready 1 = .ok (.getfield 28, 3) := dX0_ready_k5.2.1
theorem dX0_ready_4 : decode cX0_ready 4 = .ok (.iconst 0, 1) := dX0_ready_k5.2.2.1
theorem dX0_ready_5 : decode cX0_ready 5 = .ok (.invokestatic 38, 3) := dX0_ready_k5.2.2.2.1
theorem dX0_ready_8 : decode cX0_ready 8 = .ok (.aload_n 0, 1) := dX0_ready_k5.2.2.2.2.1
theorem dX0_ready_9 : decode cX0_ready 9 = .ok (.getfield 22, 3) := dX0_ready_k5.2.2.2.2.2
set_option maxRecDepth 100000 in
theorem dX0_ready_k6 : (decode cX0_ready 12 = .ok (.iconst 0, 1)) ∧ (decode cX0_ready 13 = .ok (.invokestatic 38, 3)) ∧ (decode cX0_ready 16 = .ok (.aload_n 0, 1)) ∧ (decode cX0_ready 17 = .ok (.getfield 12, 3)) ∧ (decode cX0_ready 20 = .ok (.getfield 44, 3)) ∧ (decode cX0_ready 23 = .ok (.iconst 0, 1)) := by decide +kernel
theorem dX0_ready_12 : decode cX0_ready 12 = .ok (.iconst 0, 1) := dX0_ready_k6.1
theorem dX0_ready_13 : decode cX0_ready 13 = .ok (.invokestatic 38, 3) := dX0_ready_k6.2.1
theorem dX0_ready_16 : decode cX0_ready 16 = .ok (.aload_n 0, 1) := dX0_ready_k6.2.2.1
theorem dX0_ready_17 : decode cX0_ready 17 = .ok (.getfield 12, 3) := dX0_ready_k6.2.2.2.1
theorem dX0_ready_20 : decode cX0_ready 20 = .ok (.getfield 44, 3) := dX0_ready_k6.2.2.2.2.1
theorem dX0_ready_23 : decode cX0_ready 23 = .ok (.iconst 0, 1) := dX0_ready_k6.2.2.2.2.2
set_option maxRecDepth 100000 in
theorem dX0_ready_k7 : (decode cX0_ready 24 = .ok (.aload_n 0, 1)) ∧ (decode cX0_ready 25 = .ok (.getfield 25, 3)) ∧ (decode cX0_ready 28 = .ok (.iconst 0, 1)) ∧ (decode cX0_ready 29 = .ok (.aload_n 0, 1)) ∧ (decode cX0_ready 30 = .ok (.getfield 25, 3)) ∧ (decode cX0_ready 33 = .ok (.arraylength, 1)) := by decide +kernel
theorem dX0_ready_24 : decode cX0_ready 24 = .ok (.aload_n 0, 1) := dX0_ready_k7.1
theorem dX0_ready_25 : decode cX0_ready 25 = .ok (.getfield 25, 3) := dX0_ready_k7.2.1
theorem dX0_ready_28 : decode cX0_ready 28 = .ok (.iconst 0, 1) := dX0_ready_k7.2.2.1
theorem dX0_ready_29 : decode cX0_ready 29 = .ok (.aload_n 0, 1) := dX0_ready_k7.2.2.2.1
theorem dX0_ready_30 : decode cX0_ready 30 = .ok (.getfield 25, 3) := dX0_ready_k7.2.2.2.2.1
theorem dX0_ready_33 : decode cX0_ready 33 = .ok (.arraylength, 1) := dX0_ready_k7.2.2.2.2.2
set_option maxRecDepth 100000 in
theorem dX0_ready_k8 : (decode cX0_ready 34 = .ok (.invokestatic 47, 3)) ∧ (decode cX0_ready 37 = .ok (.iconst 0, 1)) ∧ (decode cX0_ready 38 = .ok (.istore_n 1, 1)) ∧ (decode cX0_ready 39 = .ok (.iload_n 1, 1)) ∧ (decode cX0_ready 40 = .ok (.bipush 8, 2)) ∧ (decode cX0_ready 42 = .ok (.if_icmp .ge 48, 3)) := by decide +kernel
theorem dX0_ready_34 : decode cX0_ready 34 = .ok (.invokestatic 47, 3) := dX0_ready_k8.1
theorem dX0_ready_37 : decode cX0_ready 37 = .ok (.iconst 0, 1) := dX0_ready_k8.2.1
theorem dX0_ready_38 : decode cX0_ready 38 = .ok (.istore_n 1, 1) := dX0_ready_k8.2.2.1
theorem dX0_ready_39 : decode cX0_ready 39 = .ok (.iload_n 1, 1) := dX0_ready_k8.2.2.2.1
theorem dX0_ready_40 : decode cX0_ready 40 = .ok (.bipush 8, 2) := dX0_ready_k8.2.2.2.2.1
theorem dX0_ready_42 : decode cX0_ready 42 = .ok (.if_icmp .ge 48, 3) := dX0_ready_k8.2.2.2.2.2
set_option maxRecDepth 100000 in
theorem dX0_ready_k9 : (decode cX0_ready 45 = .ok (.aload_n 0, 1)) ∧ (decode cX0_ready 46 = .ok (.getfield 12, 3)) ∧ (decode cX0_ready 49 = .ok (.iload_n 1, 1)) ∧ (decode cX0_ready 50 = .ok (.invokevirtual 53, 3)) ∧ (decode cX0_ready 53 = .ok (.ifCond .eq 31, 3)) ∧ (decode cX0_ready 56 = .ok (.aload_n 0, 1)) := by decide +kernel
theorem dX0_ready_45 : decode cX0_ready 45 = .ok (.aload_n 0, 1) := dX0_ready_k9.1
theorem dX0_ready_46 : decode cX0_ready 46 = .ok (.getfield 12, 3) := dX0_ready_k9.2.1
theorem dX0_ready_49 : decode cX0_ready 49 = .ok (.iload_n 1, 1) := dX0_ready_k9.2.2.1
theorem dX0_ready_50 : decode cX0_ready 50 = .ok (.invokevirtual 53, 3) := dX0_ready_k9.2.2.2.1
theorem dX0_ready_53 : decode cX0_ready 53 = .ok (.ifCond .eq 31, 3) := dX0_ready_k9.2.2.2.2.1
theorem dX0_ready_56 : decode cX0_ready 56 = .ok (.aload_n 0, 1) := dX0_ready_k9.2.2.2.2.2
set_option maxRecDepth 100000 in
theorem dX0_ready_k10 : (decode cX0_ready 57 = .ok (.getfield 22, 3)) ∧ (decode cX0_ready 60 = .ok (.aload_n 0, 1)) ∧ (decode cX0_ready 61 = .ok (.getfield 12, 3)) ∧ (decode cX0_ready 64 = .ok (.getfield 57, 3)) ∧ (decode cX0_ready 67 = .ok (.iload_n 1, 1)) ∧ (decode cX0_ready 68 = .ok (.iaload, 1)) := by decide +kernel
theorem dX0_ready_57 : decode cX0_ready 57 = .ok (.getfield 22, 3) := dX0_ready_k10.1
theorem dX0_ready_60 : decode cX0_ready 60 = .ok (.aload_n 0, 1) := dX0_ready_k10.2.1
theorem dX0_ready_61 : decode cX0_ready 61 = .ok (.getfield 12, 3) := dX0_ready_k10.2.2.1
theorem dX0_ready_64 : decode cX0_ready 64 = .ok (.getfield 57, 3) := dX0_ready_k10.2.2.2.1
theorem dX0_ready_67 : decode cX0_ready 67 = .ok (.iload_n 1, 1) := dX0_ready_k10.2.2.2.2.1
theorem dX0_ready_68 : decode cX0_ready 68 = .ok (.iaload, 1) := dX0_ready_k10.2.2.2.2.2
set_option maxRecDepth 100000 in
theorem dX0_ready_k11 : (decode cX0_ready 69 = .ok (.dup2, 1)) ∧ (decode cX0_ready 70 = .ok (.iaload, 1)) ∧ (decode cX0_ready 71 = .ok (.iconst 1, 1)) ∧ (decode cX0_ready 72 = .ok (.iadd, 1)) ∧ (decode cX0_ready 73 = .ok (.iastore, 1)) ∧ (decode cX0_ready 74 = .ok (.aload_n 0, 1)) := by decide +kernel
theorem dX0_ready_69 : decode cX0_ready 69 = .ok (.dup2, 1) := dX0_ready_k11.1
theorem dX0_ready_70 : decode cX0_ready 70 = .ok (.iaload, 1) := dX0_ready_k11.2.1
theorem dX0_ready_71 : decode cX0_ready 71 = .ok (.iconst 1, 1) := dX0_ready_k11.2.2.1
theorem dX0_ready_72 : decode cX0_ready 72 = .ok (.iadd, 1) := dX0_ready_k11.2.2.2.1
theorem dX0_ready_73 : decode cX0_ready 73 = .ok (.iastore, 1) := dX0_ready_k11.2.2.2.2.1
theorem dX0_ready_74 : decode cX0_ready 74 = .ok (.aload_n 0, 1) := dX0_ready_k11.2.2.2.2.2
set_option maxRecDepth 100000 in
theorem dX0_ready_k12 : (decode cX0_ready 75 = .ok (.iload_n 1, 1)) ∧ (decode cX0_ready 76 = .ok (.invokevirtual 60, 3)) ∧ (decode cX0_ready 79 = .ok (.aload_n 0, 1)) ∧ (decode cX0_ready 80 = .ok (.iload_n 1, 1)) ∧ (decode cX0_ready 81 = .ok (.invokevirtual 64, 3)) ∧ (decode cX0_ready 84 = .ok (.iinc 1 1, 3)) := by decide +kernel
theorem dX0_ready_75 : decode cX0_ready 75 = .ok (.iload_n 1, 1) := dX0_ready_k12.1
theorem dX0_ready_76 : decode cX0_ready 76 = .ok (.invokevirtual 60, 3) := dX0_ready_k12.2.1
theorem dX0_ready_79 : decode cX0_ready 79 = .ok (.aload_n 0, 1) := dX0_ready_k12.2.2.1
theorem dX0_ready_80 : decode cX0_ready 80 = .ok (.iload_n 1, 1) := dX0_ready_k12.2.2.2.1
theorem dX0_ready_81 : decode cX0_ready 81 = .ok (.invokevirtual 64, 3) := dX0_ready_k12.2.2.2.2.1
theorem dX0_ready_84 : decode cX0_ready 84 = .ok (.iinc 1 1, 3) := dX0_ready_k12.2.2.2.2.2
set_option maxRecDepth 100000 in
theorem dX0_ready_k13 : (decode cX0_ready 87 = .ok (.goto (-48), 3)) ∧ (decode cX0_ready 90 = .ok (.return_, 1)) := by decide +kernel
theorem dX0_ready_87 : decode cX0_ready 87 = .ok (.goto (-48), 3) := dX0_ready_k13.1
theorem dX0_ready_90 : decode cX0_ready 90 = .ok (.return_, 1) := dX0_ready_k13.2
set_option maxRecDepth 100000 in
theorem dX0_readyTastes_k14 : (decode cX0_readyTastes 0 = .ok (.iconst 0, 1)) ∧ (decode cX0_readyTastes 1 = .ok (.istore_n 2, 1)) ∧ (decode cX0_readyTastes 2 = .ok (.iload_n 2, 1)) ∧ (decode cX0_readyTastes 3 = .ok (.aload_n 0, 1)) ∧ (decode cX0_readyTastes 4 = .ok (.getfield 12, 3)) ∧ (decode cX0_readyTastes 7 = .ok (.getfield 67, 3)) := by decide +kernel
theorem dX0_readyTastes_0 : decode cX0_readyTastes 0 = .ok (.iconst 0, 1) := dX0_readyTastes_k14.1
theorem dX0_readyTastes_1 : decode cX0_readyTastes 1 = .ok (.istore_n 2, 1) := dX0_readyTastes_k14.2.1
theorem dX0_readyTastes_2 : decode cX0_readyTastes 2 = .ok (.iload_n 2, 1) := dX0_readyTastes_k14.2.2.1
theorem dX0_readyTastes_3 : decode cX0_readyTastes 3 = .ok (.aload_n 0, 1) := dX0_readyTastes_k14.2.2.2.1
theorem dX0_readyTastes_4 : decode cX0_readyTastes 4 = .ok (.getfield 12, 3) := dX0_readyTastes_k14.2.2.2.2.1
theorem dX0_readyTastes_7 : decode cX0_readyTastes 7 = .ok (.getfield 67, 3) := dX0_readyTastes_k14.2.2.2.2.2
set_option maxRecDepth 100000 in
theorem dX0_readyTastes_k15 : (decode cX0_readyTastes 10 = .ok (.if_icmp .ge 29, 3)) ∧ (decode cX0_readyTastes 13 = .ok (.aload_n 0, 1)) ∧ (decode cX0_readyTastes 14 = .ok (.getfield 18, 3)) ∧ (decode cX0_readyTastes 17 = .ok (.iload_n 1, 1)) ∧ (decode cX0_readyTastes 18 = .ok (.bipush 6, 2)) ∧ (decode cX0_readyTastes 20 = .ok (.imul, 1)) := by decide +kernel
theorem dX0_readyTastes_10 : decode cX0_readyTastes 10 = .ok (.if_icmp .ge 29, 3) := dX0_readyTastes_k15.1
theorem dX0_readyTastes_13 : decode cX0_readyTastes 13 = .ok (.aload_n 0, 1) := dX0_readyTastes_k15.2.1
theorem dX0_readyTastes_14 : decode cX0_readyTastes 14 = .ok (.getfield 18, 3) := dX0_readyTastes_k15.2.2.1
theorem dX0_readyTastes_17 : decode cX0_readyTastes 17 = .ok (.iload_n 1, 1) := dX0_readyTastes_k15.2.2.2.1
theorem dX0_readyTastes_18 : decode cX0_readyTastes 18 = .ok (.bipush 6, 2) := dX0_readyTastes_k15.2.2.2.2.1
theorem dX0_readyTastes_20 : decode cX0_readyTastes 20 = .ok (.imul, 1) := dX0_readyTastes_k15.2.2.2.2.2
set_option maxRecDepth 100000 in
theorem dX0_readyTastes_k16 : (decode cX0_readyTastes 21 = .ok (.iload_n 2, 1)) ∧ (decode cX0_readyTastes 22 = .ok (.iadd, 1)) ∧ (decode cX0_readyTastes 23 = .ok (.aload_n 0, 1)) ∧ (decode cX0_readyTastes 24 = .ok (.getfield 12, 3)) ∧ (decode cX0_readyTastes 27 = .ok (.iload_n 1, 1)) ∧ (decode cX0_readyTastes 28 = .ok (.iload_n 2, 1)) := by decide +kernel
theorem dX0_readyTastes_21 : decode cX0_readyTastes 21 = .ok (.iload_n 2, 1) := dX0_readyTastes_k16.1
theorem dX0_readyTastes_22 : decode cX0_readyTastes 22 = .ok (.iadd, 1) := dX0_readyTastes_k16.2.1
theorem dX0_readyTastes_23 : decode cX0_readyTastes 23 = .ok (.aload_n 0, 1) := dX0_readyTastes_k16.2.2.1
theorem dX0_readyTastes_24 : decode cX0_readyTastes 24 = .ok (.getfield 12, 3) := dX0_readyTastes_k16.2.2.2.1
theorem dX0_readyTastes_27 : decode cX0_readyTastes 27 = .ok (.iload_n 1, 1) := dX0_readyTastes_k16.2.2.2.2.1
theorem dX0_readyTastes_28 : decode cX0_readyTastes 28 = .ok (.iload_n 2, 1) := dX0_readyTastes_k16.2.2.2.2.2
set_option maxRecDepth 100000 in
theorem dX0_readyTastes_k17 : (decode cX0_readyTastes 29 = .ok (.invokevirtual 71, 3)) ∧ (decode cX0_readyTastes 32 = .ok (.iastore, 1)) ∧ (decode cX0_readyTastes 33 = .ok (.iinc 2 1, 3)) ∧ (decode cX0_readyTastes 36 = .ok (.goto (-34), 3)) ∧ (decode cX0_readyTastes 39 = .ok (.return_, 1)) := by decide +kernel
theorem dX0_readyTastes_29 : decode cX0_readyTastes 29 = .ok (.invokevirtual 71, 3) := dX0_readyTastes_k17.1
theorem dX0_readyTastes_32 : decode cX0_readyTastes 32 = .ok (.iastore, 1) := dX0_readyTastes_k17.2.1
theorem dX0_readyTastes_33 : decode cX0_readyTastes 33 = .ok (.iinc 2 1, 3) := dX0_readyTastes_k17.2.2.1
theorem dX0_readyTastes_36 : decode cX0_readyTastes 36 = .ok (.goto (-34), 3) := dX0_readyTastes_k17.2.2.2.1
theorem dX0_readyTastes_39 : decode cX0_readyTastes 39 = .ok (.return_, 1) := dX0_readyTastes_k17.2.2.2.2
set_option maxRecDepth 100000 in
theorem dX0_readyJam_k18 : (decode cX0_readyJam 0 = .ok (.aload_n 0, 1)) ∧ (decode cX0_readyJam 1 = .ok (.getfield 12, 3)) ∧ (decode cX0_readyJam 4 = .ok (.getfield 57, 3)) ∧ (decode cX0_readyJam 7 = .ok (.iload_n 1, 1)) ∧ (decode cX0_readyJam 8 = .ok (.iaload, 1)) ∧ (decode cX0_readyJam 9 = .ok (.istore_n 2, 1)) := by decide +kernel
theorem dX0_readyJam_0 : decode cX0_readyJam 0 = .ok (.aload_n 0, 1) := dX0_readyJam_k18.1
theorem dX0_readyJam_1 : decode cX0_readyJam 1 = .ok (.getfield 12, 3) := dX0_readyJam_k18.2.1
theorem dX0_readyJam_4 : decode cX0_readyJam 4 = .ok (.getfield 57, 3) := dX0_readyJam_k18.2.2.1
theorem dX0_readyJam_7 : decode cX0_readyJam 7 = .ok (.iload_n 1, 1) := dX0_readyJam_k18.2.2.2.1
theorem dX0_readyJam_8 : decode cX0_readyJam 8 = .ok (.iaload, 1) := dX0_readyJam_k18.2.2.2.2.1
theorem dX0_readyJam_9 : decode cX0_readyJam 9 = .ok (.istore_n 2, 1) := dX0_readyJam_k18.2.2.2.2.2
set_option maxRecDepth 100000 in
theorem dX0_readyJam_k19 : (decode cX0_readyJam 10 = .ok (.aload_n 0, 1)) ∧ (decode cX0_readyJam 11 = .ok (.getfield 12, 3)) ∧ (decode cX0_readyJam 14 = .ok (.getfield 75, 3)) ∧ (decode cX0_readyJam 17 = .ok (.iload_n 1, 1)) ∧ (decode cX0_readyJam 18 = .ok (.iaload, 1)) ∧ (decode cX0_readyJam 19 = .ok (.istore_n 3, 1)) := by decide +kernel
theorem dX0_readyJam_10 : decode cX0_readyJam 10 = .ok (.aload_n 0, 1) := dX0_readyJam_k19.1
theorem dX0_readyJam_11 : decode cX0_readyJam 11 = .ok (.getfield 12, 3) := dX0_readyJam_k19.2.1
theorem dX0_readyJam_14 : decode cX0_readyJam 14 = .ok (.getfield 75, 3) := dX0_readyJam_k19.2.2.1
theorem dX0_readyJam_17 : decode cX0_readyJam 17 = .ok (.iload_n 1, 1) := dX0_readyJam_k19.2.2.2.1
theorem dX0_readyJam_18 : decode cX0_readyJam 18 = .ok (.iaload, 1) := dX0_readyJam_k19.2.2.2.2.1
theorem dX0_readyJam_19 : decode cX0_readyJam 19 = .ok (.istore_n 3, 1) := dX0_readyJam_k19.2.2.2.2.2
set_option maxRecDepth 100000 in
theorem dX0_readyJam_k20 : (decode cX0_readyJam 20 = .ok (.aload_n 0, 1)) ∧ (decode cX0_readyJam 21 = .ok (.getfield 12, 3)) ∧ (decode cX0_readyJam 24 = .ok (.getfield 78, 3)) ∧ (decode cX0_readyJam 27 = .ok (.iload_n 1, 1)) ∧ (decode cX0_readyJam 28 = .ok (.iaload, 1)) ∧ (decode cX0_readyJam 29 = .ok (.iconst 3, 1)) := by decide +kernel
theorem dX0_readyJam_20 : decode cX0_readyJam 20 = .ok (.aload_n 0, 1) := dX0_readyJam_k20.1
theorem dX0_readyJam_21 : decode cX0_readyJam 21 = .ok (.getfield 12, 3) := dX0_readyJam_k20.2.1
theorem dX0_readyJam_24 : decode cX0_readyJam 24 = .ok (.getfield 78, 3) := dX0_readyJam_k20.2.2.1
theorem dX0_readyJam_27 : decode cX0_readyJam 27 = .ok (.iload_n 1, 1) := dX0_readyJam_k20.2.2.2.1
theorem dX0_readyJam_28 : decode cX0_readyJam 28 = .ok (.iaload, 1) := dX0_readyJam_k20.2.2.2.2.1
theorem dX0_readyJam_29 : decode cX0_readyJam 29 = .ok (.iconst 3, 1) := dX0_readyJam_k20.2.2.2.2.2
set_option maxRecDepth 100000 in
theorem dX0_readyJam_k21 : (decode cX0_readyJam 30 = .ok (.if_icmp .ne 44, 3)) ∧ (decode cX0_readyJam 33 = .ok (.aload_n 0, 1)) ∧ (decode cX0_readyJam 34 = .ok (.getfield 12, 3)) ∧ (decode cX0_readyJam 37 = .ok (.iload_n 3, 1)) ∧ (decode cX0_readyJam 38 = .ok (.invokevirtual 81, 3)) ∧ (decode cX0_readyJam 41 = .ok (.ifCond .eq 33, 3)) := by decide +kernel
theorem dX0_readyJam_30 : decode cX0_readyJam 30 = .ok (.if_icmp .ne 44, 3) := dX0_readyJam_k21.1
theorem dX0_readyJam_33 : decode cX0_readyJam 33 = .ok (.aload_n 0, 1) := dX0_readyJam_k21.2.1
theorem dX0_readyJam_34 : decode cX0_readyJam 34 = .ok (.getfield 12, 3) := dX0_readyJam_k21.2.2.1
theorem dX0_readyJam_37 : decode cX0_readyJam 37 = .ok (.iload_n 3, 1) := dX0_readyJam_k21.2.2.2.1
theorem dX0_readyJam_38 : decode cX0_readyJam 38 = .ok (.invokevirtual 81, 3) := dX0_readyJam_k21.2.2.2.2.1
theorem dX0_readyJam_41 : decode cX0_readyJam 41 = .ok (.ifCond .eq 33, 3) := dX0_readyJam_k21.2.2.2.2.2
set_option maxRecDepth 100000 in
theorem dX0_readyJam_k22 : (decode cX0_readyJam 44 = .ok (.aload_n 0, 1)) ∧ (decode cX0_readyJam 45 = .ok (.getfield 25, 3)) ∧ (decode cX0_readyJam 48 = .ok (.iload_n 2, 1)) ∧ (decode cX0_readyJam 49 = .ok (.bipush 6, 2)) ∧ (decode cX0_readyJam 51 = .ok (.imul, 1)) ∧ (decode cX0_readyJam 52 = .ok (.iload_n 3, 1)) := by decide +kernel
theorem dX0_readyJam_44 : decode cX0_readyJam 44 = .ok (.aload_n 0, 1) := dX0_readyJam_k22.1
theorem dX0_readyJam_45 : decode cX0_readyJam 45 = .ok (.getfield 25, 3) := dX0_readyJam_k22.2.1
theorem dX0_readyJam_48 : decode cX0_readyJam 48 = .ok (.iload_n 2, 1) := dX0_readyJam_k22.2.2.1
theorem dX0_readyJam_49 : decode cX0_readyJam 49 = .ok (.bipush 6, 2) := dX0_readyJam_k22.2.2.2.1
theorem dX0_readyJam_51 : decode cX0_readyJam 51 = .ok (.imul, 1) := dX0_readyJam_k22.2.2.2.2.1
theorem dX0_readyJam_52 : decode cX0_readyJam 52 = .ok (.iload_n 3, 1) := dX0_readyJam_k22.2.2.2.2.2
set_option maxRecDepth 100000 in
theorem dX0_readyJam_k23 : (decode cX0_readyJam 53 = .ok (.iadd, 1)) ∧ (decode cX0_readyJam 54 = .ok (.dup2, 1)) ∧ (decode cX0_readyJam 55 = .ok (.iaload, 1)) ∧ (decode cX0_readyJam 56 = .ok (.iconst 1, 1)) ∧ (decode cX0_readyJam 57 = .ok (.isub, 1)) ∧ (decode cX0_readyJam 58 = .ok (.iastore, 1)) := by decide +kernel
theorem dX0_readyJam_53 : decode cX0_readyJam 53 = .ok (.iadd, 1) := dX0_readyJam_k23.1
theorem dX0_readyJam_54 : decode cX0_readyJam 54 = .ok (.dup2, 1) := dX0_readyJam_k23.2.1
theorem dX0_readyJam_55 : decode cX0_readyJam 55 = .ok (.iaload, 1) := dX0_readyJam_k23.2.2.1
theorem dX0_readyJam_56 : decode cX0_readyJam 56 = .ok (.iconst 1, 1) := dX0_readyJam_k23.2.2.2.1
theorem dX0_readyJam_57 : decode cX0_readyJam 57 = .ok (.isub, 1) := dX0_readyJam_k23.2.2.2.2.1
theorem dX0_readyJam_58 : decode cX0_readyJam 58 = .ok (.iastore, 1) := dX0_readyJam_k23.2.2.2.2.2
set_option maxRecDepth 100000 in
theorem dX0_readyJam_k24 : (decode cX0_readyJam 59 = .ok (.aload_n 0, 1)) ∧ (decode cX0_readyJam 60 = .ok (.getfield 25, 3)) ∧ (decode cX0_readyJam 63 = .ok (.iload_n 3, 1)) ∧ (decode cX0_readyJam 64 = .ok (.bipush 6, 2)) ∧ (decode cX0_readyJam 66 = .ok (.imul, 1)) ∧ (decode cX0_readyJam 67 = .ok (.iload_n 2, 1)) := by decide +kernel
theorem dX0_readyJam_59 : decode cX0_readyJam 59 = .ok (.aload_n 0, 1) := dX0_readyJam_k24.1
theorem dX0_readyJam_60 : decode cX0_readyJam 60 = .ok (.getfield 25, 3) := dX0_readyJam_k24.2.1
theorem dX0_readyJam_63 : decode cX0_readyJam 63 = .ok (.iload_n 3, 1) := dX0_readyJam_k24.2.2.1
theorem dX0_readyJam_64 : decode cX0_readyJam 64 = .ok (.bipush 6, 2) := dX0_readyJam_k24.2.2.2.1
theorem dX0_readyJam_66 : decode cX0_readyJam 66 = .ok (.imul, 1) := dX0_readyJam_k24.2.2.2.2.1
theorem dX0_readyJam_67 : decode cX0_readyJam 67 = .ok (.iload_n 2, 1) := dX0_readyJam_k24.2.2.2.2.2
set_option maxRecDepth 100000 in
theorem dX0_readyJam_k25 : (decode cX0_readyJam 68 = .ok (.iadd, 1)) ∧ (decode cX0_readyJam 69 = .ok (.dup2, 1)) ∧ (decode cX0_readyJam 70 = .ok (.iaload, 1)) ∧ (decode cX0_readyJam 71 = .ok (.iconst 1, 1)) ∧ (decode cX0_readyJam 72 = .ok (.isub, 1)) ∧ (decode cX0_readyJam 73 = .ok (.iastore, 1)) := by decide +kernel
theorem dX0_readyJam_68 : decode cX0_readyJam 68 = .ok (.iadd, 1) := dX0_readyJam_k25.1
theorem dX0_readyJam_69 : decode cX0_readyJam 69 = .ok (.dup2, 1) := dX0_readyJam_k25.2.1
theorem dX0_readyJam_70 : decode cX0_readyJam 70 = .ok (.iaload, 1) := dX0_readyJam_k25.2.2.1
theorem dX0_readyJam_71 : decode cX0_readyJam 71 = .ok (.iconst 1, 1) := dX0_readyJam_k25.2.2.2.1
theorem dX0_readyJam_72 : decode cX0_readyJam 72 = .ok (.isub, 1) := dX0_readyJam_k25.2.2.2.2.1
theorem dX0_readyJam_73 : decode cX0_readyJam 73 = .ok (.iastore, 1) := dX0_readyJam_k25.2.2.2.2.2
theorem dX0_readyJam_74 : decode cX0_readyJam 74 = .ok (.return_, 1) := by decide +kernel
set_option maxRecDepth 100000 in
theorem dX0_unhinge_k26 : (decode cX0_unhinge 0 = .ok (.aload_n 0, 1)) ∧ (decode cX0_unhinge 1 = .ok (.getfield 25, 3)) ∧ (decode cX0_unhinge 4 = .ok (.iload_n 1, 1)) ∧ (decode cX0_unhinge 5 = .ok (.bipush 6, 2)) ∧ (decode cX0_unhinge 7 = .ok (.imul, 1)) ∧ (decode cX0_unhinge 8 = .ok (.iload_n 2, 1)) := by decide +kernel
theorem dX0_unhinge_0 : decode cX0_unhinge 0 = .ok (.aload_n 0, 1) := dX0_unhinge_k26.1
theorem dX0_unhinge_1 : decode cX0_unhinge 1 = .ok (.getfield 25, 3) := dX0_unhinge_k26.2.1
theorem dX0_unhinge_4 : decode cX0_unhinge 4 = .ok (.iload_n 1, 1) := dX0_unhinge_k26.2.2.1
theorem dX0_unhinge_5 : decode cX0_unhinge 5 = .ok (.bipush 6, 2) := dX0_unhinge_k26.2.2.2.1
theorem dX0_unhinge_7 : decode cX0_unhinge 7 = .ok (.imul, 1) := dX0_unhinge_k26.2.2.2.2.1
theorem dX0_unhinge_8 : decode cX0_unhinge 8 = .ok (.iload_n 2, 1) := dX0_unhinge_k26.2.2.2.2.2
set_option maxRecDepth 100000 in
theorem dX0_unhinge_k27 : (decode cX0_unhinge 9 = .ok (.iadd, 1)) ∧ (decode cX0_unhinge 10 = .ok (.sipush 1000, 3)) ∧ (decode cX0_unhinge 13 = .ok (.iastore, 1)) ∧ (decode cX0_unhinge 14 = .ok (.aload_n 0, 1)) ∧ (decode cX0_unhinge 15 = .ok (.getfield 25, 3)) ∧ (decode cX0_unhinge 18 = .ok (.iload_n 2, 1)) := by decide +kernel
theorem dX0_unhinge_9 : decode cX0_unhinge 9 = .ok (.iadd, 1) := dX0_unhinge_k27.1
theorem dX0_unhinge_10 : decode cX0_unhinge 10 = .ok (.sipush 1000, 3) := dX0_unhinge_k27.2.1
theorem dX0_unhinge_13 : decode cX0_unhinge 13 = .ok (.iastore, 1) := dX0_unhinge_k27.2.2.1
theorem dX0_unhinge_14 : decode cX0_unhinge 14 = .ok (.aload_n 0, 1) := dX0_unhinge_k27.2.2.2.1
theorem dX0_unhinge_15 : decode cX0_unhinge 15 = .ok (.getfield 25, 3) := dX0_unhinge_k27.2.2.2.2.1
theorem dX0_unhinge_18 : decode cX0_unhinge 18 = .ok (.iload_n 2, 1) := dX0_unhinge_k27.2.2.2.2.2
set_option maxRecDepth 100000 in
theorem dX0_unhinge_k28 : (decode cX0_unhinge 19 = .ok (.bipush 6, 2)) ∧ (decode cX0_unhinge 21 = .ok (.imul, 1)) ∧ (decode cX0_unhinge 22 = .ok (.iload_n 1, 1)) ∧ (decode cX0_unhinge 23 = .ok (.iadd, 1)) ∧ (decode cX0_unhinge 24 = .ok (.sipush 1000, 3)) ∧ (decode cX0_unhinge 27 = .ok (.iastore, 1)) := by decide +kernel
theorem dX0_unhinge_19 : decode cX0_unhinge 19 = .ok (.bipush 6, 2) := dX0_unhinge_k28.1
theorem dX0_unhinge_21 : decode cX0_unhinge 21 = .ok (.imul, 1) := dX0_unhinge_k28.2.1
theorem dX0_unhinge_22 : decode cX0_unhinge 22 = .ok (.iload_n 1, 1) := dX0_unhinge_k28.2.2.1
theorem dX0_unhinge_23 : decode cX0_unhinge 23 = .ok (.iadd, 1) := dX0_unhinge_k28.2.2.2.1
theorem dX0_unhinge_24 : decode cX0_unhinge 24 = .ok (.sipush 1000, 3) := dX0_unhinge_k28.2.2.2.2.1
theorem dX0_unhinge_27 : decode cX0_unhinge 27 = .ok (.iastore, 1) := dX0_unhinge_k28.2.2.2.2.2
theorem dX0_unhinge_28 : decode cX0_unhinge 28 = .ok (.return_, 1) := by decide +kernel
set_option maxRecDepth 100000 in
theorem dX0_target_k29 : (decode cX0_target 0 = .ok (.aload_n 0, 1)) ∧ (decode cX0_target 1 = .ok (.getfield 12, 3)) ∧ (decode cX0_target 4 = .ok (.getfield 57, 3)) ∧ (decode cX0_target 7 = .ok (.iload_n 1, 1)) ∧ (decode cX0_target 8 = .ok (.iaload, 1)) ∧ (decode cX0_target 9 = .ok (.istore_n 2, 1)) := by decide +kernel
theorem dX0_target_0 : decode cX0_target 0 = .ok (.aload_n 0, 1) := dX0_target_k29.1
theorem dX0_target_1 : decode cX0_target 1 = .ok (.getfield 12, 3) := dX0_target_k29.2.1
theorem dX0_target_4 : decode cX0_target 4 = .ok (.getfield 57, 3) := dX0_target_k29.2.2.1
theorem dX0_target_7 : decode cX0_target 7 = .ok (.iload_n 1, 1) := dX0_target_k29.2.2.2.1
theorem dX0_target_8 : decode cX0_target 8 = .ok (.iaload, 1) := dX0_target_k29.2.2.2.2.1
theorem dX0_target_9 : decode cX0_target 9 = .ok (.istore_n 2, 1) := dX0_target_k29.2.2.2.2.2
set_option maxRecDepth 100000 in
theorem dX0_target_k30 : (decode cX0_target 10 = .ok (.aload_n 0, 1)) ∧ (decode cX0_target 11 = .ok (.getfield 12, 3)) ∧ (decode cX0_target 14 = .ok (.getfield 84, 3)) ∧ (decode cX0_target 17 = .ok (.iload_n 1, 1)) ∧ (decode cX0_target 18 = .ok (.iconst 5, 1)) ∧ (decode cX0_target 19 = .ok (.imul, 1)) := by decide +kernel
theorem dX0_target_10 : decode cX0_target 10 = .ok (.aload_n 0, 1) := dX0_target_k30.1
theorem dX0_target_11 : decode cX0_target 11 = .ok (.getfield 12, 3) := dX0_target_k30.2.1
theorem dX0_target_14 : decode cX0_target 14 = .ok (.getfield 84, 3) := dX0_target_k30.2.2.1
theorem dX0_target_17 : decode cX0_target 17 = .ok (.iload_n 1, 1) := dX0_target_k30.2.2.2.1
theorem dX0_target_18 : decode cX0_target 18 = .ok (.iconst 5, 1) := dX0_target_k30.2.2.2.2.1
theorem dX0_target_19 : decode cX0_target 19 = .ok (.imul, 1) := dX0_target_k30.2.2.2.2.2
set_option maxRecDepth 100000 in
theorem dX0_target_k31 : (decode cX0_target 20 = .ok (.iconst 4, 1)) ∧ (decode cX0_target 21 = .ok (.iadd, 1)) ∧ (decode cX0_target 22 = .ok (.iaload, 1)) ∧ (decode cX0_target 23 = .ok (.istore_n 3, 1)) ∧ (decode cX0_target 24 = .ok (.iload_n 2, 1)) ∧ (decode cX0_target 25 = .ok (.istore 4, 2)) := by decide +kernel
theorem dX0_target_20 : decode cX0_target 20 = .ok (.iconst 4, 1) := dX0_target_k31.1
theorem dX0_target_21 : decode cX0_target 21 = .ok (.iadd, 1) := dX0_target_k31.2.1
theorem dX0_target_22 : decode cX0_target 22 = .ok (.iaload, 1) := dX0_target_k31.2.2.1
theorem dX0_target_23 : decode cX0_target 23 = .ok (.istore_n 3, 1) := dX0_target_k31.2.2.2.1
theorem dX0_target_24 : decode cX0_target 24 = .ok (.iload_n 2, 1) := dX0_target_k31.2.2.2.2.1
theorem dX0_target_25 : decode cX0_target 25 = .ok (.istore 4, 2) := dX0_target_k31.2.2.2.2.2
set_option maxRecDepth 100000 in
theorem dX0_target_k32 : (decode cX0_target 27 = .ok (.aload_n 0, 1)) ∧ (decode cX0_target 28 = .ok (.getfield 18, 3)) ∧ (decode cX0_target 31 = .ok (.iload_n 1, 1)) ∧ (decode cX0_target 32 = .ok (.bipush 6, 2)) ∧ (decode cX0_target 34 = .ok (.imul, 1)) ∧ (decode cX0_target 35 = .ok (.iload_n 2, 1)) := by decide +kernel
theorem dX0_target_27 : decode cX0_target 27 = .ok (.aload_n 0, 1) := dX0_target_k32.1
theorem dX0_target_28 : decode cX0_target 28 = .ok (.getfield 18, 3) := dX0_target_k32.2.1
theorem dX0_target_31 : decode cX0_target 31 = .ok (.iload_n 1, 1) := dX0_target_k32.2.2.1
theorem dX0_target_32 : decode cX0_target 32 = .ok (.bipush 6, 2) := dX0_target_k32.2.2.2.1
theorem dX0_target_34 : decode cX0_target 34 = .ok (.imul, 1) := dX0_target_k32.2.2.2.2.1
theorem dX0_target_35 : decode cX0_target 35 = .ok (.iload_n 2, 1) := dX0_target_k32.2.2.2.2.2
set_option maxRecDepth 100000 in
theorem dX0_target_k33 : (decode cX0_target 36 = .ok (.iadd, 1)) ∧ (decode cX0_target 37 = .ok (.iaload, 1)) ∧ (decode cX0_target 38 = .ok (.iload_n 3, 1)) ∧ (decode cX0_target 39 = .ok (.aload_n 0, 1)) ∧ (decode cX0_target 40 = .ok (.getfield 22, 3)) ∧ (decode cX0_target 43 = .ok (.iload_n 2, 1)) := by decide +kernel
theorem dX0_target_36 : decode cX0_target 36 = .ok (.iadd, 1) := dX0_target_k33.1
theorem dX0_target_37 : decode cX0_target 37 = .ok (.iaload, 1) := dX0_target_k33.2.1
theorem dX0_target_38 : decode cX0_target 38 = .ok (.iload_n 3, 1) := dX0_target_k33.2.2.1
theorem dX0_target_39 : decode cX0_target 39 = .ok (.aload_n 0, 1) := dX0_target_k33.2.2.2.1
theorem dX0_target_40 : decode cX0_target 40 = .ok (.getfield 22, 3) := dX0_target_k33.2.2.2.2.1
theorem dX0_target_43 : decode cX0_target 43 = .ok (.iload_n 2, 1) := dX0_target_k33.2.2.2.2.2
set_option maxRecDepth 100000 in
theorem dX0_target_k34 : (decode cX0_target 44 = .ok (.iaload, 1)) ∧ (decode cX0_target 45 = .ok (.iconst 1, 1)) ∧ (decode cX0_target 46 = .ok (.isub, 1)) ∧ (decode cX0_target 47 = .ok (.imul, 1)) ∧ (decode cX0_target 48 = .ok (.iadd, 1)) ∧ (decode cX0_target 49 = .ok (.istore 5, 2)) := by decide +kernel
theorem dX0_target_44 : decode cX0_target 44 = .ok (.iaload, 1) := dX0_target_k34.1
theorem dX0_target_45 : decode cX0_target 45 = .ok (.iconst 1, 1) := dX0_target_k34.2.1
theorem dX0_target_46 : decode cX0_target 46 = .ok (.isub, 1) := dX0_target_k34.2.2.1
theorem dX0_target_47 : decode cX0_target 47 = .ok (.imul, 1) := dX0_target_k34.2.2.2.1
theorem dX0_target_48 : decode cX0_target 48 = .ok (.iadd, 1) := dX0_target_k34.2.2.2.2.1
theorem dX0_target_49 : decode cX0_target 49 = .ok (.istore 5, 2) := dX0_target_k34.2.2.2.2.2
set_option maxRecDepth 100000 in
theorem dX0_target_k35 : (decode cX0_target 51 = .ok (.iconst 0, 1)) ∧ (decode cX0_target 52 = .ok (.istore 6, 2)) ∧ (decode cX0_target 54 = .ok (.iload 6, 2)) ∧ (decode cX0_target 56 = .ok (.aload_n 0, 1)) ∧ (decode cX0_target 57 = .ok (.getfield 12, 3)) ∧ (decode cX0_target 60 = .ok (.getfield 67, 3)) := by decide +kernel
theorem dX0_target_51 : decode cX0_target 51 = .ok (.iconst 0, 1) := dX0_target_k35.1
theorem dX0_target_52 : decode cX0_target 52 = .ok (.istore 6, 2) := dX0_target_k35.2.1
theorem dX0_target_54 : decode cX0_target 54 = .ok (.iload 6, 2) := dX0_target_k35.2.2.1
theorem dX0_target_56 : decode cX0_target 56 = .ok (.aload_n 0, 1) := dX0_target_k35.2.2.2.1
theorem dX0_target_57 : decode cX0_target 57 = .ok (.getfield 12, 3) := dX0_target_k35.2.2.2.2.1
theorem dX0_target_60 : decode cX0_target 60 = .ok (.getfield 67, 3) := dX0_target_k35.2.2.2.2.2
set_option maxRecDepth 100000 in
theorem dX0_target_k36 : (decode cX0_target 63 = .ok (.if_icmp .ge 99, 3)) ∧ (decode cX0_target 66 = .ok (.iload_n 2, 1)) ∧ (decode cX0_target 67 = .ok (.bipush 6, 2)) ∧ (decode cX0_target 69 = .ok (.imul, 1)) ∧ (decode cX0_target 70 = .ok (.iload 6, 2)) ∧ (decode cX0_target 72 = .ok (.iadd, 1)) := by decide +kernel
theorem dX0_target_63 : decode cX0_target 63 = .ok (.if_icmp .ge 99, 3) := dX0_target_k36.1
theorem dX0_target_66 : decode cX0_target 66 = .ok (.iload_n 2, 1) := dX0_target_k36.2.1
theorem dX0_target_67 : decode cX0_target 67 = .ok (.bipush 6, 2) := dX0_target_k36.2.2.1
theorem dX0_target_69 : decode cX0_target 69 = .ok (.imul, 1) := dX0_target_k36.2.2.2.1
theorem dX0_target_70 : decode cX0_target 70 = .ok (.iload 6, 2) := dX0_target_k36.2.2.2.2.1
theorem dX0_target_72 : decode cX0_target 72 = .ok (.iadd, 1) := dX0_target_k36.2.2.2.2.2
set_option maxRecDepth 100000 in
theorem dX0_target_k37 : (decode cX0_target 73 = .ok (.istore 7, 2)) ∧ (decode cX0_target 75 = .ok (.aload_n 0, 1)) ∧ (decode cX0_target 76 = .ok (.getfield 28, 3)) ∧ (decode cX0_target 79 = .ok (.iload 7, 2)) ∧ (decode cX0_target 81 = .ok (.iaload, 1)) ∧ (decode cX0_target 82 = .ok (.aload_n 0, 1)) := by decide +kernel
theorem dX0_target_73 : decode cX0_target 73 = .ok (.istore 7, 2) := dX0_target_k37.1
theorem dX0_target_75 : decode cX0_target 75 = .ok (.aload_n 0, 1) := dX0_target_k37.2.1
theorem dX0_target_76 : decode cX0_target 76 = .ok (.getfield 28, 3) := dX0_target_k37.2.2.1
theorem dX0_target_79 : decode cX0_target 79 = .ok (.iload 7, 2) := dX0_target_k37.2.2.2.1
theorem dX0_target_81 : decode cX0_target 81 = .ok (.iaload, 1) := dX0_target_k37.2.2.2.2.1
theorem dX0_target_82 : decode cX0_target 82 = .ok (.aload_n 0, 1) := dX0_target_k37.2.2.2.2.2
set_option maxRecDepth 100000 in
theorem dX0_target_k38 : (decode cX0_target 83 = .ok (.getfield 25, 3)) ∧ (decode cX0_target 86 = .ok (.iload 7, 2)) ∧ (decode cX0_target 88 = .ok (.iaload, 1)) ∧ (decode cX0_target 89 = .ok (.if_icmp .ge 67, 3)) ∧ (decode cX0_target 92 = .ok (.aload_n 0, 1)) ∧ (decode cX0_target 93 = .ok (.getfield 22, 3)) := by decide +kernel
theorem dX0_target_83 : decode cX0_target 83 = .ok (.getfield 25, 3) := dX0_target_k38.1
theorem dX0_target_86 : decode cX0_target 86 = .ok (.iload 7, 2) := dX0_target_k38.2.1
theorem dX0_target_88 : decode cX0_target 88 = .ok (.iaload, 1) := dX0_target_k38.2.2.1
theorem dX0_target_89 : decode cX0_target 89 = .ok (.if_icmp .ge 67, 3) := dX0_target_k38.2.2.2.1
theorem dX0_target_92 : decode cX0_target 92 = .ok (.aload_n 0, 1) := dX0_target_k38.2.2.2.2.1
theorem dX0_target_93 : decode cX0_target 93 = .ok (.getfield 22, 3) := dX0_target_k38.2.2.2.2.2
set_option maxRecDepth 100000 in
theorem dX0_target_k39 : (decode cX0_target 96 = .ok (.iload 6, 2)) ∧ (decode cX0_target 98 = .ok (.iaload, 1)) ∧ (decode cX0_target 99 = .ok (.aload_n 0, 1)) ∧ (decode cX0_target 100 = .ok (.getfield 12, 3)) ∧ (decode cX0_target 103 = .ok (.getfield 87, 3)) ∧ (decode cX0_target 106 = .ok (.iload 6, 2)) := by decide +kernel
theorem dX0_target_96 : decode cX0_target 96 = .ok (.iload 6, 2) := dX0_target_k39.1
theorem dX0_target_98 : decode cX0_target 98 = .ok (.iaload, 1) := dX0_target_k39.2.1
theorem dX0_target_99 : decode cX0_target 99 = .ok (.aload_n 0, 1) := dX0_target_k39.2.2.1
theorem dX0_target_100 : decode cX0_target 100 = .ok (.getfield 12, 3) := dX0_target_k39.2.2.2.1
theorem dX0_target_103 : decode cX0_target 103 = .ok (.getfield 87, 3) := dX0_target_k39.2.2.2.2.1
theorem dX0_target_106 : decode cX0_target 106 = .ok (.iload 6, 2) := dX0_target_k39.2.2.2.2.2
set_option maxRecDepth 100000 in
theorem dX0_target_k40 : (decode cX0_target 108 = .ok (.bipush 6, 2)) ∧ (decode cX0_target 110 = .ok (.imul, 1)) ∧ (decode cX0_target 111 = .ok (.iconst 4, 1)) ∧ (decode cX0_target 112 = .ok (.iadd, 1)) ∧ (decode cX0_target 113 = .ok (.iaload, 1)) ∧ (decode cX0_target 114 = .ok (.if_icmp .ge 42, 3)) := by decide +kernel
theorem dX0_target_108 : decode cX0_target 108 = .ok (.bipush 6, 2) := dX0_target_k40.1
theorem dX0_target_110 : decode cX0_target 110 = .ok (.imul, 1) := dX0_target_k40.2.1
theorem dX0_target_111 : decode cX0_target 111 = .ok (.iconst 4, 1) := dX0_target_k40.2.2.1
theorem dX0_target_112 : decode cX0_target 112 = .ok (.iadd, 1) := dX0_target_k40.2.2.2.1
theorem dX0_target_113 : decode cX0_target 113 = .ok (.iaload, 1) := dX0_target_k40.2.2.2.2.1
theorem dX0_target_114 : decode cX0_target 114 = .ok (.if_icmp .ge 42, 3) := dX0_target_k40.2.2.2.2.2
set_option maxRecDepth 100000 in
theorem dX0_target_k41 : (decode cX0_target 117 = .ok (.aload_n 0, 1)) ∧ (decode cX0_target 118 = .ok (.getfield 18, 3)) ∧ (decode cX0_target 121 = .ok (.iload_n 1, 1)) ∧ (decode cX0_target 122 = .ok (.bipush 6, 2)) ∧ (decode cX0_target 124 = .ok (.imul, 1)) ∧ (decode cX0_target 125 = .ok (.iload 6, 2)) := by decide +kernel
theorem dX0_target_117 : decode cX0_target 117 = .ok (.aload_n 0, 1) := dX0_target_k41.1
theorem dX0_target_118 : decode cX0_target 118 = .ok (.getfield 18, 3) := dX0_target_k41.2.1
theorem dX0_target_121 : decode cX0_target 121 = .ok (.iload_n 1, 1) := dX0_target_k41.2.2.1
theorem dX0_target_122 : decode cX0_target 122 = .ok (.bipush 6, 2) := dX0_target_k41.2.2.2.1
theorem dX0_target_124 : decode cX0_target 124 = .ok (.imul, 1) := dX0_target_k41.2.2.2.2.1
theorem dX0_target_125 : decode cX0_target 125 = .ok (.iload 6, 2) := dX0_target_k41.2.2.2.2.2
set_option maxRecDepth 100000 in
theorem dX0_target_k42 : (decode cX0_target 127 = .ok (.iadd, 1)) ∧ (decode cX0_target 128 = .ok (.iaload, 1)) ∧ (decode cX0_target 129 = .ok (.iload_n 3, 1)) ∧ (decode cX0_target 130 = .ok (.aload_n 0, 1)) ∧ (decode cX0_target 131 = .ok (.getfield 22, 3)) ∧ (decode cX0_target 134 = .ok (.iload 6, 2)) := by decide +kernel
theorem dX0_target_127 : decode cX0_target 127 = .ok (.iadd, 1) := dX0_target_k42.1
theorem dX0_target_128 : decode cX0_target 128 = .ok (.iaload, 1) := dX0_target_k42.2.1
theorem dX0_target_129 : decode cX0_target 129 = .ok (.iload_n 3, 1) := dX0_target_k42.2.2.1
theorem dX0_target_130 : decode cX0_target 130 = .ok (.aload_n 0, 1) := dX0_target_k42.2.2.2.1
theorem dX0_target_131 : decode cX0_target 131 = .ok (.getfield 22, 3) := dX0_target_k42.2.2.2.2.1
theorem dX0_target_134 : decode cX0_target 134 = .ok (.iload 6, 2) := dX0_target_k42.2.2.2.2.2
set_option maxRecDepth 100000 in
theorem dX0_target_k43 : (decode cX0_target 136 = .ok (.iaload, 1)) ∧ (decode cX0_target 137 = .ok (.imul, 1)) ∧ (decode cX0_target 138 = .ok (.iadd, 1)) ∧ (decode cX0_target 139 = .ok (.istore 8, 2)) ∧ (decode cX0_target 141 = .ok (.iload 8, 2)) ∧ (decode cX0_target 143 = .ok (.iload 5, 2)) := by decide +kernel
theorem dX0_target_136 : decode cX0_target 136 = .ok (.iaload, 1) := dX0_target_k43.1
theorem dX0_target_137 : decode cX0_target 137 = .ok (.imul, 1) := dX0_target_k43.2.1
theorem dX0_target_138 : decode cX0_target 138 = .ok (.iadd, 1) := dX0_target_k43.2.2.1
theorem dX0_target_139 : decode cX0_target 139 = .ok (.istore 8, 2) := dX0_target_k43.2.2.2.1
theorem dX0_target_141 : decode cX0_target 141 = .ok (.iload 8, 2) := dX0_target_k43.2.2.2.2.1
theorem dX0_target_143 : decode cX0_target 143 = .ok (.iload 5, 2) := dX0_target_k43.2.2.2.2.2
set_option maxRecDepth 100000 in
theorem dX0_target_k44 : (decode cX0_target 145 = .ok (.if_icmp .le 11, 3)) ∧ (decode cX0_target 148 = .ok (.iload 8, 2)) ∧ (decode cX0_target 150 = .ok (.istore 5, 2)) ∧ (decode cX0_target 152 = .ok (.iload 6, 2)) ∧ (decode cX0_target 154 = .ok (.istore 4, 2)) ∧ (decode cX0_target 156 = .ok (.iinc 6 1, 3)) := by decide +kernel
theorem dX0_target_145 : decode cX0_target 145 = .ok (.if_icmp .le 11, 3) := dX0_target_k44.1
theorem dX0_target_148 : decode cX0_target 148 = .ok (.iload 8, 2) := dX0_target_k44.2.1
theorem dX0_target_150 : decode cX0_target 150 = .ok (.istore 5, 2) := dX0_target_k44.2.2.1
theorem dX0_target_152 : decode cX0_target 152 = .ok (.iload 6, 2) := dX0_target_k44.2.2.2.1
theorem dX0_target_154 : decode cX0_target 154 = .ok (.istore 4, 2) := dX0_target_k44.2.2.2.2.1
theorem dX0_target_156 : decode cX0_target 156 = .ok (.iinc 6 1, 3) := dX0_target_k44.2.2.2.2.2
set_option maxRecDepth 100000 in
theorem dX0_target_k45 : (decode cX0_target 159 = .ok (.goto (-105), 3)) ∧ (decode cX0_target 162 = .ok (.iload 4, 2)) ∧ (decode cX0_target 164 = .ok (.ireturn, 1)) := by decide +kernel
theorem dX0_target_159 : decode cX0_target 159 = .ok (.goto (-105), 3) := dX0_target_k45.1
theorem dX0_target_162 : decode cX0_target 162 = .ok (.iload 4, 2) := dX0_target_k45.2.1
theorem dX0_target_164 : decode cX0_target 164 = .ok (.ireturn, 1) := dX0_target_k45.2.2
set_option maxRecDepth 100000 in
theorem dX0_minute_k46 : (decode cX0_minute 0 = .ok (.aload_n 0, 1)) ∧ (decode cX0_minute 1 = .ok (.getfield 28, 3)) ∧ (decode cX0_minute 4 = .ok (.iconst 0, 1)) ∧ (decode cX0_minute 5 = .ok (.invokestatic 38, 3)) ∧ (decode cX0_minute 8 = .ok (.iconst 0, 1)) ∧ (decode cX0_minute 9 = .ok (.istore_n 1, 1)) := by decide +kernel
theorem dX0_minute_0 : decode cX0_minute 0 = .ok (.aload_n 0, 1) := dX0_minute_k46.1
theorem dX0_minute_1 : decode cX0_minute 1 = .ok (.getfield 28, 3) := dX0_minute_k46.2.1
theorem dX0_minute_4 : decode cX0_minute 4 = .ok (.iconst 0, 1) := dX0_minute_k46.2.2.1
theorem dX0_minute_5 : decode cX0_minute 5 = .ok (.invokestatic 38, 3) := dX0_minute_k46.2.2.2.1
theorem dX0_minute_8 : decode cX0_minute 8 = .ok (.iconst 0, 1) := dX0_minute_k46.2.2.2.2.1
theorem dX0_minute_9 : decode cX0_minute 9 = .ok (.istore_n 1, 1) := dX0_minute_k46.2.2.2.2.2
set_option maxRecDepth 100000 in
theorem dX0_minute_k47 : (decode cX0_minute 10 = .ok (.iconst 0, 1)) ∧ (decode cX0_minute 11 = .ok (.istore_n 2, 1)) ∧ (decode cX0_minute 12 = .ok (.iload_n 2, 1)) ∧ (decode cX0_minute 13 = .ok (.bipush 8, 2)) ∧ (decode cX0_minute 15 = .ok (.if_icmp .ge 43, 3)) ∧ (decode cX0_minute 18 = .ok (.aload_n 0, 1)) := by decide +kernel
theorem dX0_minute_10 : decode cX0_minute 10 = .ok (.iconst 0, 1) := dX0_minute_k47.1
theorem dX0_minute_11 : decode cX0_minute 11 = .ok (.istore_n 2, 1) := dX0_minute_k47.2.1
theorem dX0_minute_12 : decode cX0_minute 12 = .ok (.iload_n 2, 1) := dX0_minute_k47.2.2.1
theorem dX0_minute_13 : decode cX0_minute 13 = .ok (.bipush 8, 2) := dX0_minute_k47.2.2.2.1
theorem dX0_minute_15 : decode cX0_minute 15 = .ok (.if_icmp .ge 43, 3) := dX0_minute_k47.2.2.2.2.1
theorem dX0_minute_18 : decode cX0_minute 18 = .ok (.aload_n 0, 1) := dX0_minute_k47.2.2.2.2.2
set_option maxRecDepth 100000 in
theorem dX0_minute_k48 : (decode cX0_minute 19 = .ok (.getfield 12, 3)) ∧ (decode cX0_minute 22 = .ok (.iload_n 2, 1)) ∧ (decode cX0_minute 23 = .ok (.invokevirtual 53, 3)) ∧ (decode cX0_minute 26 = .ok (.ifCond .eq 26, 3)) ∧ (decode cX0_minute 29 = .ok (.aload_n 0, 1)) ∧ (decode cX0_minute 30 = .ok (.getfield 12, 3)) := by decide +kernel
theorem dX0_minute_19 : decode cX0_minute 19 = .ok (.getfield 12, 3) := dX0_minute_k48.1
theorem dX0_minute_22 : decode cX0_minute 22 = .ok (.iload_n 2, 1) := dX0_minute_k48.2.1
theorem dX0_minute_23 : decode cX0_minute 23 = .ok (.invokevirtual 53, 3) := dX0_minute_k48.2.2.1
theorem dX0_minute_26 : decode cX0_minute 26 = .ok (.ifCond .eq 26, 3) := dX0_minute_k48.2.2.2.1
theorem dX0_minute_29 : decode cX0_minute 29 = .ok (.aload_n 0, 1) := dX0_minute_k48.2.2.2.2.1
theorem dX0_minute_30 : decode cX0_minute 30 = .ok (.getfield 12, 3) := dX0_minute_k48.2.2.2.2.2
set_option maxRecDepth 100000 in
theorem dX0_minute_k49 : (decode cX0_minute 33 = .ok (.getfield 78, 3)) ∧ (decode cX0_minute 36 = .ok (.iload_n 2, 1)) ∧ (decode cX0_minute 37 = .ok (.iaload, 1)) ∧ (decode cX0_minute 38 = .ok (.ifCond .ne 14, 3)) ∧ (decode cX0_minute 41 = .ok (.aload_n 0, 1)) ∧ (decode cX0_minute 42 = .ok (.iload_n 2, 1)) := by decide +kernel
theorem dX0_minute_33 : decode cX0_minute 33 = .ok (.getfield 78, 3) := dX0_minute_k49.1
theorem dX0_minute_36 : decode cX0_minute 36 = .ok (.iload_n 2, 1) := dX0_minute_k49.2.1
theorem dX0_minute_37 : decode cX0_minute 37 = .ok (.iaload, 1) := dX0_minute_k49.2.2.1
theorem dX0_minute_38 : decode cX0_minute 38 = .ok (.ifCond .ne 14, 3) := dX0_minute_k49.2.2.2.1
theorem dX0_minute_41 : decode cX0_minute 41 = .ok (.aload_n 0, 1) := dX0_minute_k49.2.2.2.2.1
theorem dX0_minute_42 : decode cX0_minute 42 = .ok (.iload_n 2, 1) := dX0_minute_k49.2.2.2.2.2
set_option maxRecDepth 100000 in
theorem dX0_minute_k50 : (decode cX0_minute 43 = .ok (.invokevirtual 90, 3)) ∧ (decode cX0_minute 46 = .ok (.ifCond .eq 6, 3)) ∧ (decode cX0_minute 49 = .ok (.iinc 1 1, 3)) ∧ (decode cX0_minute 52 = .ok (.iinc 2 1, 3)) ∧ (decode cX0_minute 55 = .ok (.goto (-43), 3)) ∧ (decode cX0_minute 58 = .ok (.aload_n 0, 1)) := by decide +kernel
theorem dX0_minute_43 : decode cX0_minute 43 = .ok (.invokevirtual 90, 3) := dX0_minute_k50.1
theorem dX0_minute_46 : decode cX0_minute 46 = .ok (.ifCond .eq 6, 3) := dX0_minute_k50.2.1
theorem dX0_minute_49 : decode cX0_minute 49 = .ok (.iinc 1 1, 3) := dX0_minute_k50.2.2.1
theorem dX0_minute_52 : decode cX0_minute 52 = .ok (.iinc 2 1, 3) := dX0_minute_k50.2.2.2.1
theorem dX0_minute_55 : decode cX0_minute 55 = .ok (.goto (-43), 3) := dX0_minute_k50.2.2.2.2.1
theorem dX0_minute_58 : decode cX0_minute 58 = .ok (.aload_n 0, 1) := dX0_minute_k50.2.2.2.2.2
set_option maxRecDepth 100000 in
theorem dX0_minute_k51 : (decode cX0_minute 59 = .ok (.getfield 12, 3)) ∧ (decode cX0_minute 62 = .ok (.invokevirtual 93, 3)) ∧ (decode cX0_minute 65 = .ok (.iload_n 1, 1)) ∧ (decode cX0_minute 66 = .ok (.ireturn, 1)) := by decide +kernel
theorem dX0_minute_59 : decode cX0_minute 59 = .ok (.getfield 12, 3) := dX0_minute_k51.1
theorem dX0_minute_62 : decode cX0_minute 62 = .ok (.invokevirtual 93, 3) := dX0_minute_k51.2.1
theorem dX0_minute_65 : decode cX0_minute 65 = .ok (.iload_n 1, 1) := dX0_minute_k51.2.2.1
theorem dX0_minute_66 : decode cX0_minute 66 = .ok (.ireturn, 1) := dX0_minute_k51.2.2.2
set_option maxRecDepth 100000 in
theorem dX0_moves_k52 : (decode cX0_moves 0 = .ok (.aload_n 0, 1)) ∧ (decode cX0_moves 1 = .ok (.getfield 12, 3)) ∧ (decode cX0_moves 4 = .ok (.getfield 57, 3)) ∧ (decode cX0_moves 7 = .ok (.iload_n 1, 1)) ∧ (decode cX0_moves 8 = .ok (.iaload, 1)) ∧ (decode cX0_moves 9 = .ok (.istore_n 2, 1)) := by decide +kernel
theorem dX0_moves_0 : decode cX0_moves 0 = .ok (.aload_n 0, 1) := dX0_moves_k52.1
theorem dX0_moves_1 : decode cX0_moves 1 = .ok (.getfield 12, 3) := dX0_moves_k52.2.1
theorem dX0_moves_4 : decode cX0_moves 4 = .ok (.getfield 57, 3) := dX0_moves_k52.2.2.1
theorem dX0_moves_7 : decode cX0_moves 7 = .ok (.iload_n 1, 1) := dX0_moves_k52.2.2.2.1
theorem dX0_moves_8 : decode cX0_moves 8 = .ok (.iaload, 1) := dX0_moves_k52.2.2.2.2.1
theorem dX0_moves_9 : decode cX0_moves 9 = .ok (.istore_n 2, 1) := dX0_moves_k52.2.2.2.2.2
set_option maxRecDepth 100000 in
theorem dX0_moves_k53 : (decode cX0_moves 10 = .ok (.aload_n 0, 1)) ∧ (decode cX0_moves 11 = .ok (.iload_n 1, 1)) ∧ (decode cX0_moves 12 = .ok (.invokevirtual 96, 3)) ∧ (decode cX0_moves 15 = .ok (.istore_n 3, 1)) ∧ (decode cX0_moves 16 = .ok (.iload_n 3, 1)) ∧ (decode cX0_moves 17 = .ok (.iload_n 2, 1)) := by decide +kernel
theorem dX0_moves_10 : decode cX0_moves 10 = .ok (.aload_n 0, 1) := dX0_moves_k53.1
theorem dX0_moves_11 : decode cX0_moves 11 = .ok (.iload_n 1, 1) := dX0_moves_k53.2.1
theorem dX0_moves_12 : decode cX0_moves 12 = .ok (.invokevirtual 96, 3) := dX0_moves_k53.2.2.1
theorem dX0_moves_15 : decode cX0_moves 15 = .ok (.istore_n 3, 1) := dX0_moves_k53.2.2.2.1
theorem dX0_moves_16 : decode cX0_moves 16 = .ok (.iload_n 3, 1) := dX0_moves_k53.2.2.2.2.1
theorem dX0_moves_17 : decode cX0_moves 17 = .ok (.iload_n 2, 1) := dX0_moves_k53.2.2.2.2.2
set_option maxRecDepth 100000 in
theorem dX0_moves_k54 : (decode cX0_moves 18 = .ok (.if_icmp .ne 5, 3)) ∧ (decode cX0_moves 21 = .ok (.iconst 0, 1)) ∧ (decode cX0_moves 22 = .ok (.ireturn, 1)) ∧ (decode cX0_moves 23 = .ok (.aload_n 0, 1)) ∧ (decode cX0_moves 24 = .ok (.getfield 28, 3)) ∧ (decode cX0_moves 27 = .ok (.iload_n 2, 1)) := by decide +kernel
theorem dX0_moves_18 : decode cX0_moves 18 = .ok (.if_icmp .ne 5, 3) := dX0_moves_k54.1
theorem dX0_moves_21 : decode cX0_moves 21 = .ok (.iconst 0, 1) := dX0_moves_k54.2.1
theorem dX0_moves_22 : decode cX0_moves 22 = .ok (.ireturn, 1) := dX0_moves_k54.2.2.1
theorem dX0_moves_23 : decode cX0_moves 23 = .ok (.aload_n 0, 1) := dX0_moves_k54.2.2.2.1
theorem dX0_moves_24 : decode cX0_moves 24 = .ok (.getfield 28, 3) := dX0_moves_k54.2.2.2.2.1
theorem dX0_moves_27 : decode cX0_moves 27 = .ok (.iload_n 2, 1) := dX0_moves_k54.2.2.2.2.2
set_option maxRecDepth 100000 in
theorem dX0_moves_k55 : (decode cX0_moves 28 = .ok (.bipush 6, 2)) ∧ (decode cX0_moves 30 = .ok (.imul, 1)) ∧ (decode cX0_moves 31 = .ok (.iload_n 3, 1)) ∧ (decode cX0_moves 32 = .ok (.iadd, 1)) ∧ (decode cX0_moves 33 = .ok (.dup2, 1)) ∧ (decode cX0_moves 34 = .ok (.iaload, 1)) := by decide +kernel
theorem dX0_moves_28 : decode cX0_moves 28 = .ok (.bipush 6, 2) := dX0_moves_k55.1
theorem dX0_moves_30 : decode cX0_moves 30 = .ok (.imul, 1) := dX0_moves_k55.2.1
theorem dX0_moves_31 : decode cX0_moves 31 = .ok (.iload_n 3, 1) := dX0_moves_k55.2.2.1
theorem dX0_moves_32 : decode cX0_moves 32 = .ok (.iadd, 1) := dX0_moves_k55.2.2.2.1
theorem dX0_moves_33 : decode cX0_moves 33 = .ok (.dup2, 1) := dX0_moves_k55.2.2.2.2.1
theorem dX0_moves_34 : decode cX0_moves 34 = .ok (.iaload, 1) := dX0_moves_k55.2.2.2.2.2
set_option maxRecDepth 100000 in
theorem dX0_moves_k56 : (decode cX0_moves 35 = .ok (.iconst 1, 1)) ∧ (decode cX0_moves 36 = .ok (.iadd, 1)) ∧ (decode cX0_moves 37 = .ok (.iastore, 1)) ∧ (decode cX0_moves 38 = .ok (.aload_n 0, 1)) ∧ (decode cX0_moves 39 = .ok (.getfield 28, 3)) ∧ (decode cX0_moves 42 = .ok (.iload_n 3, 1)) := by decide +kernel
theorem dX0_moves_35 : decode cX0_moves 35 = .ok (.iconst 1, 1) := dX0_moves_k56.1
theorem dX0_moves_36 : decode cX0_moves 36 = .ok (.iadd, 1) := dX0_moves_k56.2.1
theorem dX0_moves_37 : decode cX0_moves 37 = .ok (.iastore, 1) := dX0_moves_k56.2.2.1
theorem dX0_moves_38 : decode cX0_moves 38 = .ok (.aload_n 0, 1) := dX0_moves_k56.2.2.2.1
theorem dX0_moves_39 : decode cX0_moves 39 = .ok (.getfield 28, 3) := dX0_moves_k56.2.2.2.2.1
theorem dX0_moves_42 : decode cX0_moves 42 = .ok (.iload_n 3, 1) := dX0_moves_k56.2.2.2.2.2
set_option maxRecDepth 100000 in
theorem dX0_moves_k57 : (decode cX0_moves 43 = .ok (.bipush 6, 2)) ∧ (decode cX0_moves 45 = .ok (.imul, 1)) ∧ (decode cX0_moves 46 = .ok (.iload_n 2, 1)) ∧ (decode cX0_moves 47 = .ok (.iadd, 1)) ∧ (decode cX0_moves 48 = .ok (.dup2, 1)) ∧ (decode cX0_moves 49 = .ok (.iaload, 1)) := by decide +kernel
theorem dX0_moves_43 : decode cX0_moves 43 = .ok (.bipush 6, 2) := dX0_moves_k57.1
theorem dX0_moves_45 : decode cX0_moves 45 = .ok (.imul, 1) := dX0_moves_k57.2.1
theorem dX0_moves_46 : decode cX0_moves 46 = .ok (.iload_n 2, 1) := dX0_moves_k57.2.2.1
theorem dX0_moves_47 : decode cX0_moves 47 = .ok (.iadd, 1) := dX0_moves_k57.2.2.2.1
theorem dX0_moves_48 : decode cX0_moves 48 = .ok (.dup2, 1) := dX0_moves_k57.2.2.2.2.1
theorem dX0_moves_49 : decode cX0_moves 49 = .ok (.iaload, 1) := dX0_moves_k57.2.2.2.2.2
set_option maxRecDepth 100000 in
theorem dX0_moves_k58 : (decode cX0_moves 50 = .ok (.iconst 1, 1)) ∧ (decode cX0_moves 51 = .ok (.iadd, 1)) ∧ (decode cX0_moves 52 = .ok (.iastore, 1)) ∧ (decode cX0_moves 53 = .ok (.aload_n 0, 1)) ∧ (decode cX0_moves 54 = .ok (.getfield 22, 3)) ∧ (decode cX0_moves 57 = .ok (.iload_n 2, 1)) := by decide +kernel
theorem dX0_moves_50 : decode cX0_moves 50 = .ok (.iconst 1, 1) := dX0_moves_k58.1
theorem dX0_moves_51 : decode cX0_moves 51 = .ok (.iadd, 1) := dX0_moves_k58.2.1
theorem dX0_moves_52 : decode cX0_moves 52 = .ok (.iastore, 1) := dX0_moves_k58.2.2.1
theorem dX0_moves_53 : decode cX0_moves 53 = .ok (.aload_n 0, 1) := dX0_moves_k58.2.2.2.1
theorem dX0_moves_54 : decode cX0_moves 54 = .ok (.getfield 22, 3) := dX0_moves_k58.2.2.2.2.1
theorem dX0_moves_57 : decode cX0_moves 57 = .ok (.iload_n 2, 1) := dX0_moves_k58.2.2.2.2.2
set_option maxRecDepth 100000 in
theorem dX0_moves_k59 : (decode cX0_moves 58 = .ok (.dup2, 1)) ∧ (decode cX0_moves 59 = .ok (.iaload, 1)) ∧ (decode cX0_moves 60 = .ok (.iconst 1, 1)) ∧ (decode cX0_moves 61 = .ok (.isub, 1)) ∧ (decode cX0_moves 62 = .ok (.iastore, 1)) ∧ (decode cX0_moves 63 = .ok (.aload_n 0, 1)) := by decide +kernel
theorem dX0_moves_58 : decode cX0_moves 58 = .ok (.dup2, 1) := dX0_moves_k59.1
theorem dX0_moves_59 : decode cX0_moves 59 = .ok (.iaload, 1) := dX0_moves_k59.2.1
theorem dX0_moves_60 : decode cX0_moves 60 = .ok (.iconst 1, 1) := dX0_moves_k59.2.2.1
theorem dX0_moves_61 : decode cX0_moves 61 = .ok (.isub, 1) := dX0_moves_k59.2.2.2.1
theorem dX0_moves_62 : decode cX0_moves 62 = .ok (.iastore, 1) := dX0_moves_k59.2.2.2.2.1
theorem dX0_moves_63 : decode cX0_moves 63 = .ok (.aload_n 0, 1) := dX0_moves_k59.2.2.2.2.2
set_option maxRecDepth 100000 in
theorem dX0_moves_k60 : (decode cX0_moves 64 = .ok (.getfield 22, 3)) ∧ (decode cX0_moves 67 = .ok (.iload_n 3, 1)) ∧ (decode cX0_moves 68 = .ok (.dup2, 1)) ∧ (decode cX0_moves 69 = .ok (.iaload, 1)) ∧ (decode cX0_moves 70 = .ok (.iconst 1, 1)) ∧ (decode cX0_moves 71 = .ok (.iadd, 1)) := by decide +kernel
theorem dX0_moves_64 : decode cX0_moves 64 = .ok (.getfield 22, 3) := dX0_moves_k60.1
theorem dX0_moves_67 : decode cX0_moves 67 = .ok (.iload_n 3, 1) := dX0_moves_k60.2.1
theorem dX0_moves_68 : decode cX0_moves 68 = .ok (.dup2, 1) := dX0_moves_k60.2.2.1
theorem dX0_moves_69 : decode cX0_moves 69 = .ok (.iaload, 1) := dX0_moves_k60.2.2.2.1
theorem dX0_moves_70 : decode cX0_moves 70 = .ok (.iconst 1, 1) := dX0_moves_k60.2.2.2.2.1
theorem dX0_moves_71 : decode cX0_moves 71 = .ok (.iadd, 1) := dX0_moves_k60.2.2.2.2.2
set_option maxRecDepth 100000 in
theorem dX0_moves_k61 : (decode cX0_moves 72 = .ok (.iastore, 1)) ∧ (decode cX0_moves 73 = .ok (.aload_n 0, 1)) ∧ (decode cX0_moves 74 = .ok (.getfield 12, 3)) ∧ (decode cX0_moves 77 = .ok (.getfield 57, 3)) ∧ (decode cX0_moves 80 = .ok (.iload_n 1, 1)) ∧ (decode cX0_moves 81 = .ok (.iload_n 3, 1)) := by decide +kernel
theorem dX0_moves_72 : decode cX0_moves 72 = .ok (.iastore, 1) := dX0_moves_k61.1
theorem dX0_moves_73 : decode cX0_moves 73 = .ok (.aload_n 0, 1) := dX0_moves_k61.2.1
theorem dX0_moves_74 : decode cX0_moves 74 = .ok (.getfield 12, 3) := dX0_moves_k61.2.2.1
theorem dX0_moves_77 : decode cX0_moves 77 = .ok (.getfield 57, 3) := dX0_moves_k61.2.2.2.1
theorem dX0_moves_80 : decode cX0_moves 80 = .ok (.iload_n 1, 1) := dX0_moves_k61.2.2.2.2.1
theorem dX0_moves_81 : decode cX0_moves 81 = .ok (.iload_n 3, 1) := dX0_moves_k61.2.2.2.2.2
set_option maxRecDepth 100000 in
theorem dX0_moves_k62 : (decode cX0_moves 82 = .ok (.iastore, 1)) ∧ (decode cX0_moves 83 = .ok (.iconst 1, 1)) ∧ (decode cX0_moves 84 = .ok (.ireturn, 1)) := by decide +kernel
theorem dX0_moves_82 : decode cX0_moves 82 = .ok (.iastore, 1) := dX0_moves_k62.1
theorem dX0_moves_83 : decode cX0_moves 83 = .ok (.iconst 1, 1) := dX0_moves_k62.2.1
theorem dX0_moves_84 : decode cX0_moves 84 = .ok (.ireturn, 1) := dX0_moves_k62.2.2
set_option maxRecDepth 100000 in
theorem dX0_stillMinute_k63 : (decode cX0_stillMinute 0 = .ok (.aload_n 0, 1)) ∧ (decode cX0_stillMinute 1 = .ok (.getfield 12, 3)) ∧ (decode cX0_stillMinute 4 = .ok (.invokevirtual 100, 3)) ∧ (decode cX0_stillMinute 7 = .ok (.istore_n 1, 1)) ∧ (decode cX0_stillMinute 8 = .ok (.aload_n 0, 1)) ∧ (decode cX0_stillMinute 9 = .ok (.invokevirtual 104, 3)) := by decide +kernel
theorem dX0_stillMinute_0 : decode cX0_stillMinute 0 = .ok (.aload_n 0, 1) := dX0_stillMinute_k63.1
theorem dX0_stillMinute_1 : decode cX0_stillMinute 1 = .ok (.getfield 12, 3) := dX0_stillMinute_k63.2.1
theorem dX0_stillMinute_4 : decode cX0_stillMinute 4 = .ok (.invokevirtual 100, 3) := dX0_stillMinute_k63.2.2.1
theorem dX0_stillMinute_7 : decode cX0_stillMinute 7 = .ok (.istore_n 1, 1) := dX0_stillMinute_k63.2.2.2.1
theorem dX0_stillMinute_8 : decode cX0_stillMinute 8 = .ok (.aload_n 0, 1) := dX0_stillMinute_k63.2.2.2.2.1
theorem dX0_stillMinute_9 : decode cX0_stillMinute 9 = .ok (.invokevirtual 104, 3) := dX0_stillMinute_k63.2.2.2.2.2
set_option maxRecDepth 100000 in
theorem dX0_stillMinute_k64 : (decode cX0_stillMinute 12 = .ok (.ifCond .ne 11, 3)) ∧ (decode cX0_stillMinute 15 = .ok (.iload_n 1, 1)) ∧ (decode cX0_stillMinute 16 = .ok (.ifCond .ne 7, 3)) ∧ (decode cX0_stillMinute 19 = .ok (.iconst 1, 1)) ∧ (decode cX0_stillMinute 20 = .ok (.goto 4, 3)) ∧ (decode cX0_stillMinute 23 = .ok (.iconst 0, 1)) := by decide +kernel
theorem dX0_stillMinute_12 : decode cX0_stillMinute 12 = .ok (.ifCond .ne 11, 3) := dX0_stillMinute_k64.1
theorem dX0_stillMinute_15 : decode cX0_stillMinute 15 = .ok (.iload_n 1, 1) := dX0_stillMinute_k64.2.1
theorem dX0_stillMinute_16 : decode cX0_stillMinute 16 = .ok (.ifCond .ne 7, 3) := dX0_stillMinute_k64.2.2.1
theorem dX0_stillMinute_19 : decode cX0_stillMinute 19 = .ok (.iconst 1, 1) := dX0_stillMinute_k64.2.2.2.1
theorem dX0_stillMinute_20 : decode cX0_stillMinute 20 = .ok (.goto 4, 3) := dX0_stillMinute_k64.2.2.2.2.1
theorem dX0_stillMinute_23 : decode cX0_stillMinute 23 = .ok (.iconst 0, 1) := dX0_stillMinute_k64.2.2.2.2.2
theorem dX0_stillMinute_24 : decode cX0_stillMinute 24 = .ok (.ireturn, 1) := by decide +kernel
set_option maxRecDepth 100000 in
theorem dX0_run_k65 : (decode cX0_run 0 = .ok (.iconst 0, 1)) ∧ (decode cX0_run 1 = .ok (.istore_n 2, 1)) ∧ (decode cX0_run 2 = .ok (.iload_n 2, 1)) ∧ (decode cX0_run 3 = .ok (.iload_n 1, 1)) ∧ (decode cX0_run 4 = .ok (.if_icmp .ge 17, 3)) ∧ (decode cX0_run 7 = .ok (.aload_n 0, 1)) := by decide +kernel
theorem dX0_run_0 : decode cX0_run 0 = .ok (.iconst 0, 1) := dX0_run_k65.1
theorem dX0_run_1 : decode cX0_run 1 = .ok (.istore_n 2, 1) := dX0_run_k65.2.1
theorem dX0_run_2 : decode cX0_run 2 = .ok (.iload_n 2, 1) := dX0_run_k65.2.2.1
theorem dX0_run_3 : decode cX0_run 3 = .ok (.iload_n 1, 1) := dX0_run_k65.2.2.2.1
theorem dX0_run_4 : decode cX0_run 4 = .ok (.if_icmp .ge 17, 3) := dX0_run_k65.2.2.2.2.1
theorem dX0_run_7 : decode cX0_run 7 = .ok (.aload_n 0, 1) := dX0_run_k65.2.2.2.2.2
set_option maxRecDepth 100000 in
theorem dX0_run_k66 : (decode cX0_run 8 = .ok (.invokevirtual 108, 3)) ∧ (decode cX0_run 11 = .ok (.ifCond .eq 4, 3)) ∧ (decode cX0_run 14 = .ok (.return_, 1)) ∧ (decode cX0_run 15 = .ok (.iinc 2 1, 3)) ∧ (decode cX0_run 18 = .ok (.goto (-16), 3)) ∧ (decode cX0_run 21 = .ok (.return_, 1)) := by decide +kernel
theorem dX0_run_8 : decode cX0_run 8 = .ok (.invokevirtual 108, 3) := dX0_run_k66.1
theorem dX0_run_11 : decode cX0_run 11 = .ok (.ifCond .eq 4, 3) := dX0_run_k66.2.1
theorem dX0_run_14 : decode cX0_run 14 = .ok (.return_, 1) := dX0_run_k66.2.2.1
theorem dX0_run_15 : decode cX0_run 15 = .ok (.iinc 2 1, 3) := dX0_run_k66.2.2.2.1
theorem dX0_run_18 : decode cX0_run 18 = .ok (.goto (-16), 3) := dX0_run_k66.2.2.2.2.1
theorem dX0_run_21 : decode cX0_run 21 = .ok (.return_, 1) := dX0_run_k66.2.2.2.2.2
set_option maxRecDepth 100000 in
theorem dX0_fullest_k67 : (decode cX0_fullest 0 = .ok (.iconst 0, 1)) ∧ (decode cX0_fullest 1 = .ok (.istore_n 1, 1)) ∧ (decode cX0_fullest 2 = .ok (.iconst 0, 1)) ∧ (decode cX0_fullest 3 = .ok (.istore_n 2, 1)) ∧ (decode cX0_fullest 4 = .ok (.iload_n 2, 1)) ∧ (decode cX0_fullest 5 = .ok (.aload_n 0, 1)) := by decide +kernel
theorem dX0_fullest_0 : decode cX0_fullest 0 = .ok (.iconst 0, 1) := dX0_fullest_k67.1
theorem dX0_fullest_1 : decode cX0_fullest 1 = .ok (.istore_n 1, 1) := dX0_fullest_k67.2.1
theorem dX0_fullest_2 : decode cX0_fullest 2 = .ok (.iconst 0, 1) := dX0_fullest_k67.2.2.1
theorem dX0_fullest_3 : decode cX0_fullest 3 = .ok (.istore_n 2, 1) := dX0_fullest_k67.2.2.2.1
theorem dX0_fullest_4 : decode cX0_fullest 4 = .ok (.iload_n 2, 1) := dX0_fullest_k67.2.2.2.2.1
theorem dX0_fullest_5 : decode cX0_fullest 5 = .ok (.aload_n 0, 1) := dX0_fullest_k67.2.2.2.2.2
set_option maxRecDepth 100000 in
theorem dX0_fullest_k68 : (decode cX0_fullest 6 = .ok (.getfield 12, 3)) ∧ (decode cX0_fullest 9 = .ok (.getfield 67, 3)) ∧ (decode cX0_fullest 12 = .ok (.if_icmp .ge 20, 3)) ∧ (decode cX0_fullest 15 = .ok (.iload_n 1, 1)) ∧ (decode cX0_fullest 16 = .ok (.aload_n 0, 1)) ∧ (decode cX0_fullest 17 = .ok (.getfield 22, 3)) := by decide +kernel
theorem dX0_fullest_6 : decode cX0_fullest 6 = .ok (.getfield 12, 3) := dX0_fullest_k68.1
theorem dX0_fullest_9 : decode cX0_fullest 9 = .ok (.getfield 67, 3) := dX0_fullest_k68.2.1
theorem dX0_fullest_12 : decode cX0_fullest 12 = .ok (.if_icmp .ge 20, 3) := dX0_fullest_k68.2.2.1
theorem dX0_fullest_15 : decode cX0_fullest 15 = .ok (.iload_n 1, 1) := dX0_fullest_k68.2.2.2.1
theorem dX0_fullest_16 : decode cX0_fullest 16 = .ok (.aload_n 0, 1) := dX0_fullest_k68.2.2.2.2.1
theorem dX0_fullest_17 : decode cX0_fullest 17 = .ok (.getfield 22, 3) := dX0_fullest_k68.2.2.2.2.2
set_option maxRecDepth 100000 in
theorem dX0_fullest_k69 : (decode cX0_fullest 20 = .ok (.iload_n 2, 1)) ∧ (decode cX0_fullest 21 = .ok (.iaload, 1)) ∧ (decode cX0_fullest 22 = .ok (.invokestatic 111, 3)) ∧ (decode cX0_fullest 25 = .ok (.istore_n 1, 1)) ∧ (decode cX0_fullest 26 = .ok (.iinc 2 1, 3)) ∧ (decode cX0_fullest 29 = .ok (.goto (-25), 3)) := by decide +kernel
theorem dX0_fullest_20 : decode cX0_fullest 20 = .ok (.iload_n 2, 1) := dX0_fullest_k69.1
theorem dX0_fullest_21 : decode cX0_fullest 21 = .ok (.iaload, 1) := dX0_fullest_k69.2.1
theorem dX0_fullest_22 : decode cX0_fullest 22 = .ok (.invokestatic 111, 3) := dX0_fullest_k69.2.2.1
theorem dX0_fullest_25 : decode cX0_fullest 25 = .ok (.istore_n 1, 1) := dX0_fullest_k69.2.2.2.1
theorem dX0_fullest_26 : decode cX0_fullest 26 = .ok (.iinc 2 1, 3) := dX0_fullest_k69.2.2.2.2.1
theorem dX0_fullest_29 : decode cX0_fullest 29 = .ok (.goto (-25), 3) := dX0_fullest_k69.2.2.2.2.2
set_option maxRecDepth 100000 in
theorem dX0_fullest_k70 : (decode cX0_fullest 32 = .ok (.iload_n 1, 1)) ∧ (decode cX0_fullest 33 = .ok (.ireturn, 1)) := by decide +kernel
theorem dX0_fullest_32 : decode cX0_fullest 32 = .ok (.iload_n 1, 1) := dX0_fullest_k70.1
theorem dX0_fullest_33 : decode cX0_fullest 33 = .ok (.ireturn, 1) := dX0_fullest_k70.2
