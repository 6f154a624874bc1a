set_option maxRecDepth 100000 in
theorem dX5_init_k0 : (decode cX5_init 0 = .ok (.aload_n 0, 1)) ∧ (decode cX5_init 1 = .ok (.invokespecial 3, 3)) ∧ (decode cX5_init 4 = .ok (.aload_n 0, 1)) ∧ (decode cX5_init 5 = .ok (.bipush 6, 2)) ∧ (decode cX5_init 7 = .ok (.newarray .int, 2)) ∧ (decode cX5_init 9 = .ok (.putfield 9, 3)) := by decide +kernel
theorem dX5_init_0 : decode cX5_init 0 = .ok (.aload_n 0, 1) := dX5_init_k0.1
theorem dX5_init_1 : decode cX5_init 1 = .ok (.invokespecial 3, 3) := dX5_init_k0.2.1
theorem dX5_init_4 : decode cX5_init 4 = .ok (.aload_n 0, 1) := dX5_init_k0.2.2.1
theorem dX5_init_5 : decode cX5_init 5 = .ok (.bipush 6, 2) := dX5_init_k0.2.2.2.1
theorem dX5_init_7 : decode cX5_init 7 = .ok (.newarray .int, 2) := dX5_init_k0.2.2.2.2.1
theorem dX5_init_9 : decode cX5_init 9 = .ok (.putfield 9, 3) := dX5_init_k0.2.2.2.2.2
set_option maxRecDepth 100000 in
theorem dX5_init_k1 : (decode cX5_init 12 = .ok (.aload_n 0, 1)) ∧ (decode cX5_init 13 = .ok (.bipush 6, 2)) ∧ (decode cX5_init 15 = .ok (.newarray .int, 2)) ∧ (decode cX5_init 17 = .ok (.putfield 15, 3)) ∧ (decode cX5_init 20 = .ok (.return_, 1)) := by decide +kernel
theorem dX5_init_12 : decode cX5_init 12 = .ok (.aload_n 0, 1) := dX5_init_k1.1
theorem dX5_init_13 : decode cX5_init 13 = .ok (.bipush 6, 2) := dX5_init_k1.2.1
theorem dX5_init_15 : decode cX5_init 15 = .ok (.newarray .int, 2) := dX5_init_k1.2.2.1
theorem dX5_init_17 : decode cX5_init 17 = .ok (.putfield 15, 3) := dX5_init_k1.2.2.2.1
theorem dX5_init_20 : decode cX5_init 20 = .ok (.return_, 1) := dX5_init_k1.2.2.2.2
set_option maxRecDepth 100000 in
theorem dX5_measure_k2 : (decode cX5_measure 0 = .ok (.iconst 0, 1)) ∧ (decode cX5_measure 1 = .ok (.istore_n 3, 1)) ∧ (decode cX5_measure 2 = .ok (.iload_n 3, 1)) ∧ (decode cX5_measure 3 = .ok (.aload_n 1, 1)) ∧ (decode cX5_measure 4 = .ok (.getfield 18, 3)) ∧ (decode cX5_measure 7 = .ok (.if_icmp .ge 42, 3)) := by decide +kernel
theorem dX5_measure_0 : decode cX5_measure 0 = .ok (.iconst 0, 1) := dX5_measure_k2.1
theorem dX5_measure_1 : decode cX5_measure 1 = .ok (.istore_n 3, 1) := dX5_measure_k2.2.1
theorem dX5_measure_2 : decode cX5_measure 2 = .ok (.iload_n 3, 1) := dX5_measure_k2.2.2.1
theorem dX5_measure_3 : decode cX5_measure 3 = .ok (.aload_n 1, 1) := dX5_measure_k2.2.2.2.1
theorem dX5_measure_4 : decode cX5_measure 4 = .ok (.getfield 18, 3) := dX5_measure_k2.2.2.2.2.1
theorem dX5_measure_7 : decode cX5_measure 7 = .ok (.if_icmp .ge 42, 3) := dX5_measure_k2.2.2.2.2.2
set_option maxRecDepth 100000 in
theorem dX5_measure_k3 : (decode cX5_measure 10 = .ok (.aload_n 0, 1)) ∧ (decode cX5_measure 11 = .ok (.getfield 9, 3)) ∧ (decode cX5_measure 14 = .ok (.iload_n 3, 1)) ∧ (decode cX5_measure 15 = .ok (.bipush 100, 2)) ∧ (decode cX5_measure 17 = .ok (.aload_n 1, 1)) ∧ (decode cX5_measure 18 = .ok (.iload_n 3, 1)) := by decide +kernel
theorem dX5_measure_10 : decode cX5_measure 10 = .ok (.aload_n 0, 1) := dX5_measure_k3.1
theorem dX5_measure_11 : decode cX5_measure 11 = .ok (.getfield 9, 3) := dX5_measure_k3.2.1
theorem dX5_measure_14 : decode cX5_measure 14 = .ok (.iload_n 3, 1) := dX5_measure_k3.2.2.1
theorem dX5_measure_15 : decode cX5_measure 15 = .ok (.bipush 100, 2) := dX5_measure_k3.2.2.2.1
theorem dX5_measure_17 : decode cX5_measure 17 = .ok (.aload_n 1, 1) := dX5_measure_k3.2.2.2.2.1
theorem dX5_measure_18 : decode cX5_measure 18 = .ok (.iload_n 3, 1) := dX5_measure_k3.2.2.2.2.2
set_option maxRecDepth 100000 in
theorem dX5_measure_k4 : (decode cX5_measure 19 = .ok (.invokevirtual 24, 3)) ∧ (decode cX5_measure 22 = .ok (.imul, 1)) ∧ (decode cX5_measure 23 = .ok (.iconst 1, 1)) ∧ (decode cX5_measure 24 = .ok (.iadd, 1)) ∧ (decode cX5_measure 25 = .ok (.iastore, 1)) ∧ (decode cX5_measure 26 = .ok (.aload_n 0, 1)) := by decide +kernel
theorem dX5_measure_19 : decode cX5_measure 19 = .ok (.invokevirtual 24, 3) := dX5_measure_k4.1
theorem dX5_measure_22 : decode cX5_measure 22 = .ok (.imul, 1) := dX5_measure_k4.2.1
theorem dX5_measure_23 : decode cX5_measure 23 = .ok (.iconst 1, 1) := dX5_measure_k4.2.2.1
theorem dX5_measure_24 : decode cX5_measure 24 = .ok (.iadd, 1) := dX5_measure_k4.2.2.2.1
theorem dX5_measure_25 : decode cX5_measure 25 = .ok (.iastore, 1) := dX5_measure_k4.2.2.2.2.1
theorem dX5_measure_26 : decode cX5_measure 26 = .ok (.aload_n 0, 1) := dX5_measure_k4.2.2.2.2.2
set_option maxRecDepth 100000 in
theorem dX5_measure_k5 : (decode cX5_measure 27 = .ok (.getfield 15, 3)) ∧ (decode cX5_measure 30 = .ok (.iload_n 3, 1)) ∧ (decode cX5_measure 31 = .ok (.iload_n 3, 1)) ∧ (decode cX5_measure 32 = .ok (.iload_n 2, 1)) ∧ (decode cX5_measure 33 = .ok (.if_icmp .ne 7, 3)) ∧ (decode cX5_measure 36 = .ok (.iconst 0, 1)) := by decide +kernel
theorem dX5_measure_27 : decode cX5_measure 27 = .ok (.getfield 15, 3) := dX5_measure_k5.1
theorem dX5_measure_30 : decode cX5_measure 30 = .ok (.iload_n 3, 1) := dX5_measure_k5.2.1
theorem dX5_measure_31 : decode cX5_measure 31 = .ok (.iload_n 3, 1) := dX5_measure_k5.2.2.1
theorem dX5_measure_32 : decode cX5_measure 32 = .ok (.iload_n 2, 1) := dX5_measure_k5.2.2.2.1
theorem dX5_measure_33 : decode cX5_measure 33 = .ok (.if_icmp .ne 7, 3) := dX5_measure_k5.2.2.2.2.1
theorem dX5_measure_36 : decode cX5_measure 36 = .ok (.iconst 0, 1) := dX5_measure_k5.2.2.2.2.2
set_option maxRecDepth 100000 in
theorem dX5_measure_k6 : (decode cX5_measure 37 = .ok (.goto 5, 3)) ∧ (decode cX5_measure 40 = .ok (.ldc 28, 2)) ∧ (decode cX5_measure 42 = .ok (.iastore, 1)) ∧ (decode cX5_measure 43 = .ok (.iinc 3 1, 3)) ∧ (decode cX5_measure 46 = .ok (.goto (-44), 3)) ∧ (decode cX5_measure 49 = .ok (.iconst 0, 1)) := by decide +kernel
theorem dX5_measure_37 : decode cX5_measure 37 = .ok (.goto 5, 3) := dX5_measure_k6.1
theorem dX5_measure_40 : decode cX5_measure 40 = .ok (.ldc 28, 2) := dX5_measure_k6.2.1
theorem dX5_measure_42 : decode cX5_measure 42 = .ok (.iastore, 1) := dX5_measure_k6.2.2.1
theorem dX5_measure_43 : decode cX5_measure 43 = .ok (.iinc 3 1, 3) := dX5_measure_k6.2.2.2.1
theorem dX5_measure_46 : decode cX5_measure 46 = .ok (.goto (-44), 3) := dX5_measure_k6.2.2.2.2.1
theorem dX5_measure_49 : decode cX5_measure 49 = .ok (.iconst 0, 1) := dX5_measure_k6.2.2.2.2.2
set_option maxRecDepth 100000 in
theorem dX5_measure_k7 : (decode cX5_measure 50 = .ok (.istore_n 3, 1)) ∧ (decode cX5_measure 51 = .ok (.iload_n 3, 1)) ∧ (decode cX5_measure 52 = .ok (.aload_n 1, 1)) ∧ (decode cX5_measure 53 = .ok (.getfield 18, 3)) ∧ (decode cX5_measure 56 = .ok (.if_icmp .ge 34, 3)) ∧ (decode cX5_measure 59 = .ok (.iconst 0, 1)) := by decide +kernel
theorem dX5_measure_50 : decode cX5_measure 50 = .ok (.istore_n 3, 1) := dX5_measure_k7.1
theorem dX5_measure_51 : decode cX5_measure 51 = .ok (.iload_n 3, 1) := dX5_measure_k7.2.1
theorem dX5_measure_52 : decode cX5_measure 52 = .ok (.aload_n 1, 1) := dX5_measure_k7.2.2.1
theorem dX5_measure_53 : decode cX5_measure 53 = .ok (.getfield 18, 3) := dX5_measure_k7.2.2.2.1
theorem dX5_measure_56 : decode cX5_measure 56 = .ok (.if_icmp .ge 34, 3) := dX5_measure_k7.2.2.2.2.1
theorem dX5_measure_59 : decode cX5_measure 59 = .ok (.iconst 0, 1) := dX5_measure_k7.2.2.2.2.2
set_option maxRecDepth 100000 in
theorem dX5_measure_k8 : (decode cX5_measure 60 = .ok (.istore 4, 2)) ∧ (decode cX5_measure 62 = .ok (.iload 4, 2)) ∧ (decode cX5_measure 64 = .ok (.aload_n 1, 1)) ∧ (decode cX5_measure 65 = .ok (.getfield 18, 3)) ∧ (decode cX5_measure 68 = .ok (.if_icmp .ge 16, 3)) ∧ (decode cX5_measure 71 = .ok (.aload_n 0, 1)) := by decide +kernel
theorem dX5_measure_60 : decode cX5_measure 60 = .ok (.istore 4, 2) := dX5_measure_k8.1
theorem dX5_measure_62 : decode cX5_measure 62 = .ok (.iload 4, 2) := dX5_measure_k8.2.1
theorem dX5_measure_64 : decode cX5_measure 64 = .ok (.aload_n 1, 1) := dX5_measure_k8.2.2.1
theorem dX5_measure_65 : decode cX5_measure 65 = .ok (.getfield 18, 3) := dX5_measure_k8.2.2.2.1
theorem dX5_measure_68 : decode cX5_measure 68 = .ok (.if_icmp .ge 16, 3) := dX5_measure_k8.2.2.2.2.1
theorem dX5_measure_71 : decode cX5_measure 71 = .ok (.aload_n 0, 1) := dX5_measure_k8.2.2.2.2.2
set_option maxRecDepth 100000 in
theorem dX5_measure_k9 : (decode cX5_measure 72 = .ok (.aload_n 1, 1)) ∧ (decode cX5_measure 73 = .ok (.iload 4, 2)) ∧ (decode cX5_measure 75 = .ok (.invokevirtual 29, 3)) ∧ (decode cX5_measure 78 = .ok (.iinc 4 1, 3)) ∧ (decode cX5_measure 81 = .ok (.goto (-19), 3)) ∧ (decode cX5_measure 84 = .ok (.iinc 3 1, 3)) := by decide +kernel
theorem dX5_measure_72 : decode cX5_measure 72 = .ok (.aload_n 1, 1) := dX5_measure_k9.1
theorem dX5_measure_73 : decode cX5_measure 73 = .ok (.iload 4, 2) := dX5_measure_k9.2.1
theorem dX5_measure_75 : decode cX5_measure 75 = .ok (.invokevirtual 29, 3) := dX5_measure_k9.2.2.1
theorem dX5_measure_78 : decode cX5_measure 78 = .ok (.iinc 4 1, 3) := dX5_measure_k9.2.2.2.1
theorem dX5_measure_81 : decode cX5_measure 81 = .ok (.goto (-19), 3) := dX5_measure_k9.2.2.2.2.1
theorem dX5_measure_84 : decode cX5_measure 84 = .ok (.iinc 3 1, 3) := dX5_measure_k9.2.2.2.2.2
set_option maxRecDepth 100000 in
theorem dX5_measure_k10 : (decode cX5_measure 87 = .ok (.goto (-36), 3)) ∧ (decode cX5_measure 90 = .ok (.return_, 1)) := by decide +kernel
theorem dX5_measure_87 : decode cX5_measure 87 = .ok (.goto (-36), 3) := dX5_measure_k10.1
theorem dX5_measure_90 : decode cX5_measure 90 = .ok (.return_, 1) := dX5_measure_k10.2
set_option maxRecDepth 100000 in
theorem dX5_shorten_k11 : (decode cX5_shorten 0 = .ok (.iconst 0, 1)) ∧ (decode cX5_shorten 1 = .ok (.istore_n 3, 1)) ∧ (decode cX5_shorten 2 = .ok (.iload_n 3, 1)) ∧ (decode cX5_shorten 3 = .ok (.aload_n 1, 1)) ∧ (decode cX5_shorten 4 = .ok (.getfield 18, 3)) ∧ (decode cX5_shorten 7 = .ok (.if_icmp .ge 46, 3)) := by decide +kernel
theorem dX5_shorten_0 : decode cX5_shorten 0 = .ok (.iconst 0, 1) := dX5_shorten_k11.1
theorem dX5_shorten_1 : decode cX5_shorten 1 = .ok (.istore_n 3, 1) := dX5_shorten_k11.2.1
theorem dX5_shorten_2 : decode cX5_shorten 2 = .ok (.iload_n 3, 1) := dX5_shorten_k11.2.2.1
theorem dX5_shorten_3 : decode cX5_shorten 3 = .ok (.aload_n 1, 1) := dX5_shorten_k11.2.2.2.1
theorem dX5_shorten_4 : decode cX5_shorten 4 = .ok (.getfield 18, 3) := dX5_shorten_k11.2.2.2.2.1
theorem dX5_shorten_7 : decode cX5_shorten 7 = .ok (.if_icmp .ge 46, 3) := dX5_shorten_k11.2.2.2.2.2
set_option maxRecDepth 100000 in
theorem dX5_shorten_k12 : (decode cX5_shorten 10 = .ok (.aload_n 1, 1)) ∧ (decode cX5_shorten 11 = .ok (.iload_n 2, 1)) ∧ (decode cX5_shorten 12 = .ok (.iload_n 3, 1)) ∧ (decode cX5_shorten 13 = .ok (.invokevirtual 33, 3)) ∧ (decode cX5_shorten 16 = .ok (.ifCond .le 31, 3)) ∧ (decode cX5_shorten 19 = .ok (.aload_n 0, 1)) := by decide +kernel
theorem dX5_shorten_10 : decode cX5_shorten 10 = .ok (.aload_n 1, 1) := dX5_shorten_k12.1
theorem dX5_shorten_11 : decode cX5_shorten 11 = .ok (.iload_n 2, 1) := dX5_shorten_k12.2.1
theorem dX5_shorten_12 : decode cX5_shorten 12 = .ok (.iload_n 3, 1) := dX5_shorten_k12.2.2.1
theorem dX5_shorten_13 : decode cX5_shorten 13 = .ok (.invokevirtual 33, 3) := dX5_shorten_k12.2.2.2.1
theorem dX5_shorten_16 : decode cX5_shorten 16 = .ok (.ifCond .le 31, 3) := dX5_shorten_k12.2.2.2.2.1
theorem dX5_shorten_19 : decode cX5_shorten 19 = .ok (.aload_n 0, 1) := dX5_shorten_k12.2.2.2.2.2
set_option maxRecDepth 100000 in
theorem dX5_shorten_k13 : (decode cX5_shorten 20 = .ok (.getfield 15, 3)) ∧ (decode cX5_shorten 23 = .ok (.iload_n 2, 1)) ∧ (decode cX5_shorten 24 = .ok (.aload_n 0, 1)) ∧ (decode cX5_shorten 25 = .ok (.getfield 15, 3)) ∧ (decode cX5_shorten 28 = .ok (.iload_n 2, 1)) ∧ (decode cX5_shorten 29 = .ok (.iaload, 1)) := by decide +kernel
theorem dX5_shorten_20 : decode cX5_shorten 20 = .ok (.getfield 15, 3) := dX5_shorten_k13.1
theorem dX5_shorten_23 : decode cX5_shorten 23 = .ok (.iload_n 2, 1) := dX5_shorten_k13.2.1
theorem dX5_shorten_24 : decode cX5_shorten 24 = .ok (.aload_n 0, 1) := dX5_shorten_k13.2.2.1
theorem dX5_shorten_25 : decode cX5_shorten 25 = .ok (.getfield 15, 3) := dX5_shorten_k13.2.2.2.1
theorem dX5_shorten_28 : decode cX5_shorten 28 = .ok (.iload_n 2, 1) := dX5_shorten_k13.2.2.2.2.1
theorem dX5_shorten_29 : decode cX5_shorten 29 = .ok (.iaload, 1) := dX5_shorten_k13.2.2.2.2.2
set_option maxRecDepth 100000 in
theorem dX5_shorten_k14 : (decode cX5_shorten 30 = .ok (.aload_n 0, 1)) ∧ (decode cX5_shorten 31 = .ok (.getfield 9, 3)) ∧ (decode cX5_shorten 34 = .ok (.iload_n 3, 1)) ∧ (decode cX5_shorten 35 = .ok (.iaload, 1)) ∧ (decode cX5_shorten 36 = .ok (.aload_n 0, 1)) ∧ (decode cX5_shorten 37 = .ok (.getfield 15, 3)) := by decide +kernel
theorem dX5_shorten_30 : decode cX5_shorten 30 = .ok (.aload_n 0, 1) := dX5_shorten_k14.1
theorem dX5_shorten_31 : decode cX5_shorten 31 = .ok (.getfield 9, 3) := dX5_shorten_k14.2.1
theorem dX5_shorten_34 : decode cX5_shorten 34 = .ok (.iload_n 3, 1) := dX5_shorten_k14.2.2.1
theorem dX5_shorten_35 : decode cX5_shorten 35 = .ok (.iaload, 1) := dX5_shorten_k14.2.2.2.1
theorem dX5_shorten_36 : decode cX5_shorten 36 = .ok (.aload_n 0, 1) := dX5_shorten_k14.2.2.2.2.1
theorem dX5_shorten_37 : decode cX5_shorten 37 = .ok (.getfield 15, 3) := dX5_shorten_k14.2.2.2.2.2
set_option maxRecDepth 100000 in
theorem dX5_shorten_k15 : (decode cX5_shorten 40 = .ok (.iload_n 3, 1)) ∧ (decode cX5_shorten 41 = .ok (.iaload, 1)) ∧ (decode cX5_shorten 42 = .ok (.iadd, 1)) ∧ (decode cX5_shorten 43 = .ok (.invokestatic 37, 3)) ∧ (decode cX5_shorten 46 = .ok (.iastore, 1)) ∧ (decode cX5_shorten 47 = .ok (.iinc 3 1, 3)) := by decide +kernel
theorem dX5_shorten_40 : decode cX5_shorten 40 = .ok (.iload_n 3, 1) := dX5_shorten_k15.1
theorem dX5_shorten_41 : decode cX5_shorten 41 = .ok (.iaload, 1) := dX5_shorten_k15.2.1
theorem dX5_shorten_42 : decode cX5_shorten 42 = .ok (.iadd, 1) := dX5_shorten_k15.2.2.1
theorem dX5_shorten_43 : decode cX5_shorten 43 = .ok (.invokestatic 37, 3) := dX5_shorten_k15.2.2.2.1
theorem dX5_shorten_46 : decode cX5_shorten 46 = .ok (.iastore, 1) := dX5_shorten_k15.2.2.2.2.1
theorem dX5_shorten_47 : decode cX5_shorten 47 = .ok (.iinc 3 1, 3) := dX5_shorten_k15.2.2.2.2.2
set_option maxRecDepth 100000 in
theorem dX5_shorten_k16 : (decode cX5_shorten 50 = .ok (.goto (-48), 3)) ∧ (decode cX5_shorten 53 = .ok (.return_, 1)) := by decide +kernel
theorem dX5_shorten_50 : decode cX5_shorten 50 = .ok (.goto (-48), 3) := dX5_shorten_k16.1
theorem dX5_shorten_53 : decode cX5_shorten 53 = .ok (.return_, 1) := dX5_shorten_k16.2
set_option maxRecDepth 100000 in
theorem dX5_excusesFrom_k17 : (decode cX5_excusesFrom 0 = .ok (.aload_n 0, 1)) ∧ (decode cX5_excusesFrom 1 = .ok (.getfield 15, 3)) ∧ (decode cX5_excusesFrom 4 = .ok (.iload_n 1, 1)) ∧ (decode cX5_excusesFrom 5 = .ok (.iaload, 1)) ∧ (decode cX5_excusesFrom 6 = .ok (.ldc 28, 2)) ∧ (decode cX5_excusesFrom 8 = .ok (.if_icmp .lt 8, 3)) := by decide +kernel
theorem dX5_excusesFrom_0 : decode cX5_excusesFrom 0 = .ok (.aload_n 0, 1) := dX5_excusesFrom_k17.1
theorem dX5_excusesFrom_1 : decode cX5_excusesFrom 1 = .ok (.getfield 15, 3) := dX5_excusesFrom_k17.2.1
theorem dX5_excusesFrom_4 : decode cX5_excusesFrom 4 = .ok (.iload_n 1, 1) := dX5_excusesFrom_k17.2.2.1
theorem dX5_excusesFrom_5 : decode cX5_excusesFrom 5 = .ok (.iaload, 1) := dX5_excusesFrom_k17.2.2.2.1
theorem dX5_excusesFrom_6 : decode cX5_excusesFrom 6 = .ok (.ldc 28, 2) := dX5_excusesFrom_k17.2.2.2.2.1
theorem dX5_excusesFrom_8 : decode cX5_excusesFrom 8 = .ok (.if_icmp .lt 8, 3) := dX5_excusesFrom_k17.2.2.2.2.2
set_option maxRecDepth 100000 in
theorem dX5_excusesFrom_k18 : (decode cX5_excusesFrom 11 = .ok (.bipush (-6), 2)) ∧ (decode cX5_excusesFrom 13 = .ok (.goto 12, 3)) ∧ (decode cX5_excusesFrom 16 = .ok (.aload_n 0, 1)) ∧ (decode cX5_excusesFrom 17 = .ok (.getfield 15, 3)) ∧ (decode cX5_excusesFrom 20 = .ok (.iload_n 1, 1)) ∧ (decode cX5_excusesFrom 21 = .ok (.iaload, 1)) := by decide +kernel
theorem dX5_excusesFrom_11 : decode cX5_excusesFrom 11 = .ok (.bipush (-6), 2) := dX5_excusesFrom_k18.1
theorem dX5_excusesFrom_13 : decode cX5_excusesFrom 13 = .ok (.goto 12, 3) := dX5_excusesFrom_k18.2.1
theorem dX5_excusesFrom_16 : decode cX5_excusesFrom 16 = .ok (.aload_n 0, 1) := dX5_excusesFrom_k18.2.2.1
theorem dX5_excusesFrom_17 : decode cX5_excusesFrom 17 = .ok (.getfield 15, 3) := dX5_excusesFrom_k18.2.2.2.1
theorem dX5_excusesFrom_20 : decode cX5_excusesFrom 20 = .ok (.iload_n 1, 1) := dX5_excusesFrom_k18.2.2.2.2.1
theorem dX5_excusesFrom_21 : decode cX5_excusesFrom 21 = .ok (.iaload, 1) := dX5_excusesFrom_k18.2.2.2.2.2
set_option maxRecDepth 100000 in
theorem dX5_excusesFrom_k19 : (decode cX5_excusesFrom 22 = .ok (.bipush 100, 2)) ∧ (decode cX5_excusesFrom 24 = .ok (.idiv, 1)) ∧ (decode cX5_excusesFrom 25 = .ok (.ireturn, 1)) := by decide +kernel
theorem dX5_excusesFrom_22 : decode cX5_excusesFrom 22 = .ok (.bipush 100, 2) := dX5_excusesFrom_k19.1
theorem dX5_excusesFrom_24 : decode cX5_excusesFrom 24 = .ok (.idiv, 1) := dX5_excusesFrom_k19.2.1
theorem dX5_excusesFrom_25 : decode cX5_excusesFrom 25 = .ok (.ireturn, 1) := dX5_excusesFrom_k19.2.2
set_option maxRecDepth 100000 in
theorem dX5_step_k20 : (decode cX5_step 0 = .ok (.iload_n 3, 1)) ∧ (decode cX5_step 1 = .ok (.ifCond .lt 20, 3)) ∧ (decode cX5_step 4 = .ok (.iload_n 3, 1)) ∧ (decode cX5_step 5 = .ok (.bipush 6, 2)) ∧ (decode cX5_step 7 = .ok (.if_icmp .ge 14, 3)) ∧ (decode cX5_step 10 = .ok (.aload_n 0, 1)) := by decide +kernel
theorem dX5_step_0 : decode cX5_step 0 = .ok (.iload_n 3, 1) := dX5_step_k20.1
theorem dX5_step_1 : decode cX5_step 1 = .ok (.ifCond .lt 20, 3) := dX5_step_k20.2.1
theorem dX5_step_4 : decode cX5_step 4 = .ok (.iload_n 3, 1) := dX5_step_k20.2.2.1
theorem dX5_step_5 : decode cX5_step 5 = .ok (.bipush 6, 2) := dX5_step_k20.2.2.2.1
theorem dX5_step_7 : decode cX5_step 7 = .ok (.if_icmp .ge 14, 3) := dX5_step_k20.2.2.2.2.1
theorem dX5_step_10 : decode cX5_step 10 = .ok (.aload_n 0, 1) := dX5_step_k20.2.2.2.2.2
set_option maxRecDepth 100000 in
theorem dX5_step_k21 : (decode cX5_step 11 = .ok (.getfield 15, 3)) ∧ (decode cX5_step 14 = .ok (.iload_n 2, 1)) ∧ (decode cX5_step 15 = .ok (.iaload, 1)) ∧ (decode cX5_step 16 = .ok (.ldc 28, 2)) ∧ (decode cX5_step 18 = .ok (.if_icmp .lt 6, 3)) ∧ (decode cX5_step 21 = .ok (.bipush (-6), 2)) := by decide +kernel
theorem dX5_step_11 : decode cX5_step 11 = .ok (.getfield 15, 3) := dX5_step_k21.1
theorem dX5_step_14 : decode cX5_step 14 = .ok (.iload_n 2, 1) := dX5_step_k21.2.1
theorem dX5_step_15 : decode cX5_step 15 = .ok (.iaload, 1) := dX5_step_k21.2.2.1
theorem dX5_step_16 : decode cX5_step 16 = .ok (.ldc 28, 2) := dX5_step_k21.2.2.2.1
theorem dX5_step_18 : decode cX5_step 18 = .ok (.if_icmp .lt 6, 3) := dX5_step_k21.2.2.2.2.1
theorem dX5_step_21 : decode cX5_step 21 = .ok (.bipush (-6), 2) := dX5_step_k21.2.2.2.2.2
set_option maxRecDepth 100000 in
theorem dX5_step_k22 : (decode cX5_step 23 = .ok (.ireturn, 1)) ∧ (decode cX5_step 24 = .ok (.iload_n 2, 1)) ∧ (decode cX5_step 25 = .ok (.istore 4, 2)) ∧ (decode cX5_step 27 = .ok (.iconst 0, 1)) ∧ (decode cX5_step 28 = .ok (.istore 5, 2)) ∧ (decode cX5_step 30 = .ok (.iload 5, 2)) := by decide +kernel
theorem dX5_step_23 : decode cX5_step 23 = .ok (.ireturn, 1) := dX5_step_k22.1
theorem dX5_step_24 : decode cX5_step 24 = .ok (.iload_n 2, 1) := dX5_step_k22.2.1
theorem dX5_step_25 : decode cX5_step 25 = .ok (.istore 4, 2) := dX5_step_k22.2.2.1
theorem dX5_step_27 : decode cX5_step 27 = .ok (.iconst 0, 1) := dX5_step_k22.2.2.2.1
theorem dX5_step_28 : decode cX5_step 28 = .ok (.istore 5, 2) := dX5_step_k22.2.2.2.2.1
theorem dX5_step_30 : decode cX5_step 30 = .ok (.iload 5, 2) := dX5_step_k22.2.2.2.2.2
set_option maxRecDepth 100000 in
theorem dX5_step_k23 : (decode cX5_step 32 = .ok (.iload_n 3, 1)) ∧ (decode cX5_step 33 = .ok (.if_icmp .ge 31, 3)) ∧ (decode cX5_step 36 = .ok (.aload_n 0, 1)) ∧ (decode cX5_step 37 = .ok (.getfield 15, 3)) ∧ (decode cX5_step 40 = .ok (.iload 4, 2)) ∧ (decode cX5_step 42 = .ok (.iaload, 1)) := by decide +kernel
theorem dX5_step_32 : decode cX5_step 32 = .ok (.iload_n 3, 1) := dX5_step_k23.1
theorem dX5_step_33 : decode cX5_step 33 = .ok (.if_icmp .ge 31, 3) := dX5_step_k23.2.1
theorem dX5_step_36 : decode cX5_step 36 = .ok (.aload_n 0, 1) := dX5_step_k23.2.2.1
theorem dX5_step_37 : decode cX5_step 37 = .ok (.getfield 15, 3) := dX5_step_k23.2.2.2.1
theorem dX5_step_40 : decode cX5_step 40 = .ok (.iload 4, 2) := dX5_step_k23.2.2.2.2.1
theorem dX5_step_42 : decode cX5_step 42 = .ok (.iaload, 1) := dX5_step_k23.2.2.2.2.2
set_option maxRecDepth 100000 in
theorem dX5_step_k24 : (decode cX5_step 43 = .ok (.ifCond .ne 6, 3)) ∧ (decode cX5_step 46 = .ok (.bipush (-6), 2)) ∧ (decode cX5_step 48 = .ok (.ireturn, 1)) ∧ (decode cX5_step 49 = .ok (.aload_n 0, 1)) ∧ (decode cX5_step 50 = .ok (.aload_n 1, 1)) ∧ (decode cX5_step 51 = .ok (.iload 4, 2)) := by decide +kernel
theorem dX5_step_43 : decode cX5_step 43 = .ok (.ifCond .ne 6, 3) := dX5_step_k24.1
theorem dX5_step_46 : decode cX5_step 46 = .ok (.bipush (-6), 2) := dX5_step_k24.2.1
theorem dX5_step_48 : decode cX5_step 48 = .ok (.ireturn, 1) := dX5_step_k24.2.2.1
theorem dX5_step_49 : decode cX5_step 49 = .ok (.aload_n 0, 1) := dX5_step_k24.2.2.2.1
theorem dX5_step_50 : decode cX5_step 50 = .ok (.aload_n 1, 1) := dX5_step_k24.2.2.2.2.1
theorem dX5_step_51 : decode cX5_step 51 = .ok (.iload 4, 2) := dX5_step_k24.2.2.2.2.2
set_option maxRecDepth 100000 in
theorem dX5_step_k25 : (decode cX5_step 53 = .ok (.invokevirtual 42, 3)) ∧ (decode cX5_step 56 = .ok (.istore 4, 2)) ∧ (decode cX5_step 58 = .ok (.iinc 5 1, 3)) ∧ (decode cX5_step 61 = .ok (.goto (-31), 3)) ∧ (decode cX5_step 64 = .ok (.iload 4, 2)) ∧ (decode cX5_step 66 = .ok (.ireturn, 1)) := by decide +kernel
theorem dX5_step_53 : decode cX5_step 53 = .ok (.invokevirtual 42, 3) := dX5_step_k25.1
theorem dX5_step_56 : decode cX5_step 56 = .ok (.istore 4, 2) := dX5_step_k25.2.1
theorem dX5_step_58 : decode cX5_step 58 = .ok (.iinc 5 1, 3) := dX5_step_k25.2.2.1
theorem dX5_step_61 : decode cX5_step 61 = .ok (.goto (-31), 3) := dX5_step_k25.2.2.2.1
theorem dX5_step_64 : decode cX5_step 64 = .ok (.iload 4, 2) := dX5_step_k25.2.2.2.2.1
theorem dX5_step_66 : decode cX5_step 66 = .ok (.ireturn, 1) := dX5_step_k25.2.2.2.2.2
set_option maxRecDepth 100000 in
theorem dX5_follower_k26 : (decode cX5_follower 0 = .ok (.iconst 0, 1)) ∧ (decode cX5_follower 1 = .ok (.istore_n 3, 1)) ∧ (decode cX5_follower 2 = .ok (.iload_n 3, 1)) ∧ (decode cX5_follower 3 = .ok (.aload_n 1, 1)) ∧ (decode cX5_follower 4 = .ok (.getfield 18, 3)) ∧ (decode cX5_follower 7 = .ok (.if_icmp .ge 42, 3)) := by decide +kernel
theorem dX5_follower_0 : decode cX5_follower 0 = .ok (.iconst 0, 1) := dX5_follower_k26.1
theorem dX5_follower_1 : decode cX5_follower 1 = .ok (.istore_n 3, 1) := dX5_follower_k26.2.1
theorem dX5_follower_2 : decode cX5_follower 2 = .ok (.iload_n 3, 1) := dX5_follower_k26.2.2.1
theorem dX5_follower_3 : decode cX5_follower 3 = .ok (.aload_n 1, 1) := dX5_follower_k26.2.2.2.1
theorem dX5_follower_4 : decode cX5_follower 4 = .ok (.getfield 18, 3) := dX5_follower_k26.2.2.2.2.1
theorem dX5_follower_7 : decode cX5_follower 7 = .ok (.if_icmp .ge 42, 3) := dX5_follower_k26.2.2.2.2.2
set_option maxRecDepth 100000 in
theorem dX5_follower_k27 : (decode cX5_follower 10 = .ok (.aload_n 1, 1)) ∧ (decode cX5_follower 11 = .ok (.iload_n 2, 1)) ∧ (decode cX5_follower 12 = .ok (.iload_n 3, 1)) ∧ (decode cX5_follower 13 = .ok (.invokevirtual 33, 3)) ∧ (decode cX5_follower 16 = .ok (.ifCond .le 27, 3)) ∧ (decode cX5_follower 19 = .ok (.aload_n 0, 1)) := by decide +kernel
theorem dX5_follower_10 : decode cX5_follower 10 = .ok (.aload_n 1, 1) := dX5_follower_k27.1
theorem dX5_follower_11 : decode cX5_follower 11 = .ok (.iload_n 2, 1) := dX5_follower_k27.2.1
theorem dX5_follower_12 : decode cX5_follower 12 = .ok (.iload_n 3, 1) := dX5_follower_k27.2.2.1
theorem dX5_follower_13 : decode cX5_follower 13 = .ok (.invokevirtual 33, 3) := dX5_follower_k27.2.2.2.1
theorem dX5_follower_16 : decode cX5_follower 16 = .ok (.ifCond .le 27, 3) := dX5_follower_k27.2.2.2.2.1
theorem dX5_follower_19 : decode cX5_follower 19 = .ok (.aload_n 0, 1) := dX5_follower_k27.2.2.2.2.2
set_option maxRecDepth 100000 in
theorem dX5_follower_k28 : (decode cX5_follower 20 = .ok (.getfield 9, 3)) ∧ (decode cX5_follower 23 = .ok (.iload_n 3, 1)) ∧ (decode cX5_follower 24 = .ok (.iaload, 1)) ∧ (decode cX5_follower 25 = .ok (.aload_n 0, 1)) ∧ (decode cX5_follower 26 = .ok (.getfield 15, 3)) ∧ (decode cX5_follower 29 = .ok (.iload_n 3, 1)) := by decide +kernel
theorem dX5_follower_20 : decode cX5_follower 20 = .ok (.getfield 9, 3) := dX5_follower_k28.1
theorem dX5_follower_23 : decode cX5_follower 23 = .ok (.iload_n 3, 1) := dX5_follower_k28.2.1
theorem dX5_follower_24 : decode cX5_follower 24 = .ok (.iaload, 1) := dX5_follower_k28.2.2.1
theorem dX5_follower_25 : decode cX5_follower 25 = .ok (.aload_n 0, 1) := dX5_follower_k28.2.2.2.1
theorem dX5_follower_26 : decode cX5_follower 26 = .ok (.getfield 15, 3) := dX5_follower_k28.2.2.2.2.1
theorem dX5_follower_29 : decode cX5_follower 29 = .ok (.iload_n 3, 1) := dX5_follower_k28.2.2.2.2.2
set_option maxRecDepth 100000 in
theorem dX5_follower_k29 : (decode cX5_follower 30 = .ok (.iaload, 1)) ∧ (decode cX5_follower 31 = .ok (.iadd, 1)) ∧ (decode cX5_follower 32 = .ok (.aload_n 0, 1)) ∧ (decode cX5_follower 33 = .ok (.getfield 15, 3)) ∧ (decode cX5_follower 36 = .ok (.iload_n 2, 1)) ∧ (decode cX5_follower 37 = .ok (.iaload, 1)) := by decide +kernel
theorem dX5_follower_30 : decode cX5_follower 30 = .ok (.iaload, 1) := dX5_follower_k29.1
theorem dX5_follower_31 : decode cX5_follower 31 = .ok (.iadd, 1) := dX5_follower_k29.2.1
theorem dX5_follower_32 : decode cX5_follower 32 = .ok (.aload_n 0, 1) := dX5_follower_k29.2.2.1
theorem dX5_follower_33 : decode cX5_follower 33 = .ok (.getfield 15, 3) := dX5_follower_k29.2.2.2.1
theorem dX5_follower_36 : decode cX5_follower 36 = .ok (.iload_n 2, 1) := dX5_follower_k29.2.2.2.2.1
theorem dX5_follower_37 : decode cX5_follower 37 = .ok (.iaload, 1) := dX5_follower_k29.2.2.2.2.2
set_option maxRecDepth 100000 in
theorem dX5_follower_k30 : (decode cX5_follower 38 = .ok (.if_icmp .ne 5, 3)) ∧ (decode cX5_follower 41 = .ok (.iload_n 3, 1)) ∧ (decode cX5_follower 42 = .ok (.ireturn, 1)) ∧ (decode cX5_follower 43 = .ok (.iinc 3 1, 3)) ∧ (decode cX5_follower 46 = .ok (.goto (-44), 3)) ∧ (decode cX5_follower 49 = .ok (.iload_n 2, 1)) := by decide +kernel
theorem dX5_follower_38 : decode cX5_follower 38 = .ok (.if_icmp .ne 5, 3) := dX5_follower_k30.1
theorem dX5_follower_41 : decode cX5_follower 41 = .ok (.iload_n 3, 1) := dX5_follower_k30.2.1
theorem dX5_follower_42 : decode cX5_follower 42 = .ok (.ireturn, 1) := dX5_follower_k30.2.2.1
theorem dX5_follower_43 : decode cX5_follower 43 = .ok (.iinc 3 1, 3) := dX5_follower_k30.2.2.2.1
theorem dX5_follower_46 : decode cX5_follower 46 = .ok (.goto (-44), 3) := dX5_follower_k30.2.2.2.2.1
theorem dX5_follower_49 : decode cX5_follower 49 = .ok (.iload_n 2, 1) := dX5_follower_k30.2.2.2.2.2
theorem dX5_follower_50 : decode cX5_follower 50 = .ok (.ireturn, 1) := by decide +kernel
