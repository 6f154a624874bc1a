set_option maxRecDepth 100000 in
theorem dX1_init_k0 : (decode cX1_init 0 = .ok (.aload_n 0, 1)) ∧ (decode cX1_init 1 = .ok (.invokespecial 3, 3)) ∧ (decode cX1_init 4 = .ok (.aload_n 0, 1)) ∧ (decode cX1_init 5 = .ok (.bipush 36, 2)) ∧ (decode cX1_init 7 = .ok (.newarray .int, 2)) ∧ (decode cX1_init 9 = .ok (.putfield 9, 3)) := by decide +kernel
theorem dX1_init_0 : decode cX1_init 0 = .ok (.aload_n 0, 1) := dX1_init_k0.1
theorem dX1_init_1 : decode cX1_init 1 = .ok (.invokespecial 3, 3) := dX1_init_k0.2.1
theorem dX1_init_4 : decode cX1_init 4 = .ok (.aload_n 0, 1) := dX1_init_k0.2.2.1
theorem dX1_init_5 : decode cX1_init 5 = .ok (.bipush 36, 2) := dX1_init_k0.2.2.2.1
theorem dX1_init_7 : decode cX1_init 7 = .ok (.newarray .int, 2) := dX1_init_k0.2.2.2.2.1
theorem dX1_init_9 : decode cX1_init 9 = .ok (.putfield 9, 3) := dX1_init_k0.2.2.2.2.2
set_option maxRecDepth 100000 in
theorem dX1_init_k1 : (decode cX1_init 12 = .ok (.aload_n 0, 1)) ∧ (decode cX1_init 13 = .ok (.bipush 36, 2)) ∧ (decode cX1_init 15 = .ok (.newarray .int, 2)) ∧ (decode cX1_init 17 = .ok (.putfield 15, 3)) ∧ (decode cX1_init 20 = .ok (.aload_n 0, 1)) ∧ (decode cX1_init 21 = .ok (.bipush 8, 2)) := by decide +kernel
theorem dX1_init_12 : decode cX1_init 12 = .ok (.aload_n 0, 1) := dX1_init_k1.1
theorem dX1_init_13 : decode cX1_init 13 = .ok (.bipush 36, 2) := dX1_init_k1.2.1
theorem dX1_init_15 : decode cX1_init 15 = .ok (.newarray .int, 2) := dX1_init_k1.2.2.1
theorem dX1_init_17 : decode cX1_init 17 = .ok (.putfield 15, 3) := dX1_init_k1.2.2.2.1
theorem dX1_init_20 : decode cX1_init 20 = .ok (.aload_n 0, 1) := dX1_init_k1.2.2.2.2.1
theorem dX1_init_21 : decode cX1_init 21 = .ok (.bipush 8, 2) := dX1_init_k1.2.2.2.2.2
set_option maxRecDepth 100000 in
theorem dX1_init_k2 : (decode cX1_init 23 = .ok (.newarray .int, 2)) ∧ (decode cX1_init 25 = .ok (.putfield 18, 3)) ∧ (decode cX1_init 28 = .ok (.aload_n 0, 1)) ∧ (decode cX1_init 29 = .ok (.bipush 8, 2)) ∧ (decode cX1_init 31 = .ok (.newarray .int, 2)) ∧ (decode cX1_init 33 = .ok (.putfield 21, 3)) := by decide +kernel
theorem dX1_init_23 : decode cX1_init 23 = .ok (.newarray .int, 2) := dX1_init_k2.1
theorem dX1_init_25 : decode cX1_init 25 = .ok (.putfield 18, 3) := dX1_init_k2.2.1
theorem dX1_init_28 : decode cX1_init 28 = .ok (.aload_n 0, 1) := dX1_init_k2.2.2.1
theorem dX1_init_29 : decode cX1_init 29 = .ok (.bipush 8, 2) := dX1_init_k2.2.2.2.1
theorem dX1_init_31 : decode cX1_init 31 = .ok (.newarray .int, 2) := dX1_init_k2.2.2.2.2.1
theorem dX1_init_33 : decode cX1_init 33 = .ok (.putfield 21, 3) := dX1_init_k2.2.2.2.2.2
set_option maxRecDepth 100000 in
theorem dX1_init_k3 : (decode cX1_init 36 = .ok (.aload_n 0, 1)) ∧ (decode cX1_init 37 = .ok (.bipush 8, 2)) ∧ (decode cX1_init 39 = .ok (.newarray .int, 2)) ∧ (decode cX1_init 41 = .ok (.putfield 24, 3)) ∧ (decode cX1_init 44 = .ok (.aload_n 0, 1)) ∧ (decode cX1_init 45 = .ok (.bipush 8, 2)) := by decide +kernel
theorem dX1_init_36 : decode cX1_init 36 = .ok (.aload_n 0, 1) := dX1_init_k3.1
theorem dX1_init_37 : decode cX1_init 37 = .ok (.bipush 8, 2) := dX1_init_k3.2.1
theorem dX1_init_39 : decode cX1_init 39 = .ok (.newarray .int, 2) := dX1_init_k3.2.2.1
theorem dX1_init_41 : decode cX1_init 41 = .ok (.putfield 24, 3) := dX1_init_k3.2.2.2.1
theorem dX1_init_44 : decode cX1_init 44 = .ok (.aload_n 0, 1) := dX1_init_k3.2.2.2.2.1
theorem dX1_init_45 : decode cX1_init 45 = .ok (.bipush 8, 2) := dX1_init_k3.2.2.2.2.2
set_option maxRecDepth 100000 in
theorem dX1_init_k4 : (decode cX1_init 47 = .ok (.newarray .int, 2)) ∧ (decode cX1_init 49 = .ok (.putfield 27, 3)) ∧ (decode cX1_init 52 = .ok (.aload_n 0, 1)) ∧ (decode cX1_init 53 = .ok (.bipush 40, 2)) ∧ (decode cX1_init 55 = .ok (.newarray .int, 2)) ∧ (decode cX1_init 57 = .ok (.putfield 30, 3)) := by decide +kernel
theorem dX1_init_47 : decode cX1_init 47 = .ok (.newarray .int, 2) := dX1_init_k4.1
theorem dX1_init_49 : decode cX1_init 49 = .ok (.putfield 27, 3) := dX1_init_k4.2.1
theorem dX1_init_52 : decode cX1_init 52 = .ok (.aload_n 0, 1) := dX1_init_k4.2.2.1
theorem dX1_init_53 : decode cX1_init 53 = .ok (.bipush 40, 2) := dX1_init_k4.2.2.2.1
theorem dX1_init_55 : decode cX1_init 55 = .ok (.newarray .int, 2) := dX1_init_k4.2.2.2.2.1
theorem dX1_init_57 : decode cX1_init 57 = .ok (.putfield 30, 3) := dX1_init_k4.2.2.2.2.2
set_option maxRecDepth 100000 in
theorem dX1_init_k5 : (decode cX1_init 60 = .ok (.aload_n 0, 1)) ∧ (decode cX1_init 61 = .ok (.bipush 6, 2)) ∧ (decode cX1_init 63 = .ok (.newarray .int, 2)) ∧ (decode cX1_init 65 = .ok (.putfield 33, 3)) ∧ (decode cX1_init 68 = .ok (.aload_n 0, 1)) ∧ (decode cX1_init 69 = .ok (.bipush 6, 2)) := by decide +kernel
theorem dX1_init_60 : decode cX1_init 60 = .ok (.aload_n 0, 1) := dX1_init_k5.1
theorem dX1_init_61 : decode cX1_init 61 = .ok (.bipush 6, 2) := dX1_init_k5.2.1
theorem dX1_init_63 : decode cX1_init 63 = .ok (.newarray .int, 2) := dX1_init_k5.2.2.1
theorem dX1_init_65 : decode cX1_init 65 = .ok (.putfield 33, 3) := dX1_init_k5.2.2.2.1
theorem dX1_init_68 : decode cX1_init 68 = .ok (.aload_n 0, 1) := dX1_init_k5.2.2.2.2.1
theorem dX1_init_69 : decode cX1_init 69 = .ok (.bipush 6, 2) := dX1_init_k5.2.2.2.2.2
set_option maxRecDepth 100000 in
theorem dX1_init_k6 : (decode cX1_init 71 = .ok (.newarray .int, 2)) ∧ (decode cX1_init 73 = .ok (.putfield 36, 3)) ∧ (decode cX1_init 76 = .ok (.return_, 1)) := by decide +kernel
theorem dX1_init_71 : decode cX1_init 71 = .ok (.newarray .int, 2) := dX1_init_k6.1
theorem dX1_init_73 : decode cX1_init 73 = .ok (.putfield 36, 3) := dX1_init_k6.2.1
theorem dX1_init_76 : decode cX1_init 76 = .ok (.return_, 1) := dX1_init_k6.2.2
set_option maxRecDepth 100000 in
theorem dX1_clear_k7 : (decode cX1_clear 0 = .ok (.aload_n 0, 1)) ∧ (decode cX1_clear 1 = .ok (.iload_n 1, 1)) ∧ (decode cX1_clear 2 = .ok (.putfield 39, 3)) ∧ (decode cX1_clear 5 = .ok (.aload_n 0, 1)) ∧ (decode cX1_clear 6 = .ok (.iconst 0, 1)) ∧ (decode cX1_clear 7 = .ok (.putfield 43, 3)) := by decide +kernel
theorem dX1_clear_0 : decode cX1_clear 0 = .ok (.aload_n 0, 1) := dX1_clear_k7.1
theorem dX1_clear_1 : decode cX1_clear 1 = .ok (.iload_n 1, 1) := dX1_clear_k7.2.1
theorem dX1_clear_2 : decode cX1_clear 2 = .ok (.putfield 39, 3) := dX1_clear_k7.2.2.1
theorem dX1_clear_5 : decode cX1_clear 5 = .ok (.aload_n 0, 1) := dX1_clear_k7.2.2.2.1
theorem dX1_clear_6 : decode cX1_clear 6 = .ok (.iconst 0, 1) := dX1_clear_k7.2.2.2.2.1
theorem dX1_clear_7 : decode cX1_clear 7 = .ok (.putfield 43, 3) := dX1_clear_k7.2.2.2.2.2
set_option maxRecDepth 100000 in
theorem dX1_clear_k8 : (decode cX1_clear 10 = .ok (.aload_n 0, 1)) ∧ (decode cX1_clear 11 = .ok (.iconst 0, 1)) ∧ (decode cX1_clear 12 = .ok (.putfield 46, 3)) ∧ (decode cX1_clear 15 = .ok (.aload_n 0, 1)) ∧ (decode cX1_clear 16 = .ok (.getfield 9, 3)) ∧ (decode cX1_clear 19 = .ok (.iconst 0, 1)) := by decide +kernel
theorem dX1_clear_10 : decode cX1_clear 10 = .ok (.aload_n 0, 1) := dX1_clear_k8.1
theorem dX1_clear_11 : decode cX1_clear 11 = .ok (.iconst 0, 1) := dX1_clear_k8.2.1
theorem dX1_clear_12 : decode cX1_clear 12 = .ok (.putfield 46, 3) := dX1_clear_k8.2.2.1
theorem dX1_clear_15 : decode cX1_clear 15 = .ok (.aload_n 0, 1) := dX1_clear_k8.2.2.2.1
theorem dX1_clear_16 : decode cX1_clear 16 = .ok (.getfield 9, 3) := dX1_clear_k8.2.2.2.2.1
theorem dX1_clear_19 : decode cX1_clear 19 = .ok (.iconst 0, 1) := dX1_clear_k8.2.2.2.2.2
set_option maxRecDepth 100000 in
theorem dX1_clear_k9 : (decode cX1_clear 20 = .ok (.invokestatic 49, 3)) ∧ (decode cX1_clear 23 = .ok (.iconst 0, 1)) ∧ (decode cX1_clear 24 = .ok (.istore_n 2, 1)) ∧ (decode cX1_clear 25 = .ok (.iload_n 2, 1)) ∧ (decode cX1_clear 26 = .ok (.bipush 6, 2)) ∧ (decode cX1_clear 28 = .ok (.if_icmp .ge 22, 3)) := by decide +kernel
theorem dX1_clear_20 : decode cX1_clear 20 = .ok (.invokestatic 49, 3) := dX1_clear_k9.1
theorem dX1_clear_23 : decode cX1_clear 23 = .ok (.iconst 0, 1) := dX1_clear_k9.2.1
theorem dX1_clear_24 : decode cX1_clear 24 = .ok (.istore_n 2, 1) := dX1_clear_k9.2.2.1
theorem dX1_clear_25 : decode cX1_clear 25 = .ok (.iload_n 2, 1) := dX1_clear_k9.2.2.2.1
theorem dX1_clear_26 : decode cX1_clear 26 = .ok (.bipush 6, 2) := dX1_clear_k9.2.2.2.2.1
theorem dX1_clear_28 : decode cX1_clear 28 = .ok (.if_icmp .ge 22, 3) := dX1_clear_k9.2.2.2.2.2
set_option maxRecDepth 100000 in
theorem dX1_clear_k10 : (decode cX1_clear 31 = .ok (.aload_n 0, 1)) ∧ (decode cX1_clear 32 = .ok (.getfield 9, 3)) ∧ (decode cX1_clear 35 = .ok (.iload_n 2, 1)) ∧ (decode cX1_clear 36 = .ok (.bipush 6, 2)) ∧ (decode cX1_clear 38 = .ok (.imul, 1)) ∧ (decode cX1_clear 39 = .ok (.iconst 4, 1)) := by decide +kernel
theorem dX1_clear_31 : decode cX1_clear 31 = .ok (.aload_n 0, 1) := dX1_clear_k10.1
theorem dX1_clear_32 : decode cX1_clear 32 = .ok (.getfield 9, 3) := dX1_clear_k10.2.1
theorem dX1_clear_35 : decode cX1_clear 35 = .ok (.iload_n 2, 1) := dX1_clear_k10.2.2.1
theorem dX1_clear_36 : decode cX1_clear 36 = .ok (.bipush 6, 2) := dX1_clear_k10.2.2.2.1
theorem dX1_clear_38 : decode cX1_clear 38 = .ok (.imul, 1) := dX1_clear_k10.2.2.2.2.1
theorem dX1_clear_39 : decode cX1_clear 39 = .ok (.iconst 4, 1) := dX1_clear_k10.2.2.2.2.2
set_option maxRecDepth 100000 in
theorem dX1_clear_k11 : (decode cX1_clear 40 = .ok (.iadd, 1)) ∧ (decode cX1_clear 41 = .ok (.bipush 8, 2)) ∧ (decode cX1_clear 43 = .ok (.iastore, 1)) ∧ (decode cX1_clear 44 = .ok (.iinc 2 1, 3)) ∧ (decode cX1_clear 47 = .ok (.goto (-22), 3)) ∧ (decode cX1_clear 50 = .ok (.aload_n 0, 1)) := by decide +kernel
theorem dX1_clear_40 : decode cX1_clear 40 = .ok (.iadd, 1) := dX1_clear_k11.1
theorem dX1_clear_41 : decode cX1_clear 41 = .ok (.bipush 8, 2) := dX1_clear_k11.2.1
theorem dX1_clear_43 : decode cX1_clear 43 = .ok (.iastore, 1) := dX1_clear_k11.2.2.1
theorem dX1_clear_44 : decode cX1_clear 44 = .ok (.iinc 2 1, 3) := dX1_clear_k11.2.2.2.1
theorem dX1_clear_47 : decode cX1_clear 47 = .ok (.goto (-22), 3) := dX1_clear_k11.2.2.2.2.1
theorem dX1_clear_50 : decode cX1_clear 50 = .ok (.aload_n 0, 1) := dX1_clear_k11.2.2.2.2.2
set_option maxRecDepth 100000 in
theorem dX1_clear_k12 : (decode cX1_clear 51 = .ok (.getfield 15, 3)) ∧ (decode cX1_clear 54 = .ok (.iconst 0, 1)) ∧ (decode cX1_clear 55 = .ok (.invokestatic 49, 3)) ∧ (decode cX1_clear 58 = .ok (.aload_n 0, 1)) ∧ (decode cX1_clear 59 = .ok (.getfield 18, 3)) ∧ (decode cX1_clear 62 = .ok (.iconst 0, 1)) := by decide +kernel
theorem dX1_clear_51 : decode cX1_clear 51 = .ok (.getfield 15, 3) := dX1_clear_k12.1
theorem dX1_clear_54 : decode cX1_clear 54 = .ok (.iconst 0, 1) := dX1_clear_k12.2.1
theorem dX1_clear_55 : decode cX1_clear 55 = .ok (.invokestatic 49, 3) := dX1_clear_k12.2.2.1
theorem dX1_clear_58 : decode cX1_clear 58 = .ok (.aload_n 0, 1) := dX1_clear_k12.2.2.2.1
theorem dX1_clear_59 : decode cX1_clear 59 = .ok (.getfield 18, 3) := dX1_clear_k12.2.2.2.2.1
theorem dX1_clear_62 : decode cX1_clear 62 = .ok (.iconst 0, 1) := dX1_clear_k12.2.2.2.2.2
set_option maxRecDepth 100000 in
theorem dX1_clear_k13 : (decode cX1_clear 63 = .ok (.invokestatic 49, 3)) ∧ (decode cX1_clear 66 = .ok (.aload_n 0, 1)) ∧ (decode cX1_clear 67 = .ok (.getfield 21, 3)) ∧ (decode cX1_clear 70 = .ok (.iconst 0, 1)) ∧ (decode cX1_clear 71 = .ok (.invokestatic 49, 3)) ∧ (decode cX1_clear 74 = .ok (.aload_n 0, 1)) := by decide +kernel
theorem dX1_clear_63 : decode cX1_clear 63 = .ok (.invokestatic 49, 3) := dX1_clear_k13.1
theorem dX1_clear_66 : decode cX1_clear 66 = .ok (.aload_n 0, 1) := dX1_clear_k13.2.1
theorem dX1_clear_67 : decode cX1_clear 67 = .ok (.getfield 21, 3) := dX1_clear_k13.2.2.1
theorem dX1_clear_70 : decode cX1_clear 70 = .ok (.iconst 0, 1) := dX1_clear_k13.2.2.2.1
theorem dX1_clear_71 : decode cX1_clear 71 = .ok (.invokestatic 49, 3) := dX1_clear_k13.2.2.2.2.1
theorem dX1_clear_74 : decode cX1_clear 74 = .ok (.aload_n 0, 1) := dX1_clear_k13.2.2.2.2.2
set_option maxRecDepth 100000 in
theorem dX1_clear_k14 : (decode cX1_clear 75 = .ok (.getfield 24, 3)) ∧ (decode cX1_clear 78 = .ok (.bipush (-6), 2)) ∧ (decode cX1_clear 80 = .ok (.invokestatic 49, 3)) ∧ (decode cX1_clear 83 = .ok (.aload_n 0, 1)) ∧ (decode cX1_clear 84 = .ok (.getfield 27, 3)) ∧ (decode cX1_clear 87 = .ok (.iconst 0, 1)) := by decide +kernel
theorem dX1_clear_75 : decode cX1_clear 75 = .ok (.getfield 24, 3) := dX1_clear_k14.1
theorem dX1_clear_78 : decode cX1_clear 78 = .ok (.bipush (-6), 2) := dX1_clear_k14.2.1
theorem dX1_clear_80 : decode cX1_clear 80 = .ok (.invokestatic 49, 3) := dX1_clear_k14.2.2.1
theorem dX1_clear_83 : decode cX1_clear 83 = .ok (.aload_n 0, 1) := dX1_clear_k14.2.2.2.1
theorem dX1_clear_84 : decode cX1_clear 84 = .ok (.getfield 27, 3) := dX1_clear_k14.2.2.2.2.1
theorem dX1_clear_87 : decode cX1_clear 87 = .ok (.iconst 0, 1) := dX1_clear_k14.2.2.2.2.2
set_option maxRecDepth 100000 in
theorem dX1_clear_k15 : (decode cX1_clear 88 = .ok (.invokestatic 49, 3)) ∧ (decode cX1_clear 91 = .ok (.aload_n 0, 1)) ∧ (decode cX1_clear 92 = .ok (.getfield 30, 3)) ∧ (decode cX1_clear 95 = .ok (.iconst 0, 1)) ∧ (decode cX1_clear 96 = .ok (.invokestatic 49, 3)) ∧ (decode cX1_clear 99 = .ok (.return_, 1)) := by decide +kernel
theorem dX1_clear_88 : decode cX1_clear 88 = .ok (.invokestatic 49, 3) := dX1_clear_k15.1
theorem dX1_clear_91 : decode cX1_clear 91 = .ok (.aload_n 0, 1) := dX1_clear_k15.2.1
theorem dX1_clear_92 : decode cX1_clear 92 = .ok (.getfield 30, 3) := dX1_clear_k15.2.2.1
theorem dX1_clear_95 : decode cX1_clear 95 = .ok (.iconst 0, 1) := dX1_clear_k15.2.2.2.1
theorem dX1_clear_96 : decode cX1_clear 96 = .ok (.invokestatic 49, 3) := dX1_clear_k15.2.2.2.2.1
theorem dX1_clear_99 : decode cX1_clear 99 = .ok (.return_, 1) := dX1_clear_k15.2.2.2.2.2
set_option maxRecDepth 100000 in
theorem dX1_copy_k16 : (decode cX1_copy 0 = .ok (.aload_n 0, 1)) ∧ (decode cX1_copy 1 = .ok (.aload_n 1, 1)) ∧ (decode cX1_copy 2 = .ok (.getfield 39, 3)) ∧ (decode cX1_copy 5 = .ok (.putfield 39, 3)) ∧ (decode cX1_copy 8 = .ok (.aload_n 0, 1)) ∧ (decode cX1_copy 9 = .ok (.aload_n 1, 1)) := by decide +kernel
theorem dX1_copy_0 : decode cX1_copy 0 = .ok (.aload_n 0, 1) := dX1_copy_k16.1
theorem dX1_copy_1 : decode cX1_copy 1 = .ok (.aload_n 1, 1) := dX1_copy_k16.2.1
theorem dX1_copy_2 : decode cX1_copy 2 = .ok (.getfield 39, 3) := dX1_copy_k16.2.2.1
theorem dX1_copy_5 : decode cX1_copy 5 = .ok (.putfield 39, 3) := dX1_copy_k16.2.2.2.1
theorem dX1_copy_8 : decode cX1_copy 8 = .ok (.aload_n 0, 1) := dX1_copy_k16.2.2.2.2.1
theorem dX1_copy_9 : decode cX1_copy 9 = .ok (.aload_n 1, 1) := dX1_copy_k16.2.2.2.2.2
set_option maxRecDepth 100000 in
theorem dX1_copy_k17 : (decode cX1_copy 10 = .ok (.getfield 43, 3)) ∧ (decode cX1_copy 13 = .ok (.putfield 43, 3)) ∧ (decode cX1_copy 16 = .ok (.aload_n 0, 1)) ∧ (decode cX1_copy 17 = .ok (.aload_n 1, 1)) ∧ (decode cX1_copy 18 = .ok (.getfield 46, 3)) ∧ (decode cX1_copy 21 = .ok (.putfield 46, 3)) := by decide +kernel
theorem dX1_copy_10 : decode cX1_copy 10 = .ok (.getfield 43, 3) := dX1_copy_k17.1
theorem dX1_copy_13 : decode cX1_copy 13 = .ok (.putfield 43, 3) := dX1_copy_k17.2.1
theorem dX1_copy_16 : decode cX1_copy 16 = .ok (.aload_n 0, 1) := dX1_copy_k17.2.2.1
theorem dX1_copy_17 : decode cX1_copy 17 = .ok (.aload_n 1, 1) := dX1_copy_k17.2.2.2.1
theorem dX1_copy_18 : decode cX1_copy 18 = .ok (.getfield 46, 3) := dX1_copy_k17.2.2.2.2.1
theorem dX1_copy_21 : decode cX1_copy 21 = .ok (.putfield 46, 3) := dX1_copy_k17.2.2.2.2.2
set_option maxRecDepth 100000 in
theorem dX1_copy_k18 : (decode cX1_copy 24 = .ok (.aload_n 1, 1)) ∧ (decode cX1_copy 25 = .ok (.getfield 9, 3)) ∧ (decode cX1_copy 28 = .ok (.iconst 0, 1)) ∧ (decode cX1_copy 29 = .ok (.aload_n 0, 1)) ∧ (decode cX1_copy 30 = .ok (.getfield 9, 3)) ∧ (decode cX1_copy 33 = .ok (.iconst 0, 1)) := by decide +kernel
theorem dX1_copy_24 : decode cX1_copy 24 = .ok (.aload_n 1, 1) := dX1_copy_k18.1
theorem dX1_copy_25 : decode cX1_copy 25 = .ok (.getfield 9, 3) := dX1_copy_k18.2.1
theorem dX1_copy_28 : decode cX1_copy 28 = .ok (.iconst 0, 1) := dX1_copy_k18.2.2.1
theorem dX1_copy_29 : decode cX1_copy 29 = .ok (.aload_n 0, 1) := dX1_copy_k18.2.2.2.1
theorem dX1_copy_30 : decode cX1_copy 30 = .ok (.getfield 9, 3) := dX1_copy_k18.2.2.2.2.1
theorem dX1_copy_33 : decode cX1_copy 33 = .ok (.iconst 0, 1) := dX1_copy_k18.2.2.2.2.2
set_option maxRecDepth 100000 in
theorem dX1_copy_k19 : (decode cX1_copy 34 = .ok (.aload_n 0, 1)) ∧ (decode cX1_copy 35 = .ok (.getfield 9, 3)) ∧ (decode cX1_copy 38 = .ok (.arraylength, 1)) ∧ (decode cX1_copy 39 = .ok (.invokestatic 55, 3)) ∧ (decode cX1_copy 42 = .ok (.aload_n 1, 1)) ∧ (decode cX1_copy 43 = .ok (.getfield 15, 3)) := by decide +kernel
theorem dX1_copy_34 : decode cX1_copy 34 = .ok (.aload_n 0, 1) := dX1_copy_k19.1
theorem dX1_copy_35 : decode cX1_copy 35 = .ok (.getfield 9, 3) := dX1_copy_k19.2.1
theorem dX1_copy_38 : decode cX1_copy 38 = .ok (.arraylength, 1) := dX1_copy_k19.2.2.1
theorem dX1_copy_39 : decode cX1_copy 39 = .ok (.invokestatic 55, 3) := dX1_copy_k19.2.2.2.1
theorem dX1_copy_42 : decode cX1_copy 42 = .ok (.aload_n 1, 1) := dX1_copy_k19.2.2.2.2.1
theorem dX1_copy_43 : decode cX1_copy 43 = .ok (.getfield 15, 3) := dX1_copy_k19.2.2.2.2.2
set_option maxRecDepth 100000 in
theorem dX1_copy_k20 : (decode cX1_copy 46 = .ok (.iconst 0, 1)) ∧ (decode cX1_copy 47 = .ok (.aload_n 0, 1)) ∧ (decode cX1_copy 48 = .ok (.getfield 15, 3)) ∧ (decode cX1_copy 51 = .ok (.iconst 0, 1)) ∧ (decode cX1_copy 52 = .ok (.aload_n 0, 1)) ∧ (decode cX1_copy 53 = .ok (.getfield 15, 3)) := by decide +kernel
theorem dX1_copy_46 : decode cX1_copy 46 = .ok (.iconst 0, 1) := dX1_copy_k20.1
theorem dX1_copy_47 : decode cX1_copy 47 = .ok (.aload_n 0, 1) := dX1_copy_k20.2.1
theorem dX1_copy_48 : decode cX1_copy 48 = .ok (.getfield 15, 3) := dX1_copy_k20.2.2.1
theorem dX1_copy_51 : decode cX1_copy 51 = .ok (.iconst 0, 1) := dX1_copy_k20.2.2.2.1
theorem dX1_copy_52 : decode cX1_copy 52 = .ok (.aload_n 0, 1) := dX1_copy_k20.2.2.2.2.1
theorem dX1_copy_53 : decode cX1_copy 53 = .ok (.getfield 15, 3) := dX1_copy_k20.2.2.2.2.2
set_option maxRecDepth 100000 in
theorem dX1_copy_k21 : (decode cX1_copy 56 = .ok (.arraylength, 1)) ∧ (decode cX1_copy 57 = .ok (.invokestatic 55, 3)) ∧ (decode cX1_copy 60 = .ok (.aload_n 1, 1)) ∧ (decode cX1_copy 61 = .ok (.getfield 18, 3)) ∧ (decode cX1_copy 64 = .ok (.iconst 0, 1)) ∧ (decode cX1_copy 65 = .ok (.aload_n 0, 1)) := by decide +kernel
theorem dX1_copy_56 : decode cX1_copy 56 = .ok (.arraylength, 1) := dX1_copy_k21.1
theorem dX1_copy_57 : decode cX1_copy 57 = .ok (.invokestatic 55, 3) := dX1_copy_k21.2.1
theorem dX1_copy_60 : decode cX1_copy 60 = .ok (.aload_n 1, 1) := dX1_copy_k21.2.2.1
theorem dX1_copy_61 : decode cX1_copy 61 = .ok (.getfield 18, 3) := dX1_copy_k21.2.2.2.1
theorem dX1_copy_64 : decode cX1_copy 64 = .ok (.iconst 0, 1) := dX1_copy_k21.2.2.2.2.1
theorem dX1_copy_65 : decode cX1_copy 65 = .ok (.aload_n 0, 1) := dX1_copy_k21.2.2.2.2.2
set_option maxRecDepth 100000 in
theorem dX1_copy_k22 : (decode cX1_copy 66 = .ok (.getfield 18, 3)) ∧ (decode cX1_copy 69 = .ok (.iconst 0, 1)) ∧ (decode cX1_copy 70 = .ok (.aload_n 0, 1)) ∧ (decode cX1_copy 71 = .ok (.getfield 18, 3)) ∧ (decode cX1_copy 74 = .ok (.arraylength, 1)) ∧ (decode cX1_copy 75 = .ok (.invokestatic 55, 3)) := by decide +kernel
theorem dX1_copy_66 : decode cX1_copy 66 = .ok (.getfield 18, 3) := dX1_copy_k22.1
theorem dX1_copy_69 : decode cX1_copy 69 = .ok (.iconst 0, 1) := dX1_copy_k22.2.1
theorem dX1_copy_70 : decode cX1_copy 70 = .ok (.aload_n 0, 1) := dX1_copy_k22.2.2.1
theorem dX1_copy_71 : decode cX1_copy 71 = .ok (.getfield 18, 3) := dX1_copy_k22.2.2.2.1
theorem dX1_copy_74 : decode cX1_copy 74 = .ok (.arraylength, 1) := dX1_copy_k22.2.2.2.2.1
theorem dX1_copy_75 : decode cX1_copy 75 = .ok (.invokestatic 55, 3) := dX1_copy_k22.2.2.2.2.2
set_option maxRecDepth 100000 in
theorem dX1_copy_k23 : (decode cX1_copy 78 = .ok (.aload_n 1, 1)) ∧ (decode cX1_copy 79 = .ok (.getfield 21, 3)) ∧ (decode cX1_copy 82 = .ok (.iconst 0, 1)) ∧ (decode cX1_copy 83 = .ok (.aload_n 0, 1)) ∧ (decode cX1_copy 84 = .ok (.getfield 21, 3)) ∧ (decode cX1_copy 87 = .ok (.iconst 0, 1)) := by decide +kernel
theorem dX1_copy_78 : decode cX1_copy 78 = .ok (.aload_n 1, 1) := dX1_copy_k23.1
theorem dX1_copy_79 : decode cX1_copy 79 = .ok (.getfield 21, 3) := dX1_copy_k23.2.1
theorem dX1_copy_82 : decode cX1_copy 82 = .ok (.iconst 0, 1) := dX1_copy_k23.2.2.1
theorem dX1_copy_83 : decode cX1_copy 83 = .ok (.aload_n 0, 1) := dX1_copy_k23.2.2.2.1
theorem dX1_copy_84 : decode cX1_copy 84 = .ok (.getfield 21, 3) := dX1_copy_k23.2.2.2.2.1
theorem dX1_copy_87 : decode cX1_copy 87 = .ok (.iconst 0, 1) := dX1_copy_k23.2.2.2.2.2
set_option maxRecDepth 100000 in
theorem dX1_copy_k24 : (decode cX1_copy 88 = .ok (.aload_n 0, 1)) ∧ (decode cX1_copy 89 = .ok (.getfield 21, 3)) ∧ (decode cX1_copy 92 = .ok (.arraylength, 1)) ∧ (decode cX1_copy 93 = .ok (.invokestatic 55, 3)) ∧ (decode cX1_copy 96 = .ok (.aload_n 1, 1)) ∧ (decode cX1_copy 97 = .ok (.getfield 24, 3)) := by decide +kernel
theorem dX1_copy_88 : decode cX1_copy 88 = .ok (.aload_n 0, 1) := dX1_copy_k24.1
theorem dX1_copy_89 : decode cX1_copy 89 = .ok (.getfield 21, 3) := dX1_copy_k24.2.1
theorem dX1_copy_92 : decode cX1_copy 92 = .ok (.arraylength, 1) := dX1_copy_k24.2.2.1
theorem dX1_copy_93 : decode cX1_copy 93 = .ok (.invokestatic 55, 3) := dX1_copy_k24.2.2.2.1
theorem dX1_copy_96 : decode cX1_copy 96 = .ok (.aload_n 1, 1) := dX1_copy_k24.2.2.2.2.1
theorem dX1_copy_97 : decode cX1_copy 97 = .ok (.getfield 24, 3) := dX1_copy_k24.2.2.2.2.2
set_option maxRecDepth 100000 in
theorem dX1_copy_k25 : (decode cX1_copy 100 = .ok (.iconst 0, 1)) ∧ (decode cX1_copy 101 = .ok (.aload_n 0, 1)) ∧ (decode cX1_copy 102 = .ok (.getfield 24, 3)) ∧ (decode cX1_copy 105 = .ok (.iconst 0, 1)) ∧ (decode cX1_copy 106 = .ok (.aload_n 0, 1)) ∧ (decode cX1_copy 107 = .ok (.getfield 24, 3)) := by decide +kernel
theorem dX1_copy_100 : decode cX1_copy 100 = .ok (.iconst 0, 1) := dX1_copy_k25.1
theorem dX1_copy_101 : decode cX1_copy 101 = .ok (.aload_n 0, 1) := dX1_copy_k25.2.1
theorem dX1_copy_102 : decode cX1_copy 102 = .ok (.getfield 24, 3) := dX1_copy_k25.2.2.1
theorem dX1_copy_105 : decode cX1_copy 105 = .ok (.iconst 0, 1) := dX1_copy_k25.2.2.2.1
theorem dX1_copy_106 : decode cX1_copy 106 = .ok (.aload_n 0, 1) := dX1_copy_k25.2.2.2.2.1
theorem dX1_copy_107 : decode cX1_copy 107 = .ok (.getfield 24, 3) := dX1_copy_k25.2.2.2.2.2
set_option maxRecDepth 100000 in
theorem dX1_copy_k26 : (decode cX1_copy 110 = .ok (.arraylength, 1)) ∧ (decode cX1_copy 111 = .ok (.invokestatic 55, 3)) ∧ (decode cX1_copy 114 = .ok (.aload_n 1, 1)) ∧ (decode cX1_copy 115 = .ok (.getfield 27, 3)) ∧ (decode cX1_copy 118 = .ok (.iconst 0, 1)) ∧ (decode cX1_copy 119 = .ok (.aload_n 0, 1)) := by decide +kernel
theorem dX1_copy_110 : decode cX1_copy 110 = .ok (.arraylength, 1) := dX1_copy_k26.1
theorem dX1_copy_111 : decode cX1_copy 111 = .ok (.invokestatic 55, 3) := dX1_copy_k26.2.1
theorem dX1_copy_114 : decode cX1_copy 114 = .ok (.aload_n 1, 1) := dX1_copy_k26.2.2.1
theorem dX1_copy_115 : decode cX1_copy 115 = .ok (.getfield 27, 3) := dX1_copy_k26.2.2.2.1
theorem dX1_copy_118 : decode cX1_copy 118 = .ok (.iconst 0, 1) := dX1_copy_k26.2.2.2.2.1
theorem dX1_copy_119 : decode cX1_copy 119 = .ok (.aload_n 0, 1) := dX1_copy_k26.2.2.2.2.2
set_option maxRecDepth 100000 in
theorem dX1_copy_k27 : (decode cX1_copy 120 = .ok (.getfield 27, 3)) ∧ (decode cX1_copy 123 = .ok (.iconst 0, 1)) ∧ (decode cX1_copy 124 = .ok (.aload_n 0, 1)) ∧ (decode cX1_copy 125 = .ok (.getfield 27, 3)) ∧ (decode cX1_copy 128 = .ok (.arraylength, 1)) ∧ (decode cX1_copy 129 = .ok (.invokestatic 55, 3)) := by decide +kernel
theorem dX1_copy_120 : decode cX1_copy 120 = .ok (.getfield 27, 3) := dX1_copy_k27.1
theorem dX1_copy_123 : decode cX1_copy 123 = .ok (.iconst 0, 1) := dX1_copy_k27.2.1
theorem dX1_copy_124 : decode cX1_copy 124 = .ok (.aload_n 0, 1) := dX1_copy_k27.2.2.1
theorem dX1_copy_125 : decode cX1_copy 125 = .ok (.getfield 27, 3) := dX1_copy_k27.2.2.2.1
theorem dX1_copy_128 : decode cX1_copy 128 = .ok (.arraylength, 1) := dX1_copy_k27.2.2.2.2.1
theorem dX1_copy_129 : decode cX1_copy 129 = .ok (.invokestatic 55, 3) := dX1_copy_k27.2.2.2.2.2
set_option maxRecDepth 100000 in
theorem dX1_copy_k28 : (decode cX1_copy 132 = .ok (.aload_n 1, 1)) ∧ (decode cX1_copy 133 = .ok (.getfield 30, 3)) ∧ (decode cX1_copy 136 = .ok (.iconst 0, 1)) ∧ (decode cX1_copy 137 = .ok (.aload_n 0, 1)) ∧ (decode cX1_copy 138 = .ok (.getfield 30, 3)) ∧ (decode cX1_copy 141 = .ok (.iconst 0, 1)) := by decide +kernel
theorem dX1_copy_132 : decode cX1_copy 132 = .ok (.aload_n 1, 1) := dX1_copy_k28.1
theorem dX1_copy_133 : decode cX1_copy 133 = .ok (.getfield 30, 3) := dX1_copy_k28.2.1
theorem dX1_copy_136 : decode cX1_copy 136 = .ok (.iconst 0, 1) := dX1_copy_k28.2.2.1
theorem dX1_copy_137 : decode cX1_copy 137 = .ok (.aload_n 0, 1) := dX1_copy_k28.2.2.2.1
theorem dX1_copy_138 : decode cX1_copy 138 = .ok (.getfield 30, 3) := dX1_copy_k28.2.2.2.2.1
theorem dX1_copy_141 : decode cX1_copy 141 = .ok (.iconst 0, 1) := dX1_copy_k28.2.2.2.2.2
set_option maxRecDepth 100000 in
theorem dX1_copy_k29 : (decode cX1_copy 142 = .ok (.aload_n 0, 1)) ∧ (decode cX1_copy 143 = .ok (.getfield 30, 3)) ∧ (decode cX1_copy 146 = .ok (.arraylength, 1)) ∧ (decode cX1_copy 147 = .ok (.invokestatic 55, 3)) ∧ (decode cX1_copy 150 = .ok (.aload_n 1, 1)) ∧ (decode cX1_copy 151 = .ok (.getfield 33, 3)) := by decide +kernel
theorem dX1_copy_142 : decode cX1_copy 142 = .ok (.aload_n 0, 1) := dX1_copy_k29.1
theorem dX1_copy_143 : decode cX1_copy 143 = .ok (.getfield 30, 3) := dX1_copy_k29.2.1
theorem dX1_copy_146 : decode cX1_copy 146 = .ok (.arraylength, 1) := dX1_copy_k29.2.2.1
theorem dX1_copy_147 : decode cX1_copy 147 = .ok (.invokestatic 55, 3) := dX1_copy_k29.2.2.2.1
theorem dX1_copy_150 : decode cX1_copy 150 = .ok (.aload_n 1, 1) := dX1_copy_k29.2.2.2.2.1
theorem dX1_copy_151 : decode cX1_copy 151 = .ok (.getfield 33, 3) := dX1_copy_k29.2.2.2.2.2
set_option maxRecDepth 100000 in
theorem dX1_copy_k30 : (decode cX1_copy 154 = .ok (.iconst 0, 1)) ∧ (decode cX1_copy 155 = .ok (.aload_n 0, 1)) ∧ (decode cX1_copy 156 = .ok (.getfield 33, 3)) ∧ (decode cX1_copy 159 = .ok (.iconst 0, 1)) ∧ (decode cX1_copy 160 = .ok (.aload_n 0, 1)) ∧ (decode cX1_copy 161 = .ok (.getfield 33, 3)) := by decide +kernel
theorem dX1_copy_154 : decode cX1_copy 154 = .ok (.iconst 0, 1) := dX1_copy_k30.1
theorem dX1_copy_155 : decode cX1_copy 155 = .ok (.aload_n 0, 1) := dX1_copy_k30.2.1
theorem dX1_copy_156 : decode cX1_copy 156 = .ok (.getfield 33, 3) := dX1_copy_k30.2.2.1
theorem dX1_copy_159 : decode cX1_copy 159 = .ok (.iconst 0, 1) := dX1_copy_k30.2.2.2.1
theorem dX1_copy_160 : decode cX1_copy 160 = .ok (.aload_n 0, 1) := dX1_copy_k30.2.2.2.2.1
theorem dX1_copy_161 : decode cX1_copy 161 = .ok (.getfield 33, 3) := dX1_copy_k30.2.2.2.2.2
set_option maxRecDepth 100000 in
theorem dX1_copy_k31 : (decode cX1_copy 164 = .ok (.arraylength, 1)) ∧ (decode cX1_copy 165 = .ok (.invokestatic 55, 3)) ∧ (decode cX1_copy 168 = .ok (.aload_n 1, 1)) ∧ (decode cX1_copy 169 = .ok (.getfield 36, 3)) ∧ (decode cX1_copy 172 = .ok (.iconst 0, 1)) ∧ (decode cX1_copy 173 = .ok (.aload_n 0, 1)) := by decide +kernel
theorem dX1_copy_164 : decode cX1_copy 164 = .ok (.arraylength, 1) := dX1_copy_k31.1
theorem dX1_copy_165 : decode cX1_copy 165 = .ok (.invokestatic 55, 3) := dX1_copy_k31.2.1
theorem dX1_copy_168 : decode cX1_copy 168 = .ok (.aload_n 1, 1) := dX1_copy_k31.2.2.1
theorem dX1_copy_169 : decode cX1_copy 169 = .ok (.getfield 36, 3) := dX1_copy_k31.2.2.2.1
theorem dX1_copy_172 : decode cX1_copy 172 = .ok (.iconst 0, 1) := dX1_copy_k31.2.2.2.2.1
theorem dX1_copy_173 : decode cX1_copy 173 = .ok (.aload_n 0, 1) := dX1_copy_k31.2.2.2.2.2
set_option maxRecDepth 100000 in
theorem dX1_copy_k32 : (decode cX1_copy 174 = .ok (.getfield 36, 3)) ∧ (decode cX1_copy 177 = .ok (.iconst 0, 1)) ∧ (decode cX1_copy 178 = .ok (.aload_n 0, 1)) ∧ (decode cX1_copy 179 = .ok (.getfield 36, 3)) ∧ (decode cX1_copy 182 = .ok (.arraylength, 1)) ∧ (decode cX1_copy 183 = .ok (.invokestatic 55, 3)) := by decide +kernel
theorem dX1_copy_174 : decode cX1_copy 174 = .ok (.getfield 36, 3) := dX1_copy_k32.1
theorem dX1_copy_177 : decode cX1_copy 177 = .ok (.iconst 0, 1) := dX1_copy_k32.2.1
theorem dX1_copy_178 : decode cX1_copy 178 = .ok (.aload_n 0, 1) := dX1_copy_k32.2.2.1
theorem dX1_copy_179 : decode cX1_copy 179 = .ok (.getfield 36, 3) := dX1_copy_k32.2.2.2.1
theorem dX1_copy_182 : decode cX1_copy 182 = .ok (.arraylength, 1) := dX1_copy_k32.2.2.2.2.1
theorem dX1_copy_183 : decode cX1_copy 183 = .ok (.invokestatic 55, 3) := dX1_copy_k32.2.2.2.2.2
theorem dX1_copy_186 : decode cX1_copy 186 = .ok (.return_, 1) := by decide +kernel
set_option maxRecDepth 100000 in
theorem dX1_isRoom_k33 : (decode cX1_isRoom 0 = .ok (.iload_n 1, 1)) ∧ (decode cX1_isRoom 1 = .ok (.ifCond .lt 15, 3)) ∧ (decode cX1_isRoom 4 = .ok (.iload_n 1, 1)) ∧ (decode cX1_isRoom 5 = .ok (.aload_n 0, 1)) ∧ (decode cX1_isRoom 6 = .ok (.getfield 39, 3)) ∧ (decode cX1_isRoom 9 = .ok (.if_icmp .ge 7, 3)) := by decide +kernel
theorem dX1_isRoom_0 : decode cX1_isRoom 0 = .ok (.iload_n 1, 1) := dX1_isRoom_k33.1
theorem dX1_isRoom_1 : decode cX1_isRoom 1 = .ok (.ifCond .lt 15, 3) := dX1_isRoom_k33.2.1
theorem dX1_isRoom_4 : decode cX1_isRoom 4 = .ok (.iload_n 1, 1) := dX1_isRoom_k33.2.2.1
theorem dX1_isRoom_5 : decode cX1_isRoom 5 = .ok (.aload_n 0, 1) := dX1_isRoom_k33.2.2.2.1
theorem dX1_isRoom_6 : decode cX1_isRoom 6 = .ok (.getfield 39, 3) := dX1_isRoom_k33.2.2.2.2.1
theorem dX1_isRoom_9 : decode cX1_isRoom 9 = .ok (.if_icmp .ge 7, 3) := dX1_isRoom_k33.2.2.2.2.2
set_option maxRecDepth 100000 in
theorem dX1_isRoom_k34 : (decode cX1_isRoom 12 = .ok (.iconst 1, 1)) ∧ (decode cX1_isRoom 13 = .ok (.goto 4, 3)) ∧ (decode cX1_isRoom 16 = .ok (.iconst 0, 1)) ∧ (decode cX1_isRoom 17 = .ok (.ireturn, 1)) := by decide +kernel
theorem dX1_isRoom_12 : decode cX1_isRoom 12 = .ok (.iconst 1, 1) := dX1_isRoom_k34.1
theorem dX1_isRoom_13 : decode cX1_isRoom 13 = .ok (.goto 4, 3) := dX1_isRoom_k34.2.1
theorem dX1_isRoom_16 : decode cX1_isRoom 16 = .ok (.iconst 0, 1) := dX1_isRoom_k34.2.2.1
theorem dX1_isRoom_17 : decode cX1_isRoom 17 = .ok (.ireturn, 1) := dX1_isRoom_k34.2.2.2
set_option maxRecDepth 100000 in
theorem dX1_isThere_k35 : (decode cX1_isThere 0 = .ok (.iload_n 1, 1)) ∧ (decode cX1_isThere 1 = .ok (.ifCond .lt 25, 3)) ∧ (decode cX1_isThere 4 = .ok (.iload_n 1, 1)) ∧ (decode cX1_isThere 5 = .ok (.bipush 8, 2)) ∧ (decode cX1_isThere 7 = .ok (.if_icmp .ge 19, 3)) ∧ (decode cX1_isThere 10 = .ok (.aload_n 0, 1)) := by decide +kernel
theorem dX1_isThere_0 : decode cX1_isThere 0 = .ok (.iload_n 1, 1) := dX1_isThere_k35.1
theorem dX1_isThere_1 : decode cX1_isThere 1 = .ok (.ifCond .lt 25, 3) := dX1_isThere_k35.2.1
theorem dX1_isThere_4 : decode cX1_isThere 4 = .ok (.iload_n 1, 1) := dX1_isThere_k35.2.2.1
theorem dX1_isThere_5 : decode cX1_isThere 5 = .ok (.bipush 8, 2) := dX1_isThere_k35.2.2.2.1
theorem dX1_isThere_7 : decode cX1_isThere 7 = .ok (.if_icmp .ge 19, 3) := dX1_isThere_k35.2.2.2.2.1
theorem dX1_isThere_10 : decode cX1_isThere 10 = .ok (.aload_n 0, 1) := dX1_isThere_k35.2.2.2.2.2
set_option maxRecDepth 100000 in
theorem dX1_isThere_k36 : (decode cX1_isThere 11 = .ok (.getfield 43, 3)) ∧ (decode cX1_isThere 14 = .ok (.iload_n 1, 1)) ∧ (decode cX1_isThere 15 = .ok (.ishr, 1)) ∧ (decode cX1_isThere 16 = .ok (.iconst 1, 1)) ∧ (decode cX1_isThere 17 = .ok (.iand, 1)) ∧ (decode cX1_isThere 18 = .ok (.iconst 1, 1)) := by decide +kernel
theorem dX1_isThere_11 : decode cX1_isThere 11 = .ok (.getfield 43, 3) := dX1_isThere_k36.1
theorem dX1_isThere_14 : decode cX1_isThere 14 = .ok (.iload_n 1, 1) := dX1_isThere_k36.2.1
theorem dX1_isThere_15 : decode cX1_isThere 15 = .ok (.ishr, 1) := dX1_isThere_k36.2.2.1
theorem dX1_isThere_16 : decode cX1_isThere 16 = .ok (.iconst 1, 1) := dX1_isThere_k36.2.2.2.1
theorem dX1_isThere_17 : decode cX1_isThere 17 = .ok (.iand, 1) := dX1_isThere_k36.2.2.2.2.1
theorem dX1_isThere_18 : decode cX1_isThere 18 = .ok (.iconst 1, 1) := dX1_isThere_k36.2.2.2.2.2
set_option maxRecDepth 100000 in
theorem dX1_isThere_k37 : (decode cX1_isThere 19 = .ok (.if_icmp .ne 7, 3)) ∧ (decode cX1_isThere 22 = .ok (.iconst 1, 1)) ∧ (decode cX1_isThere 23 = .ok (.goto 4, 3)) ∧ (decode cX1_isThere 26 = .ok (.iconst 0, 1)) ∧ (decode cX1_isThere 27 = .ok (.ireturn, 1)) := by decide +kernel
theorem dX1_isThere_19 : decode cX1_isThere 19 = .ok (.if_icmp .ne 7, 3) := dX1_isThere_k37.1
theorem dX1_isThere_22 : decode cX1_isThere 22 = .ok (.iconst 1, 1) := dX1_isThere_k37.2.1
theorem dX1_isThere_23 : decode cX1_isThere 23 = .ok (.goto 4, 3) := dX1_isThere_k37.2.2.1
theorem dX1_isThere_26 : decode cX1_isThere 26 = .ok (.iconst 0, 1) := dX1_isThere_k37.2.2.2.1
theorem dX1_isThere_27 : decode cX1_isThere 27 = .ok (.ireturn, 1) := dX1_isThere_k37.2.2.2.2
set_option maxRecDepth 100000 in
theorem dX1_sizeOf_k38 : (decode cX1_sizeOf 0 = .ok (.aload_n 0, 1)) ∧ (decode cX1_sizeOf 1 = .ok (.getfield 9, 3)) ∧ (decode cX1_sizeOf 4 = .ok (.iload_n 1, 1)) ∧ (decode cX1_sizeOf 5 = .ok (.bipush 6, 2)) ∧ (decode cX1_sizeOf 7 = .ok (.imul, 1)) ∧ (decode cX1_sizeOf 8 = .ok (.iconst 4, 1)) := by decide +kernel
theorem dX1_sizeOf_0 : decode cX1_sizeOf 0 = .ok (.aload_n 0, 1) := dX1_sizeOf_k38.1
theorem dX1_sizeOf_1 : decode cX1_sizeOf 1 = .ok (.getfield 9, 3) := dX1_sizeOf_k38.2.1
theorem dX1_sizeOf_4 : decode cX1_sizeOf 4 = .ok (.iload_n 1, 1) := dX1_sizeOf_k38.2.2.1
theorem dX1_sizeOf_5 : decode cX1_sizeOf 5 = .ok (.bipush 6, 2) := dX1_sizeOf_k38.2.2.2.1
theorem dX1_sizeOf_7 : decode cX1_sizeOf 7 = .ok (.imul, 1) := dX1_sizeOf_k38.2.2.2.2.1
theorem dX1_sizeOf_8 : decode cX1_sizeOf 8 = .ok (.iconst 4, 1) := dX1_sizeOf_k38.2.2.2.2.2
set_option maxRecDepth 100000 in
theorem dX1_sizeOf_k39 : (decode cX1_sizeOf 9 = .ok (.iadd, 1)) ∧ (decode cX1_sizeOf 10 = .ok (.iaload, 1)) ∧ (decode cX1_sizeOf 11 = .ok (.ireturn, 1)) := by decide +kernel
theorem dX1_sizeOf_9 : decode cX1_sizeOf 9 = .ok (.iadd, 1) := dX1_sizeOf_k39.1
theorem dX1_sizeOf_10 : decode cX1_sizeOf 10 = .ok (.iaload, 1) := dX1_sizeOf_k39.2.1
theorem dX1_sizeOf_11 : decode cX1_sizeOf 11 = .ok (.ireturn, 1) := dX1_sizeOf_k39.2.2
set_option maxRecDepth 100000 in
theorem dX1_widthOf_k40 : (decode cX1_widthOf 0 = .ok (.aload_n 0, 1)) ∧ (decode cX1_widthOf 1 = .ok (.getfield 15, 3)) ∧ (decode cX1_widthOf 4 = .ok (.iload_n 1, 1)) ∧ (decode cX1_widthOf 5 = .ok (.bipush 6, 2)) ∧ (decode cX1_widthOf 7 = .ok (.imul, 1)) ∧ (decode cX1_widthOf 8 = .ok (.iload_n 2, 1)) := by decide +kernel
theorem dX1_widthOf_0 : decode cX1_widthOf 0 = .ok (.aload_n 0, 1) := dX1_widthOf_k40.1
theorem dX1_widthOf_1 : decode cX1_widthOf 1 = .ok (.getfield 15, 3) := dX1_widthOf_k40.2.1
theorem dX1_widthOf_4 : decode cX1_widthOf 4 = .ok (.iload_n 1, 1) := dX1_widthOf_k40.2.2.1
theorem dX1_widthOf_5 : decode cX1_widthOf 5 = .ok (.bipush 6, 2) := dX1_widthOf_k40.2.2.2.1
theorem dX1_widthOf_7 : decode cX1_widthOf 7 = .ok (.imul, 1) := dX1_widthOf_k40.2.2.2.2.1
theorem dX1_widthOf_8 : decode cX1_widthOf 8 = .ok (.iload_n 2, 1) := dX1_widthOf_k40.2.2.2.2.2
set_option maxRecDepth 100000 in
theorem dX1_widthOf_k41 : (decode cX1_widthOf 9 = .ok (.iadd, 1)) ∧ (decode cX1_widthOf 10 = .ok (.iaload, 1)) ∧ (decode cX1_widthOf 11 = .ok (.ireturn, 1)) := by decide +kernel
theorem dX1_widthOf_9 : decode cX1_widthOf 9 = .ok (.iadd, 1) := dX1_widthOf_k41.1
theorem dX1_widthOf_10 : decode cX1_widthOf 10 = .ok (.iaload, 1) := dX1_widthOf_k41.2.1
theorem dX1_widthOf_11 : decode cX1_widthOf 11 = .ok (.ireturn, 1) := dX1_widthOf_k41.2.2
set_option maxRecDepth 100000 in
theorem dX1_bitsIn_k42 : (decode cX1_bitsIn 0 = .ok (.iconst 0, 1)) ∧ (decode cX1_bitsIn 1 = .ok (.istore_n 2, 1)) ∧ (decode cX1_bitsIn 2 = .ok (.iconst 0, 1)) ∧ (decode cX1_bitsIn 3 = .ok (.istore_n 3, 1)) ∧ (decode cX1_bitsIn 4 = .ok (.iload_n 3, 1)) ∧ (decode cX1_bitsIn 5 = .ok (.bipush 8, 2)) := by decide +kernel
theorem dX1_bitsIn_0 : decode cX1_bitsIn 0 = .ok (.iconst 0, 1) := dX1_bitsIn_k42.1
theorem dX1_bitsIn_1 : decode cX1_bitsIn 1 = .ok (.istore_n 2, 1) := dX1_bitsIn_k42.2.1
theorem dX1_bitsIn_2 : decode cX1_bitsIn 2 = .ok (.iconst 0, 1) := dX1_bitsIn_k42.2.2.1
theorem dX1_bitsIn_3 : decode cX1_bitsIn 3 = .ok (.istore_n 3, 1) := dX1_bitsIn_k42.2.2.2.1
theorem dX1_bitsIn_4 : decode cX1_bitsIn 4 = .ok (.iload_n 3, 1) := dX1_bitsIn_k42.2.2.2.2.1
theorem dX1_bitsIn_5 : decode cX1_bitsIn 5 = .ok (.bipush 8, 2) := dX1_bitsIn_k42.2.2.2.2.2
set_option maxRecDepth 100000 in
theorem dX1_bitsIn_k43 : (decode cX1_bitsIn 7 = .ok (.if_icmp .ge 33, 3)) ∧ (decode cX1_bitsIn 10 = .ok (.aload_n 0, 1)) ∧ (decode cX1_bitsIn 11 = .ok (.iload_n 3, 1)) ∧ (decode cX1_bitsIn 12 = .ok (.invokevirtual 61, 3)) ∧ (decode cX1_bitsIn 15 = .ok (.ifCond .eq 19, 3)) ∧ (decode cX1_bitsIn 18 = .ok (.aload_n 0, 1)) := by decide +kernel
theorem dX1_bitsIn_7 : decode cX1_bitsIn 7 = .ok (.if_icmp .ge 33, 3) := dX1_bitsIn_k43.1
theorem dX1_bitsIn_10 : decode cX1_bitsIn 10 = .ok (.aload_n 0, 1) := dX1_bitsIn_k43.2.1
theorem dX1_bitsIn_11 : decode cX1_bitsIn 11 = .ok (.iload_n 3, 1) := dX1_bitsIn_k43.2.2.1
theorem dX1_bitsIn_12 : decode cX1_bitsIn 12 = .ok (.invokevirtual 61, 3) := dX1_bitsIn_k43.2.2.2.1
theorem dX1_bitsIn_15 : decode cX1_bitsIn 15 = .ok (.ifCond .eq 19, 3) := dX1_bitsIn_k43.2.2.2.2.1
theorem dX1_bitsIn_18 : decode cX1_bitsIn 18 = .ok (.aload_n 0, 1) := dX1_bitsIn_k43.2.2.2.2.2
set_option maxRecDepth 100000 in
theorem dX1_bitsIn_k44 : (decode cX1_bitsIn 19 = .ok (.getfield 18, 3)) ∧ (decode cX1_bitsIn 22 = .ok (.iload_n 3, 1)) ∧ (decode cX1_bitsIn 23 = .ok (.iaload, 1)) ∧ (decode cX1_bitsIn 24 = .ok (.iload_n 1, 1)) ∧ (decode cX1_bitsIn 25 = .ok (.if_icmp .ne 9, 3)) ∧ (decode cX1_bitsIn 28 = .ok (.iload_n 2, 1)) := by decide +kernel
theorem dX1_bitsIn_19 : decode cX1_bitsIn 19 = .ok (.getfield 18, 3) := dX1_bitsIn_k44.1
theorem dX1_bitsIn_22 : decode cX1_bitsIn 22 = .ok (.iload_n 3, 1) := dX1_bitsIn_k44.2.1
theorem dX1_bitsIn_23 : decode cX1_bitsIn 23 = .ok (.iaload, 1) := dX1_bitsIn_k44.2.2.1
theorem dX1_bitsIn_24 : decode cX1_bitsIn 24 = .ok (.iload_n 1, 1) := dX1_bitsIn_k44.2.2.2.1
theorem dX1_bitsIn_25 : decode cX1_bitsIn 25 = .ok (.if_icmp .ne 9, 3) := dX1_bitsIn_k44.2.2.2.2.1
theorem dX1_bitsIn_28 : decode cX1_bitsIn 28 = .ok (.iload_n 2, 1) := dX1_bitsIn_k44.2.2.2.2.2
set_option maxRecDepth 100000 in
theorem dX1_bitsIn_k45 : (decode cX1_bitsIn 29 = .ok (.iconst 1, 1)) ∧ (decode cX1_bitsIn 30 = .ok (.iload_n 3, 1)) ∧ (decode cX1_bitsIn 31 = .ok (.ishl, 1)) ∧ (decode cX1_bitsIn 32 = .ok (.ior, 1)) ∧ (decode cX1_bitsIn 33 = .ok (.istore_n 2, 1)) ∧ (decode cX1_bitsIn 34 = .ok (.iinc 3 1, 3)) := by decide +kernel
theorem dX1_bitsIn_29 : decode cX1_bitsIn 29 = .ok (.iconst 1, 1) := dX1_bitsIn_k45.1
theorem dX1_bitsIn_30 : decode cX1_bitsIn 30 = .ok (.iload_n 3, 1) := dX1_bitsIn_k45.2.1
theorem dX1_bitsIn_31 : decode cX1_bitsIn 31 = .ok (.ishl, 1) := dX1_bitsIn_k45.2.2.1
theorem dX1_bitsIn_32 : decode cX1_bitsIn 32 = .ok (.ior, 1) := dX1_bitsIn_k45.2.2.2.1
theorem dX1_bitsIn_33 : decode cX1_bitsIn 33 = .ok (.istore_n 2, 1) := dX1_bitsIn_k45.2.2.2.2.1
theorem dX1_bitsIn_34 : decode cX1_bitsIn 34 = .ok (.iinc 3 1, 3) := dX1_bitsIn_k45.2.2.2.2.2
set_option maxRecDepth 100000 in
theorem dX1_bitsIn_k46 : (decode cX1_bitsIn 37 = .ok (.goto (-33), 3)) ∧ (decode cX1_bitsIn 40 = .ok (.iload_n 2, 1)) ∧ (decode cX1_bitsIn 41 = .ok (.ireturn, 1)) := by decide +kernel
theorem dX1_bitsIn_37 : decode cX1_bitsIn 37 = .ok (.goto (-33), 3) := dX1_bitsIn_k46.1
theorem dX1_bitsIn_40 : decode cX1_bitsIn 40 = .ok (.iload_n 2, 1) := dX1_bitsIn_k46.2.1
theorem dX1_bitsIn_41 : decode cX1_bitsIn 41 = .ok (.ireturn, 1) := dX1_bitsIn_k46.2.2
set_option maxRecDepth 100000 in
theorem dX1_count_k47 : (decode cX1_count 0 = .ok (.aload_n 0, 1)) ∧ (decode cX1_count 1 = .ok (.iload_n 1, 1)) ∧ (decode cX1_count 2 = .ok (.invokevirtual 65, 3)) ∧ (decode cX1_count 5 = .ok (.invokestatic 69, 3)) ∧ (decode cX1_count 8 = .ok (.ireturn, 1)) := by decide +kernel
theorem dX1_count_0 : decode cX1_count 0 = .ok (.aload_n 0, 1) := dX1_count_k47.1
theorem dX1_count_1 : decode cX1_count 1 = .ok (.iload_n 1, 1) := dX1_count_k47.2.1
theorem dX1_count_2 : decode cX1_count 2 = .ok (.invokevirtual 65, 3) := dX1_count_k47.2.2.1
theorem dX1_count_5 : decode cX1_count 5 = .ok (.invokestatic 69, 3) := dX1_count_k47.2.2.2.1
theorem dX1_count_8 : decode cX1_count 8 = .ok (.ireturn, 1) := dX1_count_k47.2.2.2.2
set_option maxRecDepth 100000 in
theorem dX1_others_k48 : (decode cX1_others 0 = .ok (.aload_n 0, 1)) ∧ (decode cX1_others 1 = .ok (.iload_n 2, 1)) ∧ (decode cX1_others 2 = .ok (.invokevirtual 65, 3)) ∧ (decode cX1_others 5 = .ok (.iconst 1, 1)) ∧ (decode cX1_others 6 = .ok (.iload_n 1, 1)) ∧ (decode cX1_others 7 = .ok (.ishl, 1)) := by decide +kernel
theorem dX1_others_0 : decode cX1_others 0 = .ok (.aload_n 0, 1) := dX1_others_k48.1
theorem dX1_others_1 : decode cX1_others 1 = .ok (.iload_n 2, 1) := dX1_others_k48.2.1
theorem dX1_others_2 : decode cX1_others 2 = .ok (.invokevirtual 65, 3) := dX1_others_k48.2.2.1
theorem dX1_others_5 : decode cX1_others 5 = .ok (.iconst 1, 1) := dX1_others_k48.2.2.2.1
theorem dX1_others_6 : decode cX1_others 6 = .ok (.iload_n 1, 1) := dX1_others_k48.2.2.2.2.1
theorem dX1_others_7 : decode cX1_others 7 = .ok (.ishl, 1) := dX1_others_k48.2.2.2.2.2
set_option maxRecDepth 100000 in
theorem dX1_others_k49 : (decode cX1_others 8 = .ok (.iconst (-1), 1)) ∧ (decode cX1_others 9 = .ok (.ixor, 1)) ∧ (decode cX1_others 10 = .ok (.iand, 1)) ∧ (decode cX1_others 11 = .ok (.invokestatic 69, 3)) ∧ (decode cX1_others 14 = .ok (.ireturn, 1)) := by decide +kernel
theorem dX1_others_8 : decode cX1_others 8 = .ok (.iconst (-1), 1) := dX1_others_k49.1
theorem dX1_others_9 : decode cX1_others 9 = .ok (.ixor, 1) := dX1_others_k49.2.1
theorem dX1_others_10 : decode cX1_others 10 = .ok (.iand, 1) := dX1_others_k49.2.2.1
theorem dX1_others_11 : decode cX1_others 11 = .ok (.invokestatic 69, 3) := dX1_others_k49.2.2.2.1
theorem dX1_others_14 : decode cX1_others 14 = .ok (.ireturn, 1) := dX1_others_k49.2.2.2.2
set_option maxRecDepth 100000 in
theorem dX1_sitters_k50 : (decode cX1_sitters 0 = .ok (.iconst 0, 1)) ∧ (decode cX1_sitters 1 = .ok (.istore_n 2, 1)) ∧ (decode cX1_sitters 2 = .ok (.iconst 0, 1)) ∧ (decode cX1_sitters 3 = .ok (.istore_n 3, 1)) ∧ (decode cX1_sitters 4 = .ok (.iload_n 3, 1)) ∧ (decode cX1_sitters 5 = .ok (.bipush 8, 2)) := by decide +kernel
theorem dX1_sitters_0 : decode cX1_sitters 0 = .ok (.iconst 0, 1) := dX1_sitters_k50.1
theorem dX1_sitters_1 : decode cX1_sitters 1 = .ok (.istore_n 2, 1) := dX1_sitters_k50.2.1
theorem dX1_sitters_2 : decode cX1_sitters 2 = .ok (.iconst 0, 1) := dX1_sitters_k50.2.2.1
theorem dX1_sitters_3 : decode cX1_sitters 3 = .ok (.istore_n 3, 1) := dX1_sitters_k50.2.2.2.1
theorem dX1_sitters_4 : decode cX1_sitters 4 = .ok (.iload_n 3, 1) := dX1_sitters_k50.2.2.2.2.1
theorem dX1_sitters_5 : decode cX1_sitters 5 = .ok (.bipush 8, 2) := dX1_sitters_k50.2.2.2.2.2
set_option maxRecDepth 100000 in
theorem dX1_sitters_k51 : (decode cX1_sitters 7 = .ok (.if_icmp .ge 32, 3)) ∧ (decode cX1_sitters 10 = .ok (.aload_n 0, 1)) ∧ (decode cX1_sitters 11 = .ok (.getfield 21, 3)) ∧ (decode cX1_sitters 14 = .ok (.iload_n 3, 1)) ∧ (decode cX1_sitters 15 = .ok (.iaload, 1)) ∧ (decode cX1_sitters 16 = .ok (.iconst 2, 1)) := by decide +kernel
theorem dX1_sitters_7 : decode cX1_sitters 7 = .ok (.if_icmp .ge 32, 3) := dX1_sitters_k51.1
theorem dX1_sitters_10 : decode cX1_sitters 10 = .ok (.aload_n 0, 1) := dX1_sitters_k51.2.1
theorem dX1_sitters_11 : decode cX1_sitters 11 = .ok (.getfield 21, 3) := dX1_sitters_k51.2.2.1
theorem dX1_sitters_14 : decode cX1_sitters 14 = .ok (.iload_n 3, 1) := dX1_sitters_k51.2.2.2.1
theorem dX1_sitters_15 : decode cX1_sitters 15 = .ok (.iaload, 1) := dX1_sitters_k51.2.2.2.2.1
theorem dX1_sitters_16 : decode cX1_sitters 16 = .ok (.iconst 2, 1) := dX1_sitters_k51.2.2.2.2.2
set_option maxRecDepth 100000 in
theorem dX1_sitters_k52 : (decode cX1_sitters 17 = .ok (.if_icmp .ne 16, 3)) ∧ (decode cX1_sitters 20 = .ok (.aload_n 0, 1)) ∧ (decode cX1_sitters 21 = .ok (.getfield 18, 3)) ∧ (decode cX1_sitters 24 = .ok (.iload_n 3, 1)) ∧ (decode cX1_sitters 25 = .ok (.iaload, 1)) ∧ (decode cX1_sitters 26 = .ok (.iload_n 1, 1)) := by decide +kernel
theorem dX1_sitters_17 : decode cX1_sitters 17 = .ok (.if_icmp .ne 16, 3) := dX1_sitters_k52.1
theorem dX1_sitters_20 : decode cX1_sitters 20 = .ok (.aload_n 0, 1) := dX1_sitters_k52.2.1
theorem dX1_sitters_21 : decode cX1_sitters 21 = .ok (.getfield 18, 3) := dX1_sitters_k52.2.2.1
theorem dX1_sitters_24 : decode cX1_sitters 24 = .ok (.iload_n 3, 1) := dX1_sitters_k52.2.2.2.1
theorem dX1_sitters_25 : decode cX1_sitters 25 = .ok (.iaload, 1) := dX1_sitters_k52.2.2.2.2.1
theorem dX1_sitters_26 : decode cX1_sitters 26 = .ok (.iload_n 1, 1) := dX1_sitters_k52.2.2.2.2.2
set_option maxRecDepth 100000 in
theorem dX1_sitters_k53 : (decode cX1_sitters 27 = .ok (.if_icmp .ne 6, 3)) ∧ (decode cX1_sitters 30 = .ok (.iinc 2 1, 3)) ∧ (decode cX1_sitters 33 = .ok (.iinc 3 1, 3)) ∧ (decode cX1_sitters 36 = .ok (.goto (-32), 3)) ∧ (decode cX1_sitters 39 = .ok (.iload_n 2, 1)) ∧ (decode cX1_sitters 40 = .ok (.ireturn, 1)) := by decide +kernel
theorem dX1_sitters_27 : decode cX1_sitters 27 = .ok (.if_icmp .ne 6, 3) := dX1_sitters_k53.1
theorem dX1_sitters_30 : decode cX1_sitters 30 = .ok (.iinc 2 1, 3) := dX1_sitters_k53.2.1
theorem dX1_sitters_33 : decode cX1_sitters 33 = .ok (.iinc 3 1, 3) := dX1_sitters_k53.2.2.1
theorem dX1_sitters_36 : decode cX1_sitters 36 = .ok (.goto (-32), 3) := dX1_sitters_k53.2.2.2.1
theorem dX1_sitters_39 : decode cX1_sitters 39 = .ok (.iload_n 2, 1) := dX1_sitters_k53.2.2.2.2.1
theorem dX1_sitters_40 : decode cX1_sitters 40 = .ok (.ireturn, 1) := dX1_sitters_k53.2.2.2.2.2
set_option maxRecDepth 100000 in
theorem dX1_jam_k54 : (decode cX1_jam 0 = .ok (.iconst 0, 1)) ∧ (decode cX1_jam 1 = .ok (.istore_n 3, 1)) ∧ (decode cX1_jam 2 = .ok (.iconst 0, 1)) ∧ (decode cX1_jam 3 = .ok (.istore 4, 2)) ∧ (decode cX1_jam 5 = .ok (.iload 4, 2)) ∧ (decode cX1_jam 7 = .ok (.bipush 8, 2)) := by decide +kernel
theorem dX1_jam_0 : decode cX1_jam 0 = .ok (.iconst 0, 1) := dX1_jam_k54.1
theorem dX1_jam_1 : decode cX1_jam 1 = .ok (.istore_n 3, 1) := dX1_jam_k54.2.1
theorem dX1_jam_2 : decode cX1_jam 2 = .ok (.iconst 0, 1) := dX1_jam_k54.2.2.1
theorem dX1_jam_3 : decode cX1_jam 3 = .ok (.istore 4, 2) := dX1_jam_k54.2.2.2.1
theorem dX1_jam_5 : decode cX1_jam 5 = .ok (.iload 4, 2) := dX1_jam_k54.2.2.2.2.1
theorem dX1_jam_7 : decode cX1_jam 7 = .ok (.bipush 8, 2) := dX1_jam_k54.2.2.2.2.2
set_option maxRecDepth 100000 in
theorem dX1_jam_k55 : (decode cX1_jam 9 = .ok (.if_icmp .ge 79, 3)) ∧ (decode cX1_jam 12 = .ok (.aload_n 0, 1)) ∧ (decode cX1_jam 13 = .ok (.getfield 18, 3)) ∧ (decode cX1_jam 16 = .ok (.iload 4, 2)) ∧ (decode cX1_jam 18 = .ok (.iaload, 1)) ∧ (decode cX1_jam 19 = .ok (.iload_n 1, 1)) := by decide +kernel
theorem dX1_jam_9 : decode cX1_jam 9 = .ok (.if_icmp .ge 79, 3) := dX1_jam_k55.1
theorem dX1_jam_12 : decode cX1_jam 12 = .ok (.aload_n 0, 1) := dX1_jam_k55.2.1
theorem dX1_jam_13 : decode cX1_jam 13 = .ok (.getfield 18, 3) := dX1_jam_k55.2.2.1
theorem dX1_jam_16 : decode cX1_jam 16 = .ok (.iload 4, 2) := dX1_jam_k55.2.2.2.1
theorem dX1_jam_18 : decode cX1_jam 18 = .ok (.iaload, 1) := dX1_jam_k55.2.2.2.2.1
theorem dX1_jam_19 : decode cX1_jam 19 = .ok (.iload_n 1, 1) := dX1_jam_k55.2.2.2.2.2
set_option maxRecDepth 100000 in
theorem dX1_jam_k56 : (decode cX1_jam 20 = .ok (.if_icmp .ne 14, 3)) ∧ (decode cX1_jam 23 = .ok (.aload_n 0, 1)) ∧ (decode cX1_jam 24 = .ok (.getfield 24, 3)) ∧ (decode cX1_jam 27 = .ok (.iload 4, 2)) ∧ (decode cX1_jam 29 = .ok (.iaload, 1)) ∧ (decode cX1_jam 30 = .ok (.iload_n 2, 1)) := by decide +kernel
theorem dX1_jam_20 : decode cX1_jam 20 = .ok (.if_icmp .ne 14, 3) := dX1_jam_k56.1
theorem dX1_jam_23 : decode cX1_jam 23 = .ok (.aload_n 0, 1) := dX1_jam_k56.2.1
theorem dX1_jam_24 : decode cX1_jam 24 = .ok (.getfield 24, 3) := dX1_jam_k56.2.2.1
theorem dX1_jam_27 : decode cX1_jam 27 = .ok (.iload 4, 2) := dX1_jam_k56.2.2.2.1
theorem dX1_jam_29 : decode cX1_jam 29 = .ok (.iaload, 1) := dX1_jam_k56.2.2.2.2.1
theorem dX1_jam_30 : decode cX1_jam 30 = .ok (.iload_n 2, 1) := dX1_jam_k56.2.2.2.2.2
set_option maxRecDepth 100000 in
theorem dX1_jam_k57 : (decode cX1_jam 31 = .ok (.if_icmp .eq 25, 3)) ∧ (decode cX1_jam 34 = .ok (.aload_n 0, 1)) ∧ (decode cX1_jam 35 = .ok (.getfield 18, 3)) ∧ (decode cX1_jam 38 = .ok (.iload 4, 2)) ∧ (decode cX1_jam 40 = .ok (.iaload, 1)) ∧ (decode cX1_jam 41 = .ok (.iload_n 2, 1)) := by decide +kernel
theorem dX1_jam_31 : decode cX1_jam 31 = .ok (.if_icmp .eq 25, 3) := dX1_jam_k57.1
theorem dX1_jam_34 : decode cX1_jam 34 = .ok (.aload_n 0, 1) := dX1_jam_k57.2.1
theorem dX1_jam_35 : decode cX1_jam 35 = .ok (.getfield 18, 3) := dX1_jam_k57.2.2.1
theorem dX1_jam_38 : decode cX1_jam 38 = .ok (.iload 4, 2) := dX1_jam_k57.2.2.2.1
theorem dX1_jam_40 : decode cX1_jam 40 = .ok (.iaload, 1) := dX1_jam_k57.2.2.2.2.1
theorem dX1_jam_41 : decode cX1_jam 41 = .ok (.iload_n 2, 1) := dX1_jam_k57.2.2.2.2.2
set_option maxRecDepth 100000 in
theorem dX1_jam_k58 : (decode cX1_jam 42 = .ok (.if_icmp .ne 18, 3)) ∧ (decode cX1_jam 45 = .ok (.aload_n 0, 1)) ∧ (decode cX1_jam 46 = .ok (.getfield 24, 3)) ∧ (decode cX1_jam 49 = .ok (.iload 4, 2)) ∧ (decode cX1_jam 51 = .ok (.iaload, 1)) ∧ (decode cX1_jam 52 = .ok (.iload_n 1, 1)) := by decide +kernel
theorem dX1_jam_42 : decode cX1_jam 42 = .ok (.if_icmp .ne 18, 3) := dX1_jam_k58.1
theorem dX1_jam_45 : decode cX1_jam 45 = .ok (.aload_n 0, 1) := dX1_jam_k58.2.1
theorem dX1_jam_46 : decode cX1_jam 46 = .ok (.getfield 24, 3) := dX1_jam_k58.2.2.1
theorem dX1_jam_49 : decode cX1_jam 49 = .ok (.iload 4, 2) := dX1_jam_k58.2.2.2.1
theorem dX1_jam_51 : decode cX1_jam 51 = .ok (.iaload, 1) := dX1_jam_k58.2.2.2.2.1
theorem dX1_jam_52 : decode cX1_jam 52 = .ok (.iload_n 1, 1) := dX1_jam_k58.2.2.2.2.2
set_option maxRecDepth 100000 in
theorem dX1_jam_k59 : (decode cX1_jam 53 = .ok (.if_icmp .ne 7, 3)) ∧ (decode cX1_jam 56 = .ok (.iconst 1, 1)) ∧ (decode cX1_jam 57 = .ok (.goto 4, 3)) ∧ (decode cX1_jam 60 = .ok (.iconst 0, 1)) ∧ (decode cX1_jam 61 = .ok (.istore 5, 2)) ∧ (decode cX1_jam 63 = .ok (.aload_n 0, 1)) := by decide +kernel
theorem dX1_jam_53 : decode cX1_jam 53 = .ok (.if_icmp .ne 7, 3) := dX1_jam_k59.1
theorem dX1_jam_56 : decode cX1_jam 56 = .ok (.iconst 1, 1) := dX1_jam_k59.2.1
theorem dX1_jam_57 : decode cX1_jam 57 = .ok (.goto 4, 3) := dX1_jam_k59.2.2.1
theorem dX1_jam_60 : decode cX1_jam 60 = .ok (.iconst 0, 1) := dX1_jam_k59.2.2.2.1
theorem dX1_jam_61 : decode cX1_jam 61 = .ok (.istore 5, 2) := dX1_jam_k59.2.2.2.2.1
theorem dX1_jam_63 : decode cX1_jam 63 = .ok (.aload_n 0, 1) := dX1_jam_k59.2.2.2.2.2
set_option maxRecDepth 100000 in
theorem dX1_jam_k60 : (decode cX1_jam 64 = .ok (.getfield 21, 3)) ∧ (decode cX1_jam 67 = .ok (.iload 4, 2)) ∧ (decode cX1_jam 69 = .ok (.iaload, 1)) ∧ (decode cX1_jam 70 = .ok (.iconst 3, 1)) ∧ (decode cX1_jam 71 = .ok (.if_icmp .ne 11, 3)) ∧ (decode cX1_jam 74 = .ok (.iload 5, 2)) := by decide +kernel
theorem dX1_jam_64 : decode cX1_jam 64 = .ok (.getfield 21, 3) := dX1_jam_k60.1
theorem dX1_jam_67 : decode cX1_jam 67 = .ok (.iload 4, 2) := dX1_jam_k60.2.1
theorem dX1_jam_69 : decode cX1_jam 69 = .ok (.iaload, 1) := dX1_jam_k60.2.2.1
theorem dX1_jam_70 : decode cX1_jam 70 = .ok (.iconst 3, 1) := dX1_jam_k60.2.2.2.1
theorem dX1_jam_71 : decode cX1_jam 71 = .ok (.if_icmp .ne 11, 3) := dX1_jam_k60.2.2.2.2.1
theorem dX1_jam_74 : decode cX1_jam 74 = .ok (.iload 5, 2) := dX1_jam_k60.2.2.2.2.2
set_option maxRecDepth 100000 in
theorem dX1_jam_k61 : (decode cX1_jam 76 = .ok (.ifCond .eq 6, 3)) ∧ (decode cX1_jam 79 = .ok (.iinc 3 1, 3)) ∧ (decode cX1_jam 82 = .ok (.iinc 4 1, 3)) ∧ (decode cX1_jam 85 = .ok (.goto (-80), 3)) ∧ (decode cX1_jam 88 = .ok (.iload_n 3, 1)) ∧ (decode cX1_jam 89 = .ok (.ireturn, 1)) := by decide +kernel
theorem dX1_jam_76 : decode cX1_jam 76 = .ok (.ifCond .eq 6, 3) := dX1_jam_k61.1
theorem dX1_jam_79 : decode cX1_jam 79 = .ok (.iinc 3 1, 3) := dX1_jam_k61.2.1
theorem dX1_jam_82 : decode cX1_jam 82 = .ok (.iinc 4 1, 3) := dX1_jam_k61.2.2.1
theorem dX1_jam_85 : decode cX1_jam 85 = .ok (.goto (-80), 3) := dX1_jam_k61.2.2.2.1
theorem dX1_jam_88 : decode cX1_jam 88 = .ok (.iload_n 3, 1) := dX1_jam_k61.2.2.2.2.1
theorem dX1_jam_89 : decode cX1_jam 89 = .ok (.ireturn, 1) := dX1_jam_k61.2.2.2.2.2
set_option maxRecDepth 100000 in
theorem dX1_idle_k62 : (decode cX1_idle 0 = .ok (.iconst 0, 1)) ∧ (decode cX1_idle 1 = .ok (.istore_n 1, 1)) ∧ (decode cX1_idle 2 = .ok (.iconst 0, 1)) ∧ (decode cX1_idle 3 = .ok (.istore_n 2, 1)) ∧ (decode cX1_idle 4 = .ok (.iload_n 2, 1)) ∧ (decode cX1_idle 5 = .ok (.bipush 8, 2)) := by decide +kernel
theorem dX1_idle_0 : decode cX1_idle 0 = .ok (.iconst 0, 1) := dX1_idle_k62.1
theorem dX1_idle_1 : decode cX1_idle 1 = .ok (.istore_n 1, 1) := dX1_idle_k62.2.1
theorem dX1_idle_2 : decode cX1_idle 2 = .ok (.iconst 0, 1) := dX1_idle_k62.2.2.1
theorem dX1_idle_3 : decode cX1_idle 3 = .ok (.istore_n 2, 1) := dX1_idle_k62.2.2.2.1
theorem dX1_idle_4 : decode cX1_idle 4 = .ok (.iload_n 2, 1) := dX1_idle_k62.2.2.2.2.1
theorem dX1_idle_5 : decode cX1_idle 5 = .ok (.bipush 8, 2) := dX1_idle_k62.2.2.2.2.2
set_option maxRecDepth 100000 in
theorem dX1_idle_k63 : (decode cX1_idle 7 = .ok (.if_icmp .ge 32, 3)) ∧ (decode cX1_idle 10 = .ok (.aload_n 0, 1)) ∧ (decode cX1_idle 11 = .ok (.iload_n 2, 1)) ∧ (decode cX1_idle 12 = .ok (.invokevirtual 61, 3)) ∧ (decode cX1_idle 15 = .ok (.ifCond .eq 18, 3)) ∧ (decode cX1_idle 18 = .ok (.aload_n 0, 1)) := by decide +kernel
theorem dX1_idle_7 : decode cX1_idle 7 = .ok (.if_icmp .ge 32, 3) := dX1_idle_k63.1
theorem dX1_idle_10 : decode cX1_idle 10 = .ok (.aload_n 0, 1) := dX1_idle_k63.2.1
theorem dX1_idle_11 : decode cX1_idle 11 = .ok (.iload_n 2, 1) := dX1_idle_k63.2.2.1
theorem dX1_idle_12 : decode cX1_idle 12 = .ok (.invokevirtual 61, 3) := dX1_idle_k63.2.2.2.1
theorem dX1_idle_15 : decode cX1_idle 15 = .ok (.ifCond .eq 18, 3) := dX1_idle_k63.2.2.2.2.1
theorem dX1_idle_18 : decode cX1_idle 18 = .ok (.aload_n 0, 1) := dX1_idle_k63.2.2.2.2.2
set_option maxRecDepth 100000 in
theorem dX1_idle_k64 : (decode cX1_idle 19 = .ok (.getfield 21, 3)) ∧ (decode cX1_idle 22 = .ok (.iload_n 2, 1)) ∧ (decode cX1_idle 23 = .ok (.iaload, 1)) ∧ (decode cX1_idle 24 = .ok (.ifCond .ne 9, 3)) ∧ (decode cX1_idle 27 = .ok (.iload_n 1, 1)) ∧ (decode cX1_idle 28 = .ok (.iconst 1, 1)) := by decide +kernel
theorem dX1_idle_19 : decode cX1_idle 19 = .ok (.getfield 21, 3) := dX1_idle_k64.1
theorem dX1_idle_22 : decode cX1_idle 22 = .ok (.iload_n 2, 1) := dX1_idle_k64.2.1
theorem dX1_idle_23 : decode cX1_idle 23 = .ok (.iaload, 1) := dX1_idle_k64.2.2.1
theorem dX1_idle_24 : decode cX1_idle 24 = .ok (.ifCond .ne 9, 3) := dX1_idle_k64.2.2.2.1
theorem dX1_idle_27 : decode cX1_idle 27 = .ok (.iload_n 1, 1) := dX1_idle_k64.2.2.2.2.1
theorem dX1_idle_28 : decode cX1_idle 28 = .ok (.iconst 1, 1) := dX1_idle_k64.2.2.2.2.2
set_option maxRecDepth 100000 in
theorem dX1_idle_k65 : (decode cX1_idle 29 = .ok (.iload_n 2, 1)) ∧ (decode cX1_idle 30 = .ok (.ishl, 1)) ∧ (decode cX1_idle 31 = .ok (.ior, 1)) ∧ (decode cX1_idle 32 = .ok (.istore_n 1, 1)) ∧ (decode cX1_idle 33 = .ok (.iinc 2 1, 3)) ∧ (decode cX1_idle 36 = .ok (.goto (-32), 3)) := by decide +kernel
theorem dX1_idle_29 : decode cX1_idle 29 = .ok (.iload_n 2, 1) := dX1_idle_k65.1
theorem dX1_idle_30 : decode cX1_idle 30 = .ok (.ishl, 1) := dX1_idle_k65.2.1
theorem dX1_idle_31 : decode cX1_idle 31 = .ok (.ior, 1) := dX1_idle_k65.2.2.1
theorem dX1_idle_32 : decode cX1_idle 32 = .ok (.istore_n 1, 1) := dX1_idle_k65.2.2.2.1
theorem dX1_idle_33 : decode cX1_idle 33 = .ok (.iinc 2 1, 3) := dX1_idle_k65.2.2.2.2.1
theorem dX1_idle_36 : decode cX1_idle 36 = .ok (.goto (-32), 3) := dX1_idle_k65.2.2.2.2.2
set_option maxRecDepth 100000 in
theorem dX1_idle_k66 : (decode cX1_idle 39 = .ok (.iload_n 1, 1)) ∧ (decode cX1_idle 40 = .ok (.ireturn, 1)) := by decide +kernel
theorem dX1_idle_39 : decode cX1_idle 39 = .ok (.iload_n 1, 1) := dX1_idle_k66.1
theorem dX1_idle_40 : decode cX1_idle 40 = .ok (.ireturn, 1) := dX1_idle_k66.2
set_option maxRecDepth 100000 in
theorem dX1_anyTalks_k67 : (decode cX1_anyTalks 0 = .ok (.iconst 0, 1)) ∧ (decode cX1_anyTalks 1 = .ok (.istore_n 1, 1)) ∧ (decode cX1_anyTalks 2 = .ok (.iload_n 1, 1)) ∧ (decode cX1_anyTalks 3 = .ok (.bipush 8, 2)) ∧ (decode cX1_anyTalks 5 = .ok (.if_icmp .ge 21, 3)) ∧ (decode cX1_anyTalks 8 = .ok (.aload_n 0, 1)) := by decide +kernel
theorem dX1_anyTalks_0 : decode cX1_anyTalks 0 = .ok (.iconst 0, 1) := dX1_anyTalks_k67.1
theorem dX1_anyTalks_1 : decode cX1_anyTalks 1 = .ok (.istore_n 1, 1) := dX1_anyTalks_k67.2.1
theorem dX1_anyTalks_2 : decode cX1_anyTalks 2 = .ok (.iload_n 1, 1) := dX1_anyTalks_k67.2.2.1
theorem dX1_anyTalks_3 : decode cX1_anyTalks 3 = .ok (.bipush 8, 2) := dX1_anyTalks_k67.2.2.2.1
theorem dX1_anyTalks_5 : decode cX1_anyTalks 5 = .ok (.if_icmp .ge 21, 3) := dX1_anyTalks_k67.2.2.2.2.1
theorem dX1_anyTalks_8 : decode cX1_anyTalks 8 = .ok (.aload_n 0, 1) := dX1_anyTalks_k67.2.2.2.2.2
set_option maxRecDepth 100000 in
theorem dX1_anyTalks_k68 : (decode cX1_anyTalks 9 = .ok (.getfield 21, 3)) ∧ (decode cX1_anyTalks 12 = .ok (.iload_n 1, 1)) ∧ (decode cX1_anyTalks 13 = .ok (.iaload, 1)) ∧ (decode cX1_anyTalks 14 = .ok (.iconst 1, 1)) ∧ (decode cX1_anyTalks 15 = .ok (.if_icmp .ne 5, 3)) ∧ (decode cX1_anyTalks 18 = .ok (.iconst 1, 1)) := by decide +kernel
theorem dX1_anyTalks_9 : decode cX1_anyTalks 9 = .ok (.getfield 21, 3) := dX1_anyTalks_k68.1
theorem dX1_anyTalks_12 : decode cX1_anyTalks 12 = .ok (.iload_n 1, 1) := dX1_anyTalks_k68.2.1
theorem dX1_anyTalks_13 : decode cX1_anyTalks 13 = .ok (.iaload, 1) := dX1_anyTalks_k68.2.2.1
theorem dX1_anyTalks_14 : decode cX1_anyTalks 14 = .ok (.iconst 1, 1) := dX1_anyTalks_k68.2.2.2.1
theorem dX1_anyTalks_15 : decode cX1_anyTalks 15 = .ok (.if_icmp .ne 5, 3) := dX1_anyTalks_k68.2.2.2.2.1
theorem dX1_anyTalks_18 : decode cX1_anyTalks 18 = .ok (.iconst 1, 1) := dX1_anyTalks_k68.2.2.2.2.2
set_option maxRecDepth 100000 in
theorem dX1_anyTalks_k69 : (decode cX1_anyTalks 19 = .ok (.ireturn, 1)) ∧ (decode cX1_anyTalks 20 = .ok (.iinc 1 1, 3)) ∧ (decode cX1_anyTalks 23 = .ok (.goto (-21), 3)) ∧ (decode cX1_anyTalks 26 = .ok (.iconst 0, 1)) ∧ (decode cX1_anyTalks 27 = .ok (.ireturn, 1)) := by decide +kernel
theorem dX1_anyTalks_19 : decode cX1_anyTalks 19 = .ok (.ireturn, 1) := dX1_anyTalks_k69.1
theorem dX1_anyTalks_20 : decode cX1_anyTalks 20 = .ok (.iinc 1 1, 3) := dX1_anyTalks_k69.2.1
theorem dX1_anyTalks_23 : decode cX1_anyTalks 23 = .ok (.goto (-21), 3) := dX1_anyTalks_k69.2.2.1
theorem dX1_anyTalks_26 : decode cX1_anyTalks 26 = .ok (.iconst 0, 1) := dX1_anyTalks_k69.2.2.2.1
theorem dX1_anyTalks_27 : decode cX1_anyTalks 27 = .ok (.ireturn, 1) := dX1_anyTalks_k69.2.2.2.2
set_option maxRecDepth 100000 in
theorem dX1_pullOfThings_k70 : (decode cX1_pullOfThings 0 = .ok (.iconst 0, 1)) ∧ (decode cX1_pullOfThings 1 = .ok (.istore_n 3, 1)) ∧ (decode cX1_pullOfThings 2 = .ok (.iconst 0, 1)) ∧ (decode cX1_pullOfThings 3 = .ok (.istore 4, 2)) ∧ (decode cX1_pullOfThings 5 = .ok (.iload 4, 2)) ∧ (decode cX1_pullOfThings 7 = .ok (.iconst 4, 1)) := by decide +kernel
theorem dX1_pullOfThings_0 : decode cX1_pullOfThings 0 = .ok (.iconst 0, 1) := dX1_pullOfThings_k70.1
theorem dX1_pullOfThings_1 : decode cX1_pullOfThings 1 = .ok (.istore_n 3, 1) := dX1_pullOfThings_k70.2.1
theorem dX1_pullOfThings_2 : decode cX1_pullOfThings 2 = .ok (.iconst 0, 1) := dX1_pullOfThings_k70.2.2.1
theorem dX1_pullOfThings_3 : decode cX1_pullOfThings 3 = .ok (.istore 4, 2) := dX1_pullOfThings_k70.2.2.2.1
theorem dX1_pullOfThings_5 : decode cX1_pullOfThings 5 = .ok (.iload 4, 2) := dX1_pullOfThings_k70.2.2.2.2.1
theorem dX1_pullOfThings_7 : decode cX1_pullOfThings 7 = .ok (.iconst 4, 1) := dX1_pullOfThings_k70.2.2.2.2.2
set_option maxRecDepth 100000 in
theorem dX1_pullOfThings_k71 : (decode cX1_pullOfThings 8 = .ok (.if_icmp .ge 36, 3)) ∧ (decode cX1_pullOfThings 11 = .ok (.iload_n 3, 1)) ∧ (decode cX1_pullOfThings 12 = .ok (.aload_n 0, 1)) ∧ (decode cX1_pullOfThings 13 = .ok (.getfield 30, 3)) ∧ (decode cX1_pullOfThings 16 = .ok (.iload_n 1, 1)) ∧ (decode cX1_pullOfThings 17 = .ok (.iconst 5, 1)) := by decide +kernel
theorem dX1_pullOfThings_8 : decode cX1_pullOfThings 8 = .ok (.if_icmp .ge 36, 3) := dX1_pullOfThings_k71.1
theorem dX1_pullOfThings_11 : decode cX1_pullOfThings 11 = .ok (.iload_n 3, 1) := dX1_pullOfThings_k71.2.1
theorem dX1_pullOfThings_12 : decode cX1_pullOfThings 12 = .ok (.aload_n 0, 1) := dX1_pullOfThings_k71.2.2.1
theorem dX1_pullOfThings_13 : decode cX1_pullOfThings 13 = .ok (.getfield 30, 3) := dX1_pullOfThings_k71.2.2.2.1
theorem dX1_pullOfThings_16 : decode cX1_pullOfThings 16 = .ok (.iload_n 1, 1) := dX1_pullOfThings_k71.2.2.2.2.1
theorem dX1_pullOfThings_17 : decode cX1_pullOfThings 17 = .ok (.iconst 5, 1) := dX1_pullOfThings_k71.2.2.2.2.2
set_option maxRecDepth 100000 in
theorem dX1_pullOfThings_k72 : (decode cX1_pullOfThings 18 = .ok (.imul, 1)) ∧ (decode cX1_pullOfThings 19 = .ok (.iload 4, 2)) ∧ (decode cX1_pullOfThings 21 = .ok (.iadd, 1)) ∧ (decode cX1_pullOfThings 22 = .ok (.iaload, 1)) ∧ (decode cX1_pullOfThings 23 = .ok (.aload_n 0, 1)) ∧ (decode cX1_pullOfThings 24 = .ok (.getfield 9, 3)) := by decide +kernel
theorem dX1_pullOfThings_18 : decode cX1_pullOfThings 18 = .ok (.imul, 1) := dX1_pullOfThings_k72.1
theorem dX1_pullOfThings_19 : decode cX1_pullOfThings 19 = .ok (.iload 4, 2) := dX1_pullOfThings_k72.2.1
theorem dX1_pullOfThings_21 : decode cX1_pullOfThings 21 = .ok (.iadd, 1) := dX1_pullOfThings_k72.2.2.1
theorem dX1_pullOfThings_22 : decode cX1_pullOfThings 22 = .ok (.iaload, 1) := dX1_pullOfThings_k72.2.2.2.1
theorem dX1_pullOfThings_23 : decode cX1_pullOfThings 23 = .ok (.aload_n 0, 1) := dX1_pullOfThings_k72.2.2.2.2.1
theorem dX1_pullOfThings_24 : decode cX1_pullOfThings 24 = .ok (.getfield 9, 3) := dX1_pullOfThings_k72.2.2.2.2.2
set_option maxRecDepth 100000 in
theorem dX1_pullOfThings_k73 : (decode cX1_pullOfThings 27 = .ok (.iload_n 2, 1)) ∧ (decode cX1_pullOfThings 28 = .ok (.bipush 6, 2)) ∧ (decode cX1_pullOfThings 30 = .ok (.imul, 1)) ∧ (decode cX1_pullOfThings 31 = .ok (.iload 4, 2)) ∧ (decode cX1_pullOfThings 33 = .ok (.iadd, 1)) ∧ (decode cX1_pullOfThings 34 = .ok (.iaload, 1)) := by decide +kernel
theorem dX1_pullOfThings_27 : decode cX1_pullOfThings 27 = .ok (.iload_n 2, 1) := dX1_pullOfThings_k73.1
theorem dX1_pullOfThings_28 : decode cX1_pullOfThings 28 = .ok (.bipush 6, 2) := dX1_pullOfThings_k73.2.1
theorem dX1_pullOfThings_30 : decode cX1_pullOfThings 30 = .ok (.imul, 1) := dX1_pullOfThings_k73.2.2.1
theorem dX1_pullOfThings_31 : decode cX1_pullOfThings 31 = .ok (.iload 4, 2) := dX1_pullOfThings_k73.2.2.2.1
theorem dX1_pullOfThings_33 : decode cX1_pullOfThings 33 = .ok (.iadd, 1) := dX1_pullOfThings_k73.2.2.2.2.1
theorem dX1_pullOfThings_34 : decode cX1_pullOfThings 34 = .ok (.iaload, 1) := dX1_pullOfThings_k73.2.2.2.2.2
set_option maxRecDepth 100000 in
theorem dX1_pullOfThings_k74 : (decode cX1_pullOfThings 35 = .ok (.imul, 1)) ∧ (decode cX1_pullOfThings 36 = .ok (.iadd, 1)) ∧ (decode cX1_pullOfThings 37 = .ok (.istore_n 3, 1)) ∧ (decode cX1_pullOfThings 38 = .ok (.iinc 4 1, 3)) ∧ (decode cX1_pullOfThings 41 = .ok (.goto (-36), 3)) ∧ (decode cX1_pullOfThings 44 = .ok (.iload_n 3, 1)) := by decide +kernel
theorem dX1_pullOfThings_35 : decode cX1_pullOfThings 35 = .ok (.imul, 1) := dX1_pullOfThings_k74.1
theorem dX1_pullOfThings_36 : decode cX1_pullOfThings 36 = .ok (.iadd, 1) := dX1_pullOfThings_k74.2.1
theorem dX1_pullOfThings_37 : decode cX1_pullOfThings 37 = .ok (.istore_n 3, 1) := dX1_pullOfThings_k74.2.2.1
theorem dX1_pullOfThings_38 : decode cX1_pullOfThings 38 = .ok (.iinc 4 1, 3) := dX1_pullOfThings_k74.2.2.2.1
theorem dX1_pullOfThings_41 : decode cX1_pullOfThings 41 = .ok (.goto (-36), 3) := dX1_pullOfThings_k74.2.2.2.2.1
theorem dX1_pullOfThings_44 : decode cX1_pullOfThings 44 = .ok (.iload_n 3, 1) := dX1_pullOfThings_k74.2.2.2.2.2
theorem dX1_pullOfThings_45 : decode cX1_pullOfThings 45 = .ok (.ireturn, 1) := by decide +kernel
set_option maxRecDepth 100000 in
theorem dX1_pull_k75 : (decode cX1_pull 0 = .ok (.aload_n 0, 1)) ∧ (decode cX1_pull 1 = .ok (.iload_n 1, 1)) ∧ (decode cX1_pull 2 = .ok (.iload_n 2, 1)) ∧ (decode cX1_pull 3 = .ok (.invokevirtual 74, 3)) ∧ (decode cX1_pull 6 = .ok (.aload_n 0, 1)) ∧ (decode cX1_pull 7 = .ok (.getfield 30, 3)) := by decide +kernel
theorem dX1_pull_0 : decode cX1_pull 0 = .ok (.aload_n 0, 1) := dX1_pull_k75.1
theorem dX1_pull_1 : decode cX1_pull 1 = .ok (.iload_n 1, 1) := dX1_pull_k75.2.1
theorem dX1_pull_2 : decode cX1_pull 2 = .ok (.iload_n 2, 1) := dX1_pull_k75.2.2.1
theorem dX1_pull_3 : decode cX1_pull 3 = .ok (.invokevirtual 74, 3) := dX1_pull_k75.2.2.2.1
theorem dX1_pull_6 : decode cX1_pull 6 = .ok (.aload_n 0, 1) := dX1_pull_k75.2.2.2.2.1
theorem dX1_pull_7 : decode cX1_pull 7 = .ok (.getfield 30, 3) := dX1_pull_k75.2.2.2.2.2
set_option maxRecDepth 100000 in
theorem dX1_pull_k76 : (decode cX1_pull 10 = .ok (.iload_n 1, 1)) ∧ (decode cX1_pull 11 = .ok (.iconst 5, 1)) ∧ (decode cX1_pull 12 = .ok (.imul, 1)) ∧ (decode cX1_pull 13 = .ok (.iconst 4, 1)) ∧ (decode cX1_pull 14 = .ok (.iadd, 1)) ∧ (decode cX1_pull 15 = .ok (.iaload, 1)) := by decide +kernel
theorem dX1_pull_10 : decode cX1_pull 10 = .ok (.iload_n 1, 1) := dX1_pull_k76.1
theorem dX1_pull_11 : decode cX1_pull 11 = .ok (.iconst 5, 1) := dX1_pull_k76.2.1
theorem dX1_pull_12 : decode cX1_pull 12 = .ok (.imul, 1) := dX1_pull_k76.2.2.1
theorem dX1_pull_13 : decode cX1_pull 13 = .ok (.iconst 4, 1) := dX1_pull_k76.2.2.2.1
theorem dX1_pull_14 : decode cX1_pull 14 = .ok (.iadd, 1) := dX1_pull_k76.2.2.2.2.1
theorem dX1_pull_15 : decode cX1_pull 15 = .ok (.iaload, 1) := dX1_pull_k76.2.2.2.2.2
set_option maxRecDepth 100000 in
theorem dX1_pull_k77 : (decode cX1_pull 16 = .ok (.aload_n 0, 1)) ∧ (decode cX1_pull 17 = .ok (.iload_n 1, 1)) ∧ (decode cX1_pull 18 = .ok (.iload_n 2, 1)) ∧ (decode cX1_pull 19 = .ok (.invokevirtual 78, 3)) ∧ (decode cX1_pull 22 = .ok (.imul, 1)) ∧ (decode cX1_pull 23 = .ok (.iadd, 1)) := by decide +kernel
theorem dX1_pull_16 : decode cX1_pull 16 = .ok (.aload_n 0, 1) := dX1_pull_k77.1
theorem dX1_pull_17 : decode cX1_pull 17 = .ok (.iload_n 1, 1) := dX1_pull_k77.2.1
theorem dX1_pull_18 : decode cX1_pull 18 = .ok (.iload_n 2, 1) := dX1_pull_k77.2.2.1
theorem dX1_pull_19 : decode cX1_pull 19 = .ok (.invokevirtual 78, 3) := dX1_pull_k77.2.2.2.1
theorem dX1_pull_22 : decode cX1_pull 22 = .ok (.imul, 1) := dX1_pull_k77.2.2.2.2.1
theorem dX1_pull_23 : decode cX1_pull 23 = .ok (.iadd, 1) := dX1_pull_k77.2.2.2.2.2
theorem dX1_pull_24 : decode cX1_pull 24 = .ok (.ireturn, 1) := by decide +kernel
set_option maxRecDepth 100000 in
theorem dX1_sightsHold_k78 : (decode cX1_sightsHold 0 = .ok (.iconst 0, 1)) ∧ (decode cX1_sightsHold 1 = .ok (.istore_n 3, 1)) ∧ (decode cX1_sightsHold 2 = .ok (.iload_n 3, 1)) ∧ (decode cX1_sightsHold 3 = .ok (.aload_n 0, 1)) ∧ (decode cX1_sightsHold 4 = .ok (.getfield 46, 3)) ∧ (decode cX1_sightsHold 7 = .ok (.if_icmp .ge 31, 3)) := by decide +kernel
theorem dX1_sightsHold_0 : decode cX1_sightsHold 0 = .ok (.iconst 0, 1) := dX1_sightsHold_k78.1
theorem dX1_sightsHold_1 : decode cX1_sightsHold 1 = .ok (.istore_n 3, 1) := dX1_sightsHold_k78.2.1
theorem dX1_sightsHold_2 : decode cX1_sightsHold 2 = .ok (.iload_n 3, 1) := dX1_sightsHold_k78.2.2.1
theorem dX1_sightsHold_3 : decode cX1_sightsHold 3 = .ok (.aload_n 0, 1) := dX1_sightsHold_k78.2.2.2.1
theorem dX1_sightsHold_4 : decode cX1_sightsHold 4 = .ok (.getfield 46, 3) := dX1_sightsHold_k78.2.2.2.2.1
theorem dX1_sightsHold_7 : decode cX1_sightsHold 7 = .ok (.if_icmp .ge 31, 3) := dX1_sightsHold_k78.2.2.2.2.2
set_option maxRecDepth 100000 in
theorem dX1_sightsHold_k79 : (decode cX1_sightsHold 10 = .ok (.aload_n 0, 1)) ∧ (decode cX1_sightsHold 11 = .ok (.getfield 33, 3)) ∧ (decode cX1_sightsHold 14 = .ok (.iload_n 3, 1)) ∧ (decode cX1_sightsHold 15 = .ok (.iaload, 1)) ∧ (decode cX1_sightsHold 16 = .ok (.iload_n 1, 1)) ∧ (decode cX1_sightsHold 17 = .ok (.if_icmp .ne 15, 3)) := by decide +kernel
theorem dX1_sightsHold_10 : decode cX1_sightsHold 10 = .ok (.aload_n 0, 1) := dX1_sightsHold_k79.1
theorem dX1_sightsHold_11 : decode cX1_sightsHold 11 = .ok (.getfield 33, 3) := dX1_sightsHold_k79.2.1
theorem dX1_sightsHold_14 : decode cX1_sightsHold 14 = .ok (.iload_n 3, 1) := dX1_sightsHold_k79.2.2.1
theorem dX1_sightsHold_15 : decode cX1_sightsHold 15 = .ok (.iaload, 1) := dX1_sightsHold_k79.2.2.2.1
theorem dX1_sightsHold_16 : decode cX1_sightsHold 16 = .ok (.iload_n 1, 1) := dX1_sightsHold_k79.2.2.2.2.1
theorem dX1_sightsHold_17 : decode cX1_sightsHold 17 = .ok (.if_icmp .ne 15, 3) := dX1_sightsHold_k79.2.2.2.2.2
set_option maxRecDepth 100000 in
theorem dX1_sightsHold_k80 : (decode cX1_sightsHold 20 = .ok (.aload_n 0, 1)) ∧ (decode cX1_sightsHold 21 = .ok (.getfield 36, 3)) ∧ (decode cX1_sightsHold 24 = .ok (.iload_n 3, 1)) ∧ (decode cX1_sightsHold 25 = .ok (.iaload, 1)) ∧ (decode cX1_sightsHold 26 = .ok (.iload_n 2, 1)) ∧ (decode cX1_sightsHold 27 = .ok (.if_icmp .eq 5, 3)) := by decide +kernel
theorem dX1_sightsHold_20 : decode cX1_sightsHold 20 = .ok (.aload_n 0, 1) := dX1_sightsHold_k80.1
theorem dX1_sightsHold_21 : decode cX1_sightsHold 21 = .ok (.getfield 36, 3) := dX1_sightsHold_k80.2.1
theorem dX1_sightsHold_24 : decode cX1_sightsHold 24 = .ok (.iload_n 3, 1) := dX1_sightsHold_k80.2.2.1
theorem dX1_sightsHold_25 : decode cX1_sightsHold 25 = .ok (.iaload, 1) := dX1_sightsHold_k80.2.2.2.1
theorem dX1_sightsHold_26 : decode cX1_sightsHold 26 = .ok (.iload_n 2, 1) := dX1_sightsHold_k80.2.2.2.2.1
theorem dX1_sightsHold_27 : decode cX1_sightsHold 27 = .ok (.if_icmp .eq 5, 3) := dX1_sightsHold_k80.2.2.2.2.2
set_option maxRecDepth 100000 in
theorem dX1_sightsHold_k81 : (decode cX1_sightsHold 30 = .ok (.iconst 0, 1)) ∧ (decode cX1_sightsHold 31 = .ok (.ireturn, 1)) ∧ (decode cX1_sightsHold 32 = .ok (.iinc 3 1, 3)) ∧ (decode cX1_sightsHold 35 = .ok (.goto (-33), 3)) ∧ (decode cX1_sightsHold 38 = .ok (.iconst 1, 1)) ∧ (decode cX1_sightsHold 39 = .ok (.ireturn, 1)) := by decide +kernel
theorem dX1_sightsHold_30 : decode cX1_sightsHold 30 = .ok (.iconst 0, 1) := dX1_sightsHold_k81.1
theorem dX1_sightsHold_31 : decode cX1_sightsHold 31 = .ok (.ireturn, 1) := dX1_sightsHold_k81.2.1
theorem dX1_sightsHold_32 : decode cX1_sightsHold 32 = .ok (.iinc 3 1, 3) := dX1_sightsHold_k81.2.2.1
theorem dX1_sightsHold_35 : decode cX1_sightsHold 35 = .ok (.goto (-33), 3) := dX1_sightsHold_k81.2.2.2.1
theorem dX1_sightsHold_38 : decode cX1_sightsHold 38 = .ok (.iconst 1, 1) := dX1_sightsHold_k81.2.2.2.2.1
theorem dX1_sightsHold_39 : decode cX1_sightsHold 39 = .ok (.ireturn, 1) := dX1_sightsHold_k81.2.2.2.2.2
set_option maxRecDepth 100000 in
theorem dX1_tellGuest_k82 : (decode cX1_tellGuest 0 = .ok (.iload_n 2, 1)) ∧ (decode cX1_tellGuest 1 = .ok (.tableswitch 59 0 3 #[31, 38, 45, 52], 31)) ∧ (decode cX1_tellGuest 32 = .ok (.aload_n 0, 1)) ∧ (decode cX1_tellGuest 33 = .ok (.getfield 18, 3)) ∧ (decode cX1_tellGuest 36 = .ok (.iload_n 1, 1)) ∧ (decode cX1_tellGuest 37 = .ok (.iaload, 1)) := by decide +kernel
theorem dX1_tellGuest_0 : decode cX1_tellGuest 0 = .ok (.iload_n 2, 1) := dX1_tellGuest_k82.1
theorem dX1_tellGuest_1 : decode cX1_tellGuest 1 = .ok (.tableswitch 59 0 3 #[31, 38, 45, 52], 31) := dX1_tellGuest_k82.2.1
theorem dX1_tellGuest_32 : decode cX1_tellGuest 32 = .ok (.aload_n 0, 1) := dX1_tellGuest_k82.2.2.1
theorem dX1_tellGuest_33 : decode cX1_tellGuest 33 = .ok (.getfield 18, 3) := dX1_tellGuest_k82.2.2.2.1
theorem dX1_tellGuest_36 : decode cX1_tellGuest 36 = .ok (.iload_n 1, 1) := dX1_tellGuest_k82.2.2.2.2.1
theorem dX1_tellGuest_37 : decode cX1_tellGuest 37 = .ok (.iaload, 1) := dX1_tellGuest_k82.2.2.2.2.2
set_option maxRecDepth 100000 in
theorem dX1_tellGuest_k83 : (decode cX1_tellGuest 38 = .ok (.ireturn, 1)) ∧ (decode cX1_tellGuest 39 = .ok (.aload_n 0, 1)) ∧ (decode cX1_tellGuest 40 = .ok (.getfield 21, 3)) ∧ (decode cX1_tellGuest 43 = .ok (.iload_n 1, 1)) ∧ (decode cX1_tellGuest 44 = .ok (.iaload, 1)) ∧ (decode cX1_tellGuest 45 = .ok (.ireturn, 1)) := by decide +kernel
theorem dX1_tellGuest_38 : decode cX1_tellGuest 38 = .ok (.ireturn, 1) := dX1_tellGuest_k83.1
theorem dX1_tellGuest_39 : decode cX1_tellGuest 39 = .ok (.aload_n 0, 1) := dX1_tellGuest_k83.2.1
theorem dX1_tellGuest_40 : decode cX1_tellGuest 40 = .ok (.getfield 21, 3) := dX1_tellGuest_k83.2.2.1
theorem dX1_tellGuest_43 : decode cX1_tellGuest 43 = .ok (.iload_n 1, 1) := dX1_tellGuest_k83.2.2.2.1
theorem dX1_tellGuest_44 : decode cX1_tellGuest 44 = .ok (.iaload, 1) := dX1_tellGuest_k83.2.2.2.2.1
theorem dX1_tellGuest_45 : decode cX1_tellGuest 45 = .ok (.ireturn, 1) := dX1_tellGuest_k83.2.2.2.2.2
set_option maxRecDepth 100000 in
theorem dX1_tellGuest_k84 : (decode cX1_tellGuest 46 = .ok (.aload_n 0, 1)) ∧ (decode cX1_tellGuest 47 = .ok (.getfield 24, 3)) ∧ (decode cX1_tellGuest 50 = .ok (.iload_n 1, 1)) ∧ (decode cX1_tellGuest 51 = .ok (.iaload, 1)) ∧ (decode cX1_tellGuest 52 = .ok (.ireturn, 1)) ∧ (decode cX1_tellGuest 53 = .ok (.aload_n 0, 1)) := by decide +kernel
theorem dX1_tellGuest_46 : decode cX1_tellGuest 46 = .ok (.aload_n 0, 1) := dX1_tellGuest_k84.1
theorem dX1_tellGuest_47 : decode cX1_tellGuest 47 = .ok (.getfield 24, 3) := dX1_tellGuest_k84.2.1
theorem dX1_tellGuest_50 : decode cX1_tellGuest 50 = .ok (.iload_n 1, 1) := dX1_tellGuest_k84.2.2.1
theorem dX1_tellGuest_51 : decode cX1_tellGuest 51 = .ok (.iaload, 1) := dX1_tellGuest_k84.2.2.2.1
theorem dX1_tellGuest_52 : decode cX1_tellGuest 52 = .ok (.ireturn, 1) := dX1_tellGuest_k84.2.2.2.2.1
theorem dX1_tellGuest_53 : decode cX1_tellGuest 53 = .ok (.aload_n 0, 1) := dX1_tellGuest_k84.2.2.2.2.2
set_option maxRecDepth 100000 in
theorem dX1_tellGuest_k85 : (decode cX1_tellGuest 54 = .ok (.getfield 27, 3)) ∧ (decode cX1_tellGuest 57 = .ok (.iload_n 1, 1)) ∧ (decode cX1_tellGuest 58 = .ok (.iaload, 1)) ∧ (decode cX1_tellGuest 59 = .ok (.ireturn, 1)) ∧ (decode cX1_tellGuest 60 = .ok (.bipush (-2), 2)) ∧ (decode cX1_tellGuest 62 = .ok (.ireturn, 1)) := by decide +kernel
theorem dX1_tellGuest_54 : decode cX1_tellGuest 54 = .ok (.getfield 27, 3) := dX1_tellGuest_k85.1
theorem dX1_tellGuest_57 : decode cX1_tellGuest 57 = .ok (.iload_n 1, 1) := dX1_tellGuest_k85.2.1
theorem dX1_tellGuest_58 : decode cX1_tellGuest 58 = .ok (.iaload, 1) := dX1_tellGuest_k85.2.2.1
theorem dX1_tellGuest_59 : decode cX1_tellGuest 59 = .ok (.ireturn, 1) := dX1_tellGuest_k85.2.2.2.1
theorem dX1_tellGuest_60 : decode cX1_tellGuest 60 = .ok (.bipush (-2), 2) := dX1_tellGuest_k85.2.2.2.2.1
theorem dX1_tellGuest_62 : decode cX1_tellGuest 62 = .ok (.ireturn, 1) := dX1_tellGuest_k85.2.2.2.2.2
set_option maxRecDepth 100000 in
theorem dX1_key_k86 : (decode cX1_key 0 = .ok (.lconst 0, 1)) ∧ (decode cX1_key 1 = .ok (.lstore_n 1, 1)) ∧ (decode cX1_key 2 = .ok (.iconst 0, 1)) ∧ (decode cX1_key 3 = .ok (.istore_n 3, 1)) ∧ (decode cX1_key 4 = .ok (.iload_n 3, 1)) ∧ (decode cX1_key 5 = .ok (.bipush 8, 2)) := by decide +kernel
theorem dX1_key_0 : decode cX1_key 0 = .ok (.lconst 0, 1) := dX1_key_k86.1
theorem dX1_key_1 : decode cX1_key 1 = .ok (.lstore_n 1, 1) := dX1_key_k86.2.1
theorem dX1_key_2 : decode cX1_key 2 = .ok (.iconst 0, 1) := dX1_key_k86.2.2.1
theorem dX1_key_3 : decode cX1_key 3 = .ok (.istore_n 3, 1) := dX1_key_k86.2.2.2.1
theorem dX1_key_4 : decode cX1_key 4 = .ok (.iload_n 3, 1) := dX1_key_k86.2.2.2.2.1
theorem dX1_key_5 : decode cX1_key 5 = .ok (.bipush 8, 2) := dX1_key_k86.2.2.2.2.2
set_option maxRecDepth 100000 in
theorem dX1_key_k87 : (decode cX1_key 7 = .ok (.if_icmp .ge 32, 3)) ∧ (decode cX1_key 10 = .ok (.lload_n 1, 1)) ∧ (decode cX1_key 11 = .ok (.bipush 7, 2)) ∧ (decode cX1_key 13 = .ok (.lshl, 1)) ∧ (decode cX1_key 14 = .ok (.aload_n 0, 1)) ∧ (decode cX1_key 15 = .ok (.getfield 18, 3)) := by decide +kernel
theorem dX1_key_7 : decode cX1_key 7 = .ok (.if_icmp .ge 32, 3) := dX1_key_k87.1
theorem dX1_key_10 : decode cX1_key 10 = .ok (.lload_n 1, 1) := dX1_key_k87.2.1
theorem dX1_key_11 : decode cX1_key 11 = .ok (.bipush 7, 2) := dX1_key_k87.2.2.1
theorem dX1_key_13 : decode cX1_key 13 = .ok (.lshl, 1) := dX1_key_k87.2.2.2.1
theorem dX1_key_14 : decode cX1_key 14 = .ok (.aload_n 0, 1) := dX1_key_k87.2.2.2.2.1
theorem dX1_key_15 : decode cX1_key 15 = .ok (.getfield 18, 3) := dX1_key_k87.2.2.2.2.2
set_option maxRecDepth 100000 in
theorem dX1_key_k88 : (decode cX1_key 18 = .ok (.iload_n 3, 1)) ∧ (decode cX1_key 19 = .ok (.iaload, 1)) ∧ (decode cX1_key 20 = .ok (.iconst 4, 1)) ∧ (decode cX1_key 21 = .ok (.ishl, 1)) ∧ (decode cX1_key 22 = .ok (.i2l, 1)) ∧ (decode cX1_key 23 = .ok (.lor, 1)) := by decide +kernel
theorem dX1_key_18 : decode cX1_key 18 = .ok (.iload_n 3, 1) := dX1_key_k88.1
theorem dX1_key_19 : decode cX1_key 19 = .ok (.iaload, 1) := dX1_key_k88.2.1
theorem dX1_key_20 : decode cX1_key 20 = .ok (.iconst 4, 1) := dX1_key_k88.2.2.1
theorem dX1_key_21 : decode cX1_key 21 = .ok (.ishl, 1) := dX1_key_k88.2.2.2.1
theorem dX1_key_22 : decode cX1_key 22 = .ok (.i2l, 1) := dX1_key_k88.2.2.2.2.1
theorem dX1_key_23 : decode cX1_key 23 = .ok (.lor, 1) := dX1_key_k88.2.2.2.2.2
set_option maxRecDepth 100000 in
theorem dX1_key_k89 : (decode cX1_key 24 = .ok (.aload_n 0, 1)) ∧ (decode cX1_key 25 = .ok (.getfield 27, 3)) ∧ (decode cX1_key 28 = .ok (.iload_n 3, 1)) ∧ (decode cX1_key 29 = .ok (.iaload, 1)) ∧ (decode cX1_key 30 = .ok (.i2l, 1)) ∧ (decode cX1_key 31 = .ok (.lor, 1)) := by decide +kernel
theorem dX1_key_24 : decode cX1_key 24 = .ok (.aload_n 0, 1) := dX1_key_k89.1
theorem dX1_key_25 : decode cX1_key 25 = .ok (.getfield 27, 3) := dX1_key_k89.2.1
theorem dX1_key_28 : decode cX1_key 28 = .ok (.iload_n 3, 1) := dX1_key_k89.2.2.1
theorem dX1_key_29 : decode cX1_key 29 = .ok (.iaload, 1) := dX1_key_k89.2.2.2.1
theorem dX1_key_30 : decode cX1_key 30 = .ok (.i2l, 1) := dX1_key_k89.2.2.2.2.1
theorem dX1_key_31 : decode cX1_key 31 = .ok (.lor, 1) := dX1_key_k89.2.2.2.2.2
set_option maxRecDepth 100000 in
theorem dX1_key_k90 : (decode cX1_key 32 = .ok (.lstore_n 1, 1)) ∧ (decode cX1_key 33 = .ok (.iinc 3 1, 3)) ∧ (decode cX1_key 36 = .ok (.goto (-32), 3)) ∧ (decode cX1_key 39 = .ok (.lload_n 1, 1)) ∧ (decode cX1_key 40 = .ok (.lreturn, 1)) := by decide +kernel
theorem dX1_key_32 : decode cX1_key 32 = .ok (.lstore_n 1, 1) := dX1_key_k90.1
theorem dX1_key_33 : decode cX1_key 33 = .ok (.iinc 3 1, 3) := dX1_key_k90.2.1
theorem dX1_key_36 : decode cX1_key 36 = .ok (.goto (-32), 3) := dX1_key_k90.2.2.1
theorem dX1_key_39 : decode cX1_key 39 = .ok (.lload_n 1, 1) := dX1_key_k90.2.2.2.1
theorem dX1_key_40 : decode cX1_key 40 = .ok (.lreturn, 1) := dX1_key_k90.2.2.2.2
set_option maxRecDepth 100000 in
theorem dX1_dismiss_k91 : (decode cX1_dismiss 0 = .ok (.aload_n 0, 1)) ∧ (decode cX1_dismiss 1 = .ok (.iload_n 1, 1)) ∧ (decode cX1_dismiss 2 = .ok (.invokevirtual 81, 3)) ∧ (decode cX1_dismiss 5 = .ok (.aload_n 0, 1)) ∧ (decode cX1_dismiss 6 = .ok (.dup, 1)) ∧ (decode cX1_dismiss 7 = .ok (.getfield 43, 3)) := by decide +kernel
theorem dX1_dismiss_0 : decode cX1_dismiss 0 = .ok (.aload_n 0, 1) := dX1_dismiss_k91.1
theorem dX1_dismiss_1 : decode cX1_dismiss 1 = .ok (.iload_n 1, 1) := dX1_dismiss_k91.2.1
theorem dX1_dismiss_2 : decode cX1_dismiss 2 = .ok (.invokevirtual 81, 3) := dX1_dismiss_k91.2.2.1
theorem dX1_dismiss_5 : decode cX1_dismiss 5 = .ok (.aload_n 0, 1) := dX1_dismiss_k91.2.2.2.1
theorem dX1_dismiss_6 : decode cX1_dismiss 6 = .ok (.dup, 1) := dX1_dismiss_k91.2.2.2.2.1
theorem dX1_dismiss_7 : decode cX1_dismiss 7 = .ok (.getfield 43, 3) := dX1_dismiss_k91.2.2.2.2.2
set_option maxRecDepth 100000 in
theorem dX1_dismiss_k92 : (decode cX1_dismiss 10 = .ok (.iconst 1, 1)) ∧ (decode cX1_dismiss 11 = .ok (.iload_n 1, 1)) ∧ (decode cX1_dismiss 12 = .ok (.ishl, 1)) ∧ (decode cX1_dismiss 13 = .ok (.iconst (-1), 1)) ∧ (decode cX1_dismiss 14 = .ok (.ixor, 1)) ∧ (decode cX1_dismiss 15 = .ok (.iand, 1)) := by decide +kernel
theorem dX1_dismiss_10 : decode cX1_dismiss 10 = .ok (.iconst 1, 1) := dX1_dismiss_k92.1
theorem dX1_dismiss_11 : decode cX1_dismiss 11 = .ok (.iload_n 1, 1) := dX1_dismiss_k92.2.1
theorem dX1_dismiss_12 : decode cX1_dismiss 12 = .ok (.ishl, 1) := dX1_dismiss_k92.2.2.1
theorem dX1_dismiss_13 : decode cX1_dismiss 13 = .ok (.iconst (-1), 1) := dX1_dismiss_k92.2.2.2.1
theorem dX1_dismiss_14 : decode cX1_dismiss 14 = .ok (.ixor, 1) := dX1_dismiss_k92.2.2.2.2.1
theorem dX1_dismiss_15 : decode cX1_dismiss 15 = .ok (.iand, 1) := dX1_dismiss_k92.2.2.2.2.2
set_option maxRecDepth 100000 in
theorem dX1_dismiss_k93 : (decode cX1_dismiss 16 = .ok (.putfield 43, 3)) ∧ (decode cX1_dismiss 19 = .ok (.aload_n 0, 1)) ∧ (decode cX1_dismiss 20 = .ok (.getfield 18, 3)) ∧ (decode cX1_dismiss 23 = .ok (.iload_n 1, 1)) ∧ (decode cX1_dismiss 24 = .ok (.iconst 0, 1)) ∧ (decode cX1_dismiss 25 = .ok (.iastore, 1)) := by decide +kernel
theorem dX1_dismiss_16 : decode cX1_dismiss 16 = .ok (.putfield 43, 3) := dX1_dismiss_k93.1
theorem dX1_dismiss_19 : decode cX1_dismiss 19 = .ok (.aload_n 0, 1) := dX1_dismiss_k93.2.1
theorem dX1_dismiss_20 : decode cX1_dismiss 20 = .ok (.getfield 18, 3) := dX1_dismiss_k93.2.2.1
theorem dX1_dismiss_23 : decode cX1_dismiss 23 = .ok (.iload_n 1, 1) := dX1_dismiss_k93.2.2.2.1
theorem dX1_dismiss_24 : decode cX1_dismiss 24 = .ok (.iconst 0, 1) := dX1_dismiss_k93.2.2.2.2.1
theorem dX1_dismiss_25 : decode cX1_dismiss 25 = .ok (.iastore, 1) := dX1_dismiss_k93.2.2.2.2.2
set_option maxRecDepth 100000 in
theorem dX1_dismiss_k94 : (decode cX1_dismiss 26 = .ok (.iconst 0, 1)) ∧ (decode cX1_dismiss 27 = .ok (.istore_n 2, 1)) ∧ (decode cX1_dismiss 28 = .ok (.iload_n 2, 1)) ∧ (decode cX1_dismiss 29 = .ok (.iconst 5, 1)) ∧ (decode cX1_dismiss 30 = .ok (.if_icmp .ge 20, 3)) ∧ (decode cX1_dismiss 33 = .ok (.aload_n 0, 1)) := by decide +kernel
theorem dX1_dismiss_26 : decode cX1_dismiss 26 = .ok (.iconst 0, 1) := dX1_dismiss_k94.1
theorem dX1_dismiss_27 : decode cX1_dismiss 27 = .ok (.istore_n 2, 1) := dX1_dismiss_k94.2.1
theorem dX1_dismiss_28 : decode cX1_dismiss 28 = .ok (.iload_n 2, 1) := dX1_dismiss_k94.2.2.1
theorem dX1_dismiss_29 : decode cX1_dismiss 29 = .ok (.iconst 5, 1) := dX1_dismiss_k94.2.2.2.1
theorem dX1_dismiss_30 : decode cX1_dismiss 30 = .ok (.if_icmp .ge 20, 3) := dX1_dismiss_k94.2.2.2.2.1
theorem dX1_dismiss_33 : decode cX1_dismiss 33 = .ok (.aload_n 0, 1) := dX1_dismiss_k94.2.2.2.2.2
set_option maxRecDepth 100000 in
theorem dX1_dismiss_k95 : (decode cX1_dismiss 34 = .ok (.getfield 30, 3)) ∧ (decode cX1_dismiss 37 = .ok (.iload_n 1, 1)) ∧ (decode cX1_dismiss 38 = .ok (.iconst 5, 1)) ∧ (decode cX1_dismiss 39 = .ok (.imul, 1)) ∧ (decode cX1_dismiss 40 = .ok (.iload_n 2, 1)) ∧ (decode cX1_dismiss 41 = .ok (.iadd, 1)) := by decide +kernel
theorem dX1_dismiss_34 : decode cX1_dismiss 34 = .ok (.getfield 30, 3) := dX1_dismiss_k95.1
theorem dX1_dismiss_37 : decode cX1_dismiss 37 = .ok (.iload_n 1, 1) := dX1_dismiss_k95.2.1
theorem dX1_dismiss_38 : decode cX1_dismiss 38 = .ok (.iconst 5, 1) := dX1_dismiss_k95.2.2.1
theorem dX1_dismiss_39 : decode cX1_dismiss 39 = .ok (.imul, 1) := dX1_dismiss_k95.2.2.2.1
theorem dX1_dismiss_40 : decode cX1_dismiss 40 = .ok (.iload_n 2, 1) := dX1_dismiss_k95.2.2.2.2.1
theorem dX1_dismiss_41 : decode cX1_dismiss 41 = .ok (.iadd, 1) := dX1_dismiss_k95.2.2.2.2.2
set_option maxRecDepth 100000 in
theorem dX1_dismiss_k96 : (decode cX1_dismiss 42 = .ok (.iconst 0, 1)) ∧ (decode cX1_dismiss 43 = .ok (.iastore, 1)) ∧ (decode cX1_dismiss 44 = .ok (.iinc 2 1, 3)) ∧ (decode cX1_dismiss 47 = .ok (.goto (-19), 3)) ∧ (decode cX1_dismiss 50 = .ok (.return_, 1)) := by decide +kernel
theorem dX1_dismiss_42 : decode cX1_dismiss 42 = .ok (.iconst 0, 1) := dX1_dismiss_k96.1
theorem dX1_dismiss_43 : decode cX1_dismiss 43 = .ok (.iastore, 1) := dX1_dismiss_k96.2.1
theorem dX1_dismiss_44 : decode cX1_dismiss 44 = .ok (.iinc 2 1, 3) := dX1_dismiss_k96.2.2.1
theorem dX1_dismiss_47 : decode cX1_dismiss 47 = .ok (.goto (-19), 3) := dX1_dismiss_k96.2.2.2.1
theorem dX1_dismiss_50 : decode cX1_dismiss 50 = .ok (.return_, 1) := dX1_dismiss_k96.2.2.2.2
set_option maxRecDepth 100000 in
theorem dX1_whyNotTalk_k97 : (decode cX1_whyNotTalk 0 = .ok (.aload_n 0, 1)) ∧ (decode cX1_whyNotTalk 1 = .ok (.iload_n 1, 1)) ∧ (decode cX1_whyNotTalk 2 = .ok (.invokevirtual 61, 3)) ∧ (decode cX1_whyNotTalk 5 = .ok (.ifCond .eq 11, 3)) ∧ (decode cX1_whyNotTalk 8 = .ok (.aload_n 0, 1)) ∧ (decode cX1_whyNotTalk 9 = .ok (.iload_n 2, 1)) := by decide +kernel
theorem dX1_whyNotTalk_0 : decode cX1_whyNotTalk 0 = .ok (.aload_n 0, 1) := dX1_whyNotTalk_k97.1
theorem dX1_whyNotTalk_1 : decode cX1_whyNotTalk 1 = .ok (.iload_n 1, 1) := dX1_whyNotTalk_k97.2.1
theorem dX1_whyNotTalk_2 : decode cX1_whyNotTalk 2 = .ok (.invokevirtual 61, 3) := dX1_whyNotTalk_k97.2.2.1
theorem dX1_whyNotTalk_5 : decode cX1_whyNotTalk 5 = .ok (.ifCond .eq 11, 3) := dX1_whyNotTalk_k97.2.2.2.1
theorem dX1_whyNotTalk_8 : decode cX1_whyNotTalk 8 = .ok (.aload_n 0, 1) := dX1_whyNotTalk_k97.2.2.2.2.1
theorem dX1_whyNotTalk_9 : decode cX1_whyNotTalk 9 = .ok (.iload_n 2, 1) := dX1_whyNotTalk_k97.2.2.2.2.2
set_option maxRecDepth 100000 in
theorem dX1_whyNotTalk_k98 : (decode cX1_whyNotTalk 10 = .ok (.invokevirtual 61, 3)) ∧ (decode cX1_whyNotTalk 13 = .ok (.ifCond .ne 5, 3)) ∧ (decode cX1_whyNotTalk 16 = .ok (.iconst 1, 1)) ∧ (decode cX1_whyNotTalk 17 = .ok (.ireturn, 1)) ∧ (decode cX1_whyNotTalk 18 = .ok (.aload_n 0, 1)) ∧ (decode cX1_whyNotTalk 19 = .ok (.getfield 21, 3)) := by decide +kernel
theorem dX1_whyNotTalk_10 : decode cX1_whyNotTalk 10 = .ok (.invokevirtual 61, 3) := dX1_whyNotTalk_k98.1
theorem dX1_whyNotTalk_13 : decode cX1_whyNotTalk 13 = .ok (.ifCond .ne 5, 3) := dX1_whyNotTalk_k98.2.1
theorem dX1_whyNotTalk_16 : decode cX1_whyNotTalk 16 = .ok (.iconst 1, 1) := dX1_whyNotTalk_k98.2.2.1
theorem dX1_whyNotTalk_17 : decode cX1_whyNotTalk 17 = .ok (.ireturn, 1) := dX1_whyNotTalk_k98.2.2.2.1
theorem dX1_whyNotTalk_18 : decode cX1_whyNotTalk 18 = .ok (.aload_n 0, 1) := dX1_whyNotTalk_k98.2.2.2.2.1
theorem dX1_whyNotTalk_19 : decode cX1_whyNotTalk 19 = .ok (.getfield 21, 3) := dX1_whyNotTalk_k98.2.2.2.2.2
set_option maxRecDepth 100000 in
theorem dX1_whyNotTalk_k99 : (decode cX1_whyNotTalk 22 = .ok (.iload_n 1, 1)) ∧ (decode cX1_whyNotTalk 23 = .ok (.iaload, 1)) ∧ (decode cX1_whyNotTalk 24 = .ok (.ifCond .ne 12, 3)) ∧ (decode cX1_whyNotTalk 27 = .ok (.aload_n 0, 1)) ∧ (decode cX1_whyNotTalk 28 = .ok (.getfield 21, 3)) ∧ (decode cX1_whyNotTalk 31 = .ok (.iload_n 2, 1)) := by decide +kernel
theorem dX1_whyNotTalk_22 : decode cX1_whyNotTalk 22 = .ok (.iload_n 1, 1) := dX1_whyNotTalk_k99.1
theorem dX1_whyNotTalk_23 : decode cX1_whyNotTalk 23 = .ok (.iaload, 1) := dX1_whyNotTalk_k99.2.1
theorem dX1_whyNotTalk_24 : decode cX1_whyNotTalk 24 = .ok (.ifCond .ne 12, 3) := dX1_whyNotTalk_k99.2.2.1
theorem dX1_whyNotTalk_27 : decode cX1_whyNotTalk 27 = .ok (.aload_n 0, 1) := dX1_whyNotTalk_k99.2.2.2.1
theorem dX1_whyNotTalk_28 : decode cX1_whyNotTalk 28 = .ok (.getfield 21, 3) := dX1_whyNotTalk_k99.2.2.2.2.1
theorem dX1_whyNotTalk_31 : decode cX1_whyNotTalk 31 = .ok (.iload_n 2, 1) := dX1_whyNotTalk_k99.2.2.2.2.2
set_option maxRecDepth 100000 in
theorem dX1_whyNotTalk_k100 : (decode cX1_whyNotTalk 32 = .ok (.iaload, 1)) ∧ (decode cX1_whyNotTalk 33 = .ok (.ifCond .eq 5, 3)) ∧ (decode cX1_whyNotTalk 36 = .ok (.iconst 2, 1)) ∧ (decode cX1_whyNotTalk 37 = .ok (.ireturn, 1)) ∧ (decode cX1_whyNotTalk 38 = .ok (.aload_n 0, 1)) ∧ (decode cX1_whyNotTalk 39 = .ok (.getfield 18, 3)) := by decide +kernel
theorem dX1_whyNotTalk_32 : decode cX1_whyNotTalk 32 = .ok (.iaload, 1) := dX1_whyNotTalk_k100.1
theorem dX1_whyNotTalk_33 : decode cX1_whyNotTalk 33 = .ok (.ifCond .eq 5, 3) := dX1_whyNotTalk_k100.2.1
theorem dX1_whyNotTalk_36 : decode cX1_whyNotTalk 36 = .ok (.iconst 2, 1) := dX1_whyNotTalk_k100.2.2.1
theorem dX1_whyNotTalk_37 : decode cX1_whyNotTalk 37 = .ok (.ireturn, 1) := dX1_whyNotTalk_k100.2.2.2.1
theorem dX1_whyNotTalk_38 : decode cX1_whyNotTalk 38 = .ok (.aload_n 0, 1) := dX1_whyNotTalk_k100.2.2.2.2.1
theorem dX1_whyNotTalk_39 : decode cX1_whyNotTalk 39 = .ok (.getfield 18, 3) := dX1_whyNotTalk_k100.2.2.2.2.2
set_option maxRecDepth 100000 in
theorem dX1_whyNotTalk_k101 : (decode cX1_whyNotTalk 42 = .ok (.iload_n 1, 1)) ∧ (decode cX1_whyNotTalk 43 = .ok (.iaload, 1)) ∧ (decode cX1_whyNotTalk 44 = .ok (.aload_n 0, 1)) ∧ (decode cX1_whyNotTalk 45 = .ok (.getfield 18, 3)) ∧ (decode cX1_whyNotTalk 48 = .ok (.iload_n 2, 1)) ∧ (decode cX1_whyNotTalk 49 = .ok (.iaload, 1)) := by decide +kernel
theorem dX1_whyNotTalk_42 : decode cX1_whyNotTalk 42 = .ok (.iload_n 1, 1) := dX1_whyNotTalk_k101.1
theorem dX1_whyNotTalk_43 : decode cX1_whyNotTalk 43 = .ok (.iaload, 1) := dX1_whyNotTalk_k101.2.1
theorem dX1_whyNotTalk_44 : decode cX1_whyNotTalk 44 = .ok (.aload_n 0, 1) := dX1_whyNotTalk_k101.2.2.1
theorem dX1_whyNotTalk_45 : decode cX1_whyNotTalk 45 = .ok (.getfield 18, 3) := dX1_whyNotTalk_k101.2.2.2.1
theorem dX1_whyNotTalk_48 : decode cX1_whyNotTalk 48 = .ok (.iload_n 2, 1) := dX1_whyNotTalk_k101.2.2.2.2.1
theorem dX1_whyNotTalk_49 : decode cX1_whyNotTalk 49 = .ok (.iaload, 1) := dX1_whyNotTalk_k101.2.2.2.2.2
set_option maxRecDepth 100000 in
theorem dX1_whyNotTalk_k102 : (decode cX1_whyNotTalk 50 = .ok (.if_icmp .eq 7, 3)) ∧ (decode cX1_whyNotTalk 53 = .ok (.iconst 3, 1)) ∧ (decode cX1_whyNotTalk 54 = .ok (.goto 4, 3)) ∧ (decode cX1_whyNotTalk 57 = .ok (.iconst 0, 1)) ∧ (decode cX1_whyNotTalk 58 = .ok (.ireturn, 1)) := by decide +kernel
theorem dX1_whyNotTalk_50 : decode cX1_whyNotTalk 50 = .ok (.if_icmp .eq 7, 3) := dX1_whyNotTalk_k102.1
theorem dX1_whyNotTalk_53 : decode cX1_whyNotTalk 53 = .ok (.iconst 3, 1) := dX1_whyNotTalk_k102.2.1
theorem dX1_whyNotTalk_54 : decode cX1_whyNotTalk 54 = .ok (.goto 4, 3) := dX1_whyNotTalk_k102.2.2.1
theorem dX1_whyNotTalk_57 : decode cX1_whyNotTalk 57 = .ok (.iconst 0, 1) := dX1_whyNotTalk_k102.2.2.2.1
theorem dX1_whyNotTalk_58 : decode cX1_whyNotTalk 58 = .ok (.ireturn, 1) := dX1_whyNotTalk_k102.2.2.2.2
set_option maxRecDepth 100000 in
theorem dX1_whyNotSit_k103 : (decode cX1_whyNotSit 0 = .ok (.aload_n 0, 1)) ∧ (decode cX1_whyNotSit 1 = .ok (.iload_n 1, 1)) ∧ (decode cX1_whyNotSit 2 = .ok (.invokevirtual 61, 3)) ∧ (decode cX1_whyNotSit 5 = .ok (.ifCond .ne 5, 3)) ∧ (decode cX1_whyNotSit 8 = .ok (.iconst 1, 1)) ∧ (decode cX1_whyNotSit 9 = .ok (.ireturn, 1)) := by decide +kernel
theorem dX1_whyNotSit_0 : decode cX1_whyNotSit 0 = .ok (.aload_n 0, 1) := dX1_whyNotSit_k103.1
theorem dX1_whyNotSit_1 : decode cX1_whyNotSit 1 = .ok (.iload_n 1, 1) := dX1_whyNotSit_k103.2.1
theorem dX1_whyNotSit_2 : decode cX1_whyNotSit 2 = .ok (.invokevirtual 61, 3) := dX1_whyNotSit_k103.2.2.1
theorem dX1_whyNotSit_5 : decode cX1_whyNotSit 5 = .ok (.ifCond .ne 5, 3) := dX1_whyNotSit_k103.2.2.2.1
theorem dX1_whyNotSit_8 : decode cX1_whyNotSit 8 = .ok (.iconst 1, 1) := dX1_whyNotSit_k103.2.2.2.2.1
theorem dX1_whyNotSit_9 : decode cX1_whyNotSit 9 = .ok (.ireturn, 1) := dX1_whyNotSit_k103.2.2.2.2.2
set_option maxRecDepth 100000 in
theorem dX1_whyNotSit_k104 : (decode cX1_whyNotSit 10 = .ok (.aload_n 0, 1)) ∧ (decode cX1_whyNotSit 11 = .ok (.getfield 21, 3)) ∧ (decode cX1_whyNotSit 14 = .ok (.iload_n 1, 1)) ∧ (decode cX1_whyNotSit 15 = .ok (.iaload, 1)) ∧ (decode cX1_whyNotSit 16 = .ok (.ifCond .eq 5, 3)) ∧ (decode cX1_whyNotSit 19 = .ok (.iconst 2, 1)) := by decide +kernel
theorem dX1_whyNotSit_10 : decode cX1_whyNotSit 10 = .ok (.aload_n 0, 1) := dX1_whyNotSit_k104.1
theorem dX1_whyNotSit_11 : decode cX1_whyNotSit 11 = .ok (.getfield 21, 3) := dX1_whyNotSit_k104.2.1
theorem dX1_whyNotSit_14 : decode cX1_whyNotSit 14 = .ok (.iload_n 1, 1) := dX1_whyNotSit_k104.2.2.1
theorem dX1_whyNotSit_15 : decode cX1_whyNotSit 15 = .ok (.iaload, 1) := dX1_whyNotSit_k104.2.2.2.1
theorem dX1_whyNotSit_16 : decode cX1_whyNotSit 16 = .ok (.ifCond .eq 5, 3) := dX1_whyNotSit_k104.2.2.2.2.1
theorem dX1_whyNotSit_19 : decode cX1_whyNotSit 19 = .ok (.iconst 2, 1) := dX1_whyNotSit_k104.2.2.2.2.2
set_option maxRecDepth 100000 in
theorem dX1_whyNotSit_k105 : (decode cX1_whyNotSit 20 = .ok (.ireturn, 1)) ∧ (decode cX1_whyNotSit 21 = .ok (.aload_n 0, 1)) ∧ (decode cX1_whyNotSit 22 = .ok (.getfield 18, 3)) ∧ (decode cX1_whyNotSit 25 = .ok (.iload_n 1, 1)) ∧ (decode cX1_whyNotSit 26 = .ok (.iaload, 1)) ∧ (decode cX1_whyNotSit 27 = .ok (.istore_n 2, 1)) := by decide +kernel
theorem dX1_whyNotSit_20 : decode cX1_whyNotSit 20 = .ok (.ireturn, 1) := dX1_whyNotSit_k105.1
theorem dX1_whyNotSit_21 : decode cX1_whyNotSit 21 = .ok (.aload_n 0, 1) := dX1_whyNotSit_k105.2.1
theorem dX1_whyNotSit_22 : decode cX1_whyNotSit 22 = .ok (.getfield 18, 3) := dX1_whyNotSit_k105.2.2.1
theorem dX1_whyNotSit_25 : decode cX1_whyNotSit 25 = .ok (.iload_n 1, 1) := dX1_whyNotSit_k105.2.2.2.1
theorem dX1_whyNotSit_26 : decode cX1_whyNotSit 26 = .ok (.iaload, 1) := dX1_whyNotSit_k105.2.2.2.2.1
theorem dX1_whyNotSit_27 : decode cX1_whyNotSit 27 = .ok (.istore_n 2, 1) := dX1_whyNotSit_k105.2.2.2.2.2
set_option maxRecDepth 100000 in
theorem dX1_whyNotSit_k106 : (decode cX1_whyNotSit 28 = .ok (.aload_n 0, 1)) ∧ (decode cX1_whyNotSit 29 = .ok (.iload_n 2, 1)) ∧ (decode cX1_whyNotSit 30 = .ok (.invokevirtual 85, 3)) ∧ (decode cX1_whyNotSit 33 = .ok (.aload_n 0, 1)) ∧ (decode cX1_whyNotSit 34 = .ok (.getfield 9, 3)) ∧ (decode cX1_whyNotSit 37 = .ok (.iload_n 2, 1)) := by decide +kernel
theorem dX1_whyNotSit_28 : decode cX1_whyNotSit 28 = .ok (.aload_n 0, 1) := dX1_whyNotSit_k106.1
theorem dX1_whyNotSit_29 : decode cX1_whyNotSit 29 = .ok (.iload_n 2, 1) := dX1_whyNotSit_k106.2.1
theorem dX1_whyNotSit_30 : decode cX1_whyNotSit 30 = .ok (.invokevirtual 85, 3) := dX1_whyNotSit_k106.2.2.1
theorem dX1_whyNotSit_33 : decode cX1_whyNotSit 33 = .ok (.aload_n 0, 1) := dX1_whyNotSit_k106.2.2.2.1
theorem dX1_whyNotSit_34 : decode cX1_whyNotSit 34 = .ok (.getfield 9, 3) := dX1_whyNotSit_k106.2.2.2.2.1
theorem dX1_whyNotSit_37 : decode cX1_whyNotSit 37 = .ok (.iload_n 2, 1) := dX1_whyNotSit_k106.2.2.2.2.2
set_option maxRecDepth 100000 in
theorem dX1_whyNotSit_k107 : (decode cX1_whyNotSit 38 = .ok (.bipush 6, 2)) ∧ (decode cX1_whyNotSit 40 = .ok (.imul, 1)) ∧ (decode cX1_whyNotSit 41 = .ok (.iconst 5, 1)) ∧ (decode cX1_whyNotSit 42 = .ok (.iadd, 1)) ∧ (decode cX1_whyNotSit 43 = .ok (.iaload, 1)) ∧ (decode cX1_whyNotSit 44 = .ok (.if_icmp .lt 7, 3)) := by decide +kernel
theorem dX1_whyNotSit_38 : decode cX1_whyNotSit 38 = .ok (.bipush 6, 2) := dX1_whyNotSit_k107.1
theorem dX1_whyNotSit_40 : decode cX1_whyNotSit 40 = .ok (.imul, 1) := dX1_whyNotSit_k107.2.1
theorem dX1_whyNotSit_41 : decode cX1_whyNotSit 41 = .ok (.iconst 5, 1) := dX1_whyNotSit_k107.2.2.1
theorem dX1_whyNotSit_42 : decode cX1_whyNotSit 42 = .ok (.iadd, 1) := dX1_whyNotSit_k107.2.2.2.1
theorem dX1_whyNotSit_43 : decode cX1_whyNotSit 43 = .ok (.iaload, 1) := dX1_whyNotSit_k107.2.2.2.2.1
theorem dX1_whyNotSit_44 : decode cX1_whyNotSit 44 = .ok (.if_icmp .lt 7, 3) := dX1_whyNotSit_k107.2.2.2.2.2
set_option maxRecDepth 100000 in
theorem dX1_whyNotSit_k108 : (decode cX1_whyNotSit 47 = .ok (.iconst 4, 1)) ∧ (decode cX1_whyNotSit 48 = .ok (.goto 4, 3)) ∧ (decode cX1_whyNotSit 51 = .ok (.iconst 0, 1)) ∧ (decode cX1_whyNotSit 52 = .ok (.ireturn, 1)) := by decide +kernel
theorem dX1_whyNotSit_47 : decode cX1_whyNotSit 47 = .ok (.iconst 4, 1) := dX1_whyNotSit_k108.1
theorem dX1_whyNotSit_48 : decode cX1_whyNotSit 48 = .ok (.goto 4, 3) := dX1_whyNotSit_k108.2.1
theorem dX1_whyNotSit_51 : decode cX1_whyNotSit 51 = .ok (.iconst 0, 1) := dX1_whyNotSit_k108.2.2.1
theorem dX1_whyNotSit_52 : decode cX1_whyNotSit 52 = .ok (.ireturn, 1) := dX1_whyNotSit_k108.2.2.2
set_option maxRecDepth 100000 in
theorem dX1_whyNotBlock_k109 : (decode cX1_whyNotBlock 0 = .ok (.aload_n 0, 1)) ∧ (decode cX1_whyNotBlock 1 = .ok (.iload_n 1, 1)) ∧ (decode cX1_whyNotBlock 2 = .ok (.invokevirtual 61, 3)) ∧ (decode cX1_whyNotBlock 5 = .ok (.ifCond .ne 5, 3)) ∧ (decode cX1_whyNotBlock 8 = .ok (.iconst 1, 1)) ∧ (decode cX1_whyNotBlock 9 = .ok (.ireturn, 1)) := by decide +kernel
theorem dX1_whyNotBlock_0 : decode cX1_whyNotBlock 0 = .ok (.aload_n 0, 1) := dX1_whyNotBlock_k109.1
theorem dX1_whyNotBlock_1 : decode cX1_whyNotBlock 1 = .ok (.iload_n 1, 1) := dX1_whyNotBlock_k109.2.1
theorem dX1_whyNotBlock_2 : decode cX1_whyNotBlock 2 = .ok (.invokevirtual 61, 3) := dX1_whyNotBlock_k109.2.2.1
theorem dX1_whyNotBlock_5 : decode cX1_whyNotBlock 5 = .ok (.ifCond .ne 5, 3) := dX1_whyNotBlock_k109.2.2.2.1
theorem dX1_whyNotBlock_8 : decode cX1_whyNotBlock 8 = .ok (.iconst 1, 1) := dX1_whyNotBlock_k109.2.2.2.2.1
theorem dX1_whyNotBlock_9 : decode cX1_whyNotBlock 9 = .ok (.ireturn, 1) := dX1_whyNotBlock_k109.2.2.2.2.2
set_option maxRecDepth 100000 in
theorem dX1_whyNotBlock_k110 : (decode cX1_whyNotBlock 10 = .ok (.aload_n 0, 1)) ∧ (decode cX1_whyNotBlock 11 = .ok (.getfield 21, 3)) ∧ (decode cX1_whyNotBlock 14 = .ok (.iload_n 1, 1)) ∧ (decode cX1_whyNotBlock 15 = .ok (.iaload, 1)) ∧ (decode cX1_whyNotBlock 16 = .ok (.ifCond .eq 5, 3)) ∧ (decode cX1_whyNotBlock 19 = .ok (.iconst 2, 1)) := by decide +kernel
theorem dX1_whyNotBlock_10 : decode cX1_whyNotBlock 10 = .ok (.aload_n 0, 1) := dX1_whyNotBlock_k110.1
theorem dX1_whyNotBlock_11 : decode cX1_whyNotBlock 11 = .ok (.getfield 21, 3) := dX1_whyNotBlock_k110.2.1
theorem dX1_whyNotBlock_14 : decode cX1_whyNotBlock 14 = .ok (.iload_n 1, 1) := dX1_whyNotBlock_k110.2.2.1
theorem dX1_whyNotBlock_15 : decode cX1_whyNotBlock 15 = .ok (.iaload, 1) := dX1_whyNotBlock_k110.2.2.2.1
theorem dX1_whyNotBlock_16 : decode cX1_whyNotBlock 16 = .ok (.ifCond .eq 5, 3) := dX1_whyNotBlock_k110.2.2.2.2.1
theorem dX1_whyNotBlock_19 : decode cX1_whyNotBlock 19 = .ok (.iconst 2, 1) := dX1_whyNotBlock_k110.2.2.2.2.2
set_option maxRecDepth 100000 in
theorem dX1_whyNotBlock_k111 : (decode cX1_whyNotBlock 20 = .ok (.ireturn, 1)) ∧ (decode cX1_whyNotBlock 21 = .ok (.aload_n 0, 1)) ∧ (decode cX1_whyNotBlock 22 = .ok (.aload_n 0, 1)) ∧ (decode cX1_whyNotBlock 23 = .ok (.getfield 18, 3)) ∧ (decode cX1_whyNotBlock 26 = .ok (.iload_n 1, 1)) ∧ (decode cX1_whyNotBlock 27 = .ok (.iaload, 1)) := by decide +kernel
theorem dX1_whyNotBlock_20 : decode cX1_whyNotBlock 20 = .ok (.ireturn, 1) := dX1_whyNotBlock_k111.1
theorem dX1_whyNotBlock_21 : decode cX1_whyNotBlock 21 = .ok (.aload_n 0, 1) := dX1_whyNotBlock_k111.2.1
theorem dX1_whyNotBlock_22 : decode cX1_whyNotBlock 22 = .ok (.aload_n 0, 1) := dX1_whyNotBlock_k111.2.2.1
theorem dX1_whyNotBlock_23 : decode cX1_whyNotBlock 23 = .ok (.getfield 18, 3) := dX1_whyNotBlock_k111.2.2.2.1
theorem dX1_whyNotBlock_26 : decode cX1_whyNotBlock 26 = .ok (.iload_n 1, 1) := dX1_whyNotBlock_k111.2.2.2.2.1
theorem dX1_whyNotBlock_27 : decode cX1_whyNotBlock 27 = .ok (.iaload, 1) := dX1_whyNotBlock_k111.2.2.2.2.2
set_option maxRecDepth 100000 in
theorem dX1_whyNotBlock_k112 : (decode cX1_whyNotBlock 28 = .ok (.iload_n 2, 1)) ∧ (decode cX1_whyNotBlock 29 = .ok (.invokevirtual 88, 3)) ∧ (decode cX1_whyNotBlock 32 = .ok (.ifCond .ne 7, 3)) ∧ (decode cX1_whyNotBlock 35 = .ok (.iconst 5, 1)) ∧ (decode cX1_whyNotBlock 36 = .ok (.goto 4, 3)) ∧ (decode cX1_whyNotBlock 39 = .ok (.iconst 0, 1)) := by decide +kernel
theorem dX1_whyNotBlock_28 : decode cX1_whyNotBlock 28 = .ok (.iload_n 2, 1) := dX1_whyNotBlock_k112.1
theorem dX1_whyNotBlock_29 : decode cX1_whyNotBlock 29 = .ok (.invokevirtual 88, 3) := dX1_whyNotBlock_k112.2.1
theorem dX1_whyNotBlock_32 : decode cX1_whyNotBlock 32 = .ok (.ifCond .ne 7, 3) := dX1_whyNotBlock_k112.2.2.1
theorem dX1_whyNotBlock_35 : decode cX1_whyNotBlock 35 = .ok (.iconst 5, 1) := dX1_whyNotBlock_k112.2.2.2.1
theorem dX1_whyNotBlock_36 : decode cX1_whyNotBlock 36 = .ok (.goto 4, 3) := dX1_whyNotBlock_k112.2.2.2.2.1
theorem dX1_whyNotBlock_39 : decode cX1_whyNotBlock 39 = .ok (.iconst 0, 1) := dX1_whyNotBlock_k112.2.2.2.2.2
theorem dX1_whyNotBlock_40 : decode cX1_whyNotBlock 40 = .ok (.ireturn, 1) := by decide +kernel
set_option maxRecDepth 100000 in
theorem dX1_whyNotRise_k113 : (decode cX1_whyNotRise 0 = .ok (.aload_n 0, 1)) ∧ (decode cX1_whyNotRise 1 = .ok (.iload_n 1, 1)) ∧ (decode cX1_whyNotRise 2 = .ok (.invokevirtual 61, 3)) ∧ (decode cX1_whyNotRise 5 = .ok (.ifCond .ne 5, 3)) ∧ (decode cX1_whyNotRise 8 = .ok (.iconst 1, 1)) ∧ (decode cX1_whyNotRise 9 = .ok (.ireturn, 1)) := by decide +kernel
theorem dX1_whyNotRise_0 : decode cX1_whyNotRise 0 = .ok (.aload_n 0, 1) := dX1_whyNotRise_k113.1
theorem dX1_whyNotRise_1 : decode cX1_whyNotRise 1 = .ok (.iload_n 1, 1) := dX1_whyNotRise_k113.2.1
theorem dX1_whyNotRise_2 : decode cX1_whyNotRise 2 = .ok (.invokevirtual 61, 3) := dX1_whyNotRise_k113.2.2.1
theorem dX1_whyNotRise_5 : decode cX1_whyNotRise 5 = .ok (.ifCond .ne 5, 3) := dX1_whyNotRise_k113.2.2.2.1
theorem dX1_whyNotRise_8 : decode cX1_whyNotRise 8 = .ok (.iconst 1, 1) := dX1_whyNotRise_k113.2.2.2.2.1
theorem dX1_whyNotRise_9 : decode cX1_whyNotRise 9 = .ok (.ireturn, 1) := dX1_whyNotRise_k113.2.2.2.2.2
set_option maxRecDepth 100000 in
theorem dX1_whyNotRise_k114 : (decode cX1_whyNotRise 10 = .ok (.aload_n 0, 1)) ∧ (decode cX1_whyNotRise 11 = .ok (.getfield 21, 3)) ∧ (decode cX1_whyNotRise 14 = .ok (.iload_n 1, 1)) ∧ (decode cX1_whyNotRise 15 = .ok (.iaload, 1)) ∧ (decode cX1_whyNotRise 16 = .ok (.ifCond .ne 7, 3)) ∧ (decode cX1_whyNotRise 19 = .ok (.iconst 2, 1)) := by decide +kernel
theorem dX1_whyNotRise_10 : decode cX1_whyNotRise 10 = .ok (.aload_n 0, 1) := dX1_whyNotRise_k114.1
theorem dX1_whyNotRise_11 : decode cX1_whyNotRise 11 = .ok (.getfield 21, 3) := dX1_whyNotRise_k114.2.1
theorem dX1_whyNotRise_14 : decode cX1_whyNotRise 14 = .ok (.iload_n 1, 1) := dX1_whyNotRise_k114.2.2.1
theorem dX1_whyNotRise_15 : decode cX1_whyNotRise 15 = .ok (.iaload, 1) := dX1_whyNotRise_k114.2.2.2.1
theorem dX1_whyNotRise_16 : decode cX1_whyNotRise 16 = .ok (.ifCond .ne 7, 3) := dX1_whyNotRise_k114.2.2.2.2.1
theorem dX1_whyNotRise_19 : decode cX1_whyNotRise 19 = .ok (.iconst 2, 1) := dX1_whyNotRise_k114.2.2.2.2.2
set_option maxRecDepth 100000 in
theorem dX1_whyNotRise_k115 : (decode cX1_whyNotRise 20 = .ok (.goto 4, 3)) ∧ (decode cX1_whyNotRise 23 = .ok (.iconst 0, 1)) ∧ (decode cX1_whyNotRise 24 = .ok (.ireturn, 1)) := by decide +kernel
theorem dX1_whyNotRise_20 : decode cX1_whyNotRise 20 = .ok (.goto 4, 3) := dX1_whyNotRise_k115.1
theorem dX1_whyNotRise_23 : decode cX1_whyNotRise 23 = .ok (.iconst 0, 1) := dX1_whyNotRise_k115.2.1
theorem dX1_whyNotRise_24 : decode cX1_whyNotRise 24 = .ok (.ireturn, 1) := dX1_whyNotRise_k115.2.2
set_option maxRecDepth 100000 in
theorem dX1_whyNotCarry_k116 : (decode cX1_whyNotCarry 0 = .ok (.aload_n 0, 1)) ∧ (decode cX1_whyNotCarry 1 = .ok (.getfield 9, 3)) ∧ (decode cX1_whyNotCarry 4 = .ok (.iload_n 1, 1)) ∧ (decode cX1_whyNotCarry 5 = .ok (.bipush 6, 2)) ∧ (decode cX1_whyNotCarry 7 = .ok (.imul, 1)) ∧ (decode cX1_whyNotCarry 8 = .ok (.iload_n 3, 1)) := by decide +kernel
theorem dX1_whyNotCarry_0 : decode cX1_whyNotCarry 0 = .ok (.aload_n 0, 1) := dX1_whyNotCarry_k116.1
theorem dX1_whyNotCarry_1 : decode cX1_whyNotCarry 1 = .ok (.getfield 9, 3) := dX1_whyNotCarry_k116.2.1
theorem dX1_whyNotCarry_4 : decode cX1_whyNotCarry 4 = .ok (.iload_n 1, 1) := dX1_whyNotCarry_k116.2.2.1
theorem dX1_whyNotCarry_5 : decode cX1_whyNotCarry 5 = .ok (.bipush 6, 2) := dX1_whyNotCarry_k116.2.2.2.1
theorem dX1_whyNotCarry_7 : decode cX1_whyNotCarry 7 = .ok (.imul, 1) := dX1_whyNotCarry_k116.2.2.2.2.1
theorem dX1_whyNotCarry_8 : decode cX1_whyNotCarry 8 = .ok (.iload_n 3, 1) := dX1_whyNotCarry_k116.2.2.2.2.2
set_option maxRecDepth 100000 in
theorem dX1_whyNotCarry_k117 : (decode cX1_whyNotCarry 9 = .ok (.iadd, 1)) ∧ (decode cX1_whyNotCarry 10 = .ok (.iaload, 1)) ∧ (decode cX1_whyNotCarry 11 = .ok (.ifCond .le 7, 3)) ∧ (decode cX1_whyNotCarry 14 = .ok (.iconst 1, 1)) ∧ (decode cX1_whyNotCarry 15 = .ok (.goto 4, 3)) ∧ (decode cX1_whyNotCarry 18 = .ok (.iconst 0, 1)) := by decide +kernel
theorem dX1_whyNotCarry_9 : decode cX1_whyNotCarry 9 = .ok (.iadd, 1) := dX1_whyNotCarry_k117.1
theorem dX1_whyNotCarry_10 : decode cX1_whyNotCarry 10 = .ok (.iaload, 1) := dX1_whyNotCarry_k117.2.1
theorem dX1_whyNotCarry_11 : decode cX1_whyNotCarry 11 = .ok (.ifCond .le 7, 3) := dX1_whyNotCarry_k117.2.2.1
theorem dX1_whyNotCarry_14 : decode cX1_whyNotCarry 14 = .ok (.iconst 1, 1) := dX1_whyNotCarry_k117.2.2.2.1
theorem dX1_whyNotCarry_15 : decode cX1_whyNotCarry 15 = .ok (.goto 4, 3) := dX1_whyNotCarry_k117.2.2.2.2.1
theorem dX1_whyNotCarry_18 : decode cX1_whyNotCarry 18 = .ok (.iconst 0, 1) := dX1_whyNotCarry_k117.2.2.2.2.2
set_option maxRecDepth 100000 in
theorem dX1_whyNotCarry_k118 : (decode cX1_whyNotCarry 19 = .ok (.istore 4, 2)) ∧ (decode cX1_whyNotCarry 21 = .ok (.aload_n 0, 1)) ∧ (decode cX1_whyNotCarry 22 = .ok (.getfield 9, 3)) ∧ (decode cX1_whyNotCarry 25 = .ok (.iload_n 2, 1)) ∧ (decode cX1_whyNotCarry 26 = .ok (.bipush 6, 2)) ∧ (decode cX1_whyNotCarry 28 = .ok (.imul, 1)) := by decide +kernel
theorem dX1_whyNotCarry_19 : decode cX1_whyNotCarry 19 = .ok (.istore 4, 2) := dX1_whyNotCarry_k118.1
theorem dX1_whyNotCarry_21 : decode cX1_whyNotCarry 21 = .ok (.aload_n 0, 1) := dX1_whyNotCarry_k118.2.1
theorem dX1_whyNotCarry_22 : decode cX1_whyNotCarry 22 = .ok (.getfield 9, 3) := dX1_whyNotCarry_k118.2.2.1
theorem dX1_whyNotCarry_25 : decode cX1_whyNotCarry 25 = .ok (.iload_n 2, 1) := dX1_whyNotCarry_k118.2.2.2.1
theorem dX1_whyNotCarry_26 : decode cX1_whyNotCarry 26 = .ok (.bipush 6, 2) := dX1_whyNotCarry_k118.2.2.2.2.1
theorem dX1_whyNotCarry_28 : decode cX1_whyNotCarry 28 = .ok (.imul, 1) := dX1_whyNotCarry_k118.2.2.2.2.2
set_option maxRecDepth 100000 in
theorem dX1_whyNotCarry_k119 : (decode cX1_whyNotCarry 29 = .ok (.iload_n 3, 1)) ∧ (decode cX1_whyNotCarry 30 = .ok (.iadd, 1)) ∧ (decode cX1_whyNotCarry 31 = .ok (.iaload, 1)) ∧ (decode cX1_whyNotCarry 32 = .ok (.bipush 9, 2)) ∧ (decode cX1_whyNotCarry 34 = .ok (.if_icmp .ge 7, 3)) ∧ (decode cX1_whyNotCarry 37 = .ok (.iconst 1, 1)) := by decide +kernel
theorem dX1_whyNotCarry_29 : decode cX1_whyNotCarry 29 = .ok (.iload_n 3, 1) := dX1_whyNotCarry_k119.1
theorem dX1_whyNotCarry_30 : decode cX1_whyNotCarry 30 = .ok (.iadd, 1) := dX1_whyNotCarry_k119.2.1
theorem dX1_whyNotCarry_31 : decode cX1_whyNotCarry 31 = .ok (.iaload, 1) := dX1_whyNotCarry_k119.2.2.1
theorem dX1_whyNotCarry_32 : decode cX1_whyNotCarry 32 = .ok (.bipush 9, 2) := dX1_whyNotCarry_k119.2.2.2.1
theorem dX1_whyNotCarry_34 : decode cX1_whyNotCarry 34 = .ok (.if_icmp .ge 7, 3) := dX1_whyNotCarry_k119.2.2.2.2.1
theorem dX1_whyNotCarry_37 : decode cX1_whyNotCarry 37 = .ok (.iconst 1, 1) := dX1_whyNotCarry_k119.2.2.2.2.2
set_option maxRecDepth 100000 in
theorem dX1_whyNotCarry_k120 : (decode cX1_whyNotCarry 38 = .ok (.goto 4, 3)) ∧ (decode cX1_whyNotCarry 41 = .ok (.iconst 0, 1)) ∧ (decode cX1_whyNotCarry 42 = .ok (.istore 5, 2)) ∧ (decode cX1_whyNotCarry 44 = .ok (.iload_n 1, 1)) ∧ (decode cX1_whyNotCarry 45 = .ok (.iload_n 2, 1)) ∧ (decode cX1_whyNotCarry 46 = .ok (.if_icmp .eq 17, 3)) := by decide +kernel
theorem dX1_whyNotCarry_38 : decode cX1_whyNotCarry 38 = .ok (.goto 4, 3) := dX1_whyNotCarry_k120.1
theorem dX1_whyNotCarry_41 : decode cX1_whyNotCarry 41 = .ok (.iconst 0, 1) := dX1_whyNotCarry_k120.2.1
theorem dX1_whyNotCarry_42 : decode cX1_whyNotCarry 42 = .ok (.istore 5, 2) := dX1_whyNotCarry_k120.2.2.1
theorem dX1_whyNotCarry_44 : decode cX1_whyNotCarry 44 = .ok (.iload_n 1, 1) := dX1_whyNotCarry_k120.2.2.2.1
theorem dX1_whyNotCarry_45 : decode cX1_whyNotCarry 45 = .ok (.iload_n 2, 1) := dX1_whyNotCarry_k120.2.2.2.2.1
theorem dX1_whyNotCarry_46 : decode cX1_whyNotCarry 46 = .ok (.if_icmp .eq 17, 3) := dX1_whyNotCarry_k120.2.2.2.2.2
set_option maxRecDepth 100000 in
theorem dX1_whyNotCarry_k121 : (decode cX1_whyNotCarry 49 = .ok (.iload 4, 2)) ∧ (decode cX1_whyNotCarry 51 = .ok (.ifCond .eq 12, 3)) ∧ (decode cX1_whyNotCarry 54 = .ok (.iload 5, 2)) ∧ (decode cX1_whyNotCarry 56 = .ok (.ifCond .eq 7, 3)) ∧ (decode cX1_whyNotCarry 59 = .ok (.iconst 0, 1)) ∧ (decode cX1_whyNotCarry 60 = .ok (.goto 5, 3)) := by decide +kernel
theorem dX1_whyNotCarry_49 : decode cX1_whyNotCarry 49 = .ok (.iload 4, 2) := dX1_whyNotCarry_k121.1
theorem dX1_whyNotCarry_51 : decode cX1_whyNotCarry 51 = .ok (.ifCond .eq 12, 3) := dX1_whyNotCarry_k121.2.1
theorem dX1_whyNotCarry_54 : decode cX1_whyNotCarry 54 = .ok (.iload 5, 2) := dX1_whyNotCarry_k121.2.2.1
theorem dX1_whyNotCarry_56 : decode cX1_whyNotCarry 56 = .ok (.ifCond .eq 7, 3) := dX1_whyNotCarry_k121.2.2.2.1
theorem dX1_whyNotCarry_59 : decode cX1_whyNotCarry 59 = .ok (.iconst 0, 1) := dX1_whyNotCarry_k121.2.2.2.2.1
theorem dX1_whyNotCarry_60 : decode cX1_whyNotCarry 60 = .ok (.goto 5, 3) := dX1_whyNotCarry_k121.2.2.2.2.2
set_option maxRecDepth 100000 in
theorem dX1_whyNotCarry_k122 : (decode cX1_whyNotCarry 63 = .ok (.bipush 6, 2)) ∧ (decode cX1_whyNotCarry 65 = .ok (.ireturn, 1)) := by decide +kernel
theorem dX1_whyNotCarry_63 : decode cX1_whyNotCarry 63 = .ok (.bipush 6, 2) := dX1_whyNotCarry_k122.1
theorem dX1_whyNotCarry_65 : decode cX1_whyNotCarry 65 = .ok (.ireturn, 1) := dX1_whyNotCarry_k122.2
set_option maxRecDepth 100000 in
theorem dX1_talk_k123 : (decode cX1_talk 0 = .ok (.aload_n 0, 1)) ∧ (decode cX1_talk 1 = .ok (.iload_n 1, 1)) ∧ (decode cX1_talk 2 = .ok (.iconst 1, 1)) ∧ (decode cX1_talk 3 = .ok (.iload_n 2, 1)) ∧ (decode cX1_talk 4 = .ok (.iload_n 3, 1)) ∧ (decode cX1_talk 5 = .ok (.invokevirtual 91, 3)) := by decide +kernel
theorem dX1_talk_0 : decode cX1_talk 0 = .ok (.aload_n 0, 1) := dX1_talk_k123.1
theorem dX1_talk_1 : decode cX1_talk 1 = .ok (.iload_n 1, 1) := dX1_talk_k123.2.1
theorem dX1_talk_2 : decode cX1_talk 2 = .ok (.iconst 1, 1) := dX1_talk_k123.2.2.1
theorem dX1_talk_3 : decode cX1_talk 3 = .ok (.iload_n 2, 1) := dX1_talk_k123.2.2.2.1
theorem dX1_talk_4 : decode cX1_talk 4 = .ok (.iload_n 3, 1) := dX1_talk_k123.2.2.2.2.1
theorem dX1_talk_5 : decode cX1_talk 5 = .ok (.invokevirtual 91, 3) := dX1_talk_k123.2.2.2.2.2
set_option maxRecDepth 100000 in
theorem dX1_talk_k124 : (decode cX1_talk 8 = .ok (.aload_n 0, 1)) ∧ (decode cX1_talk 9 = .ok (.iload_n 2, 1)) ∧ (decode cX1_talk 10 = .ok (.iconst 1, 1)) ∧ (decode cX1_talk 11 = .ok (.iload_n 1, 1)) ∧ (decode cX1_talk 12 = .ok (.iload_n 3, 1)) ∧ (decode cX1_talk 13 = .ok (.invokevirtual 91, 3)) := by decide +kernel
theorem dX1_talk_8 : decode cX1_talk 8 = .ok (.aload_n 0, 1) := dX1_talk_k124.1
theorem dX1_talk_9 : decode cX1_talk 9 = .ok (.iload_n 2, 1) := dX1_talk_k124.2.1
theorem dX1_talk_10 : decode cX1_talk 10 = .ok (.iconst 1, 1) := dX1_talk_k124.2.2.1
theorem dX1_talk_11 : decode cX1_talk 11 = .ok (.iload_n 1, 1) := dX1_talk_k124.2.2.2.1
theorem dX1_talk_12 : decode cX1_talk 12 = .ok (.iload_n 3, 1) := dX1_talk_k124.2.2.2.2.1
theorem dX1_talk_13 : decode cX1_talk 13 = .ok (.invokevirtual 91, 3) := dX1_talk_k124.2.2.2.2.2
theorem dX1_talk_16 : decode cX1_talk 16 = .ok (.return_, 1) := by decide +kernel
set_option maxRecDepth 100000 in
theorem dX1_sit_k125 : (decode cX1_sit 0 = .ok (.aload_n 0, 1)) ∧ (decode cX1_sit 1 = .ok (.iload_n 1, 1)) ∧ (decode cX1_sit 2 = .ok (.iconst 2, 1)) ∧ (decode cX1_sit 3 = .ok (.bipush (-6), 2)) ∧ (decode cX1_sit 5 = .ok (.iconst 0, 1)) ∧ (decode cX1_sit 6 = .ok (.invokevirtual 91, 3)) := by decide +kernel
theorem dX1_sit_0 : decode cX1_sit 0 = .ok (.aload_n 0, 1) := dX1_sit_k125.1
theorem dX1_sit_1 : decode cX1_sit 1 = .ok (.iload_n 1, 1) := dX1_sit_k125.2.1
theorem dX1_sit_2 : decode cX1_sit 2 = .ok (.iconst 2, 1) := dX1_sit_k125.2.2.1
theorem dX1_sit_3 : decode cX1_sit 3 = .ok (.bipush (-6), 2) := dX1_sit_k125.2.2.2.1
theorem dX1_sit_5 : decode cX1_sit 5 = .ok (.iconst 0, 1) := dX1_sit_k125.2.2.2.2.1
theorem dX1_sit_6 : decode cX1_sit 6 = .ok (.invokevirtual 91, 3) := dX1_sit_k125.2.2.2.2.2
theorem dX1_sit_9 : decode cX1_sit 9 = .ok (.return_, 1) := by decide +kernel
set_option maxRecDepth 100000 in
theorem dX1_block_k126 : (decode cX1_block 0 = .ok (.aload_n 0, 1)) ∧ (decode cX1_block 1 = .ok (.iload_n 1, 1)) ∧ (decode cX1_block 2 = .ok (.iconst 3, 1)) ∧ (decode cX1_block 3 = .ok (.iload_n 2, 1)) ∧ (decode cX1_block 4 = .ok (.iconst 0, 1)) ∧ (decode cX1_block 5 = .ok (.invokevirtual 91, 3)) := by decide +kernel
theorem dX1_block_0 : decode cX1_block 0 = .ok (.aload_n 0, 1) := dX1_block_k126.1
theorem dX1_block_1 : decode cX1_block 1 = .ok (.iload_n 1, 1) := dX1_block_k126.2.1
theorem dX1_block_2 : decode cX1_block 2 = .ok (.iconst 3, 1) := dX1_block_k126.2.2.1
theorem dX1_block_3 : decode cX1_block 3 = .ok (.iload_n 2, 1) := dX1_block_k126.2.2.2.1
theorem dX1_block_4 : decode cX1_block 4 = .ok (.iconst 0, 1) := dX1_block_k126.2.2.2.2.1
theorem dX1_block_5 : decode cX1_block 5 = .ok (.invokevirtual 91, 3) := dX1_block_k126.2.2.2.2.2
theorem dX1_block_8 : decode cX1_block 8 = .ok (.return_, 1) := by decide +kernel
set_option maxRecDepth 100000 in
theorem dX1_rise_k127 : (decode cX1_rise 0 = .ok (.aload_n 0, 1)) ∧ (decode cX1_rise 1 = .ok (.getfield 24, 3)) ∧ (decode cX1_rise 4 = .ok (.iload_n 1, 1)) ∧ (decode cX1_rise 5 = .ok (.iaload, 1)) ∧ (decode cX1_rise 6 = .ok (.istore_n 2, 1)) ∧ (decode cX1_rise 7 = .ok (.aload_n 0, 1)) := by decide +kernel
theorem dX1_rise_0 : decode cX1_rise 0 = .ok (.aload_n 0, 1) := dX1_rise_k127.1
theorem dX1_rise_1 : decode cX1_rise 1 = .ok (.getfield 24, 3) := dX1_rise_k127.2.1
theorem dX1_rise_4 : decode cX1_rise 4 = .ok (.iload_n 1, 1) := dX1_rise_k127.2.2.1
theorem dX1_rise_5 : decode cX1_rise 5 = .ok (.iaload, 1) := dX1_rise_k127.2.2.2.1
theorem dX1_rise_6 : decode cX1_rise 6 = .ok (.istore_n 2, 1) := dX1_rise_k127.2.2.2.2.1
theorem dX1_rise_7 : decode cX1_rise 7 = .ok (.aload_n 0, 1) := dX1_rise_k127.2.2.2.2.2
set_option maxRecDepth 100000 in
theorem dX1_rise_k128 : (decode cX1_rise 8 = .ok (.getfield 21, 3)) ∧ (decode cX1_rise 11 = .ok (.iload_n 1, 1)) ∧ (decode cX1_rise 12 = .ok (.iaload, 1)) ∧ (decode cX1_rise 13 = .ok (.iconst 1, 1)) ∧ (decode cX1_rise 14 = .ok (.if_icmp .ne 20, 3)) ∧ (decode cX1_rise 17 = .ok (.aload_n 0, 1)) := by decide +kernel
theorem dX1_rise_8 : decode cX1_rise 8 = .ok (.getfield 21, 3) := dX1_rise_k128.1
theorem dX1_rise_11 : decode cX1_rise 11 = .ok (.iload_n 1, 1) := dX1_rise_k128.2.1
theorem dX1_rise_12 : decode cX1_rise 12 = .ok (.iaload, 1) := dX1_rise_k128.2.2.1
theorem dX1_rise_13 : decode cX1_rise 13 = .ok (.iconst 1, 1) := dX1_rise_k128.2.2.2.1
theorem dX1_rise_14 : decode cX1_rise 14 = .ok (.if_icmp .ne 20, 3) := dX1_rise_k128.2.2.2.2.1
theorem dX1_rise_17 : decode cX1_rise 17 = .ok (.aload_n 0, 1) := dX1_rise_k128.2.2.2.2.2
set_option maxRecDepth 100000 in
theorem dX1_rise_k129 : (decode cX1_rise 18 = .ok (.iload_n 2, 1)) ∧ (decode cX1_rise 19 = .ok (.invokevirtual 61, 3)) ∧ (decode cX1_rise 22 = .ok (.ifCond .eq 12, 3)) ∧ (decode cX1_rise 25 = .ok (.aload_n 0, 1)) ∧ (decode cX1_rise 26 = .ok (.iload_n 2, 1)) ∧ (decode cX1_rise 27 = .ok (.iconst 0, 1)) := by decide +kernel
theorem dX1_rise_18 : decode cX1_rise 18 = .ok (.iload_n 2, 1) := dX1_rise_k129.1
theorem dX1_rise_19 : decode cX1_rise 19 = .ok (.invokevirtual 61, 3) := dX1_rise_k129.2.1
theorem dX1_rise_22 : decode cX1_rise 22 = .ok (.ifCond .eq 12, 3) := dX1_rise_k129.2.2.1
theorem dX1_rise_25 : decode cX1_rise 25 = .ok (.aload_n 0, 1) := dX1_rise_k129.2.2.2.1
theorem dX1_rise_26 : decode cX1_rise 26 = .ok (.iload_n 2, 1) := dX1_rise_k129.2.2.2.2.1
theorem dX1_rise_27 : decode cX1_rise 27 = .ok (.iconst 0, 1) := dX1_rise_k129.2.2.2.2.2
set_option maxRecDepth 100000 in
theorem dX1_rise_k130 : (decode cX1_rise 28 = .ok (.bipush (-6), 2)) ∧ (decode cX1_rise 30 = .ok (.iconst 0, 1)) ∧ (decode cX1_rise 31 = .ok (.invokevirtual 91, 3)) ∧ (decode cX1_rise 34 = .ok (.aload_n 0, 1)) ∧ (decode cX1_rise 35 = .ok (.iload_n 1, 1)) ∧ (decode cX1_rise 36 = .ok (.iconst 0, 1)) := by decide +kernel
theorem dX1_rise_28 : decode cX1_rise 28 = .ok (.bipush (-6), 2) := dX1_rise_k130.1
theorem dX1_rise_30 : decode cX1_rise 30 = .ok (.iconst 0, 1) := dX1_rise_k130.2.1
theorem dX1_rise_31 : decode cX1_rise 31 = .ok (.invokevirtual 91, 3) := dX1_rise_k130.2.2.1
theorem dX1_rise_34 : decode cX1_rise 34 = .ok (.aload_n 0, 1) := dX1_rise_k130.2.2.2.1
theorem dX1_rise_35 : decode cX1_rise 35 = .ok (.iload_n 1, 1) := dX1_rise_k130.2.2.2.2.1
theorem dX1_rise_36 : decode cX1_rise 36 = .ok (.iconst 0, 1) := dX1_rise_k130.2.2.2.2.2
set_option maxRecDepth 100000 in
theorem dX1_rise_k131 : (decode cX1_rise 37 = .ok (.bipush (-6), 2)) ∧ (decode cX1_rise 39 = .ok (.iconst 0, 1)) ∧ (decode cX1_rise 40 = .ok (.invokevirtual 91, 3)) ∧ (decode cX1_rise 43 = .ok (.return_, 1)) := by decide +kernel
theorem dX1_rise_37 : decode cX1_rise 37 = .ok (.bipush (-6), 2) := dX1_rise_k131.1
theorem dX1_rise_39 : decode cX1_rise 39 = .ok (.iconst 0, 1) := dX1_rise_k131.2.1
theorem dX1_rise_40 : decode cX1_rise 40 = .ok (.invokevirtual 91, 3) := dX1_rise_k131.2.2.1
theorem dX1_rise_43 : decode cX1_rise 43 = .ok (.return_, 1) := dX1_rise_k131.2.2.2
set_option maxRecDepth 100000 in
theorem dX1_carry_k132 : (decode cX1_carry 0 = .ok (.aload_n 0, 1)) ∧ (decode cX1_carry 1 = .ok (.getfield 9, 3)) ∧ (decode cX1_carry 4 = .ok (.iload_n 1, 1)) ∧ (decode cX1_carry 5 = .ok (.bipush 6, 2)) ∧ (decode cX1_carry 7 = .ok (.imul, 1)) ∧ (decode cX1_carry 8 = .ok (.iload_n 3, 1)) := by decide +kernel
theorem dX1_carry_0 : decode cX1_carry 0 = .ok (.aload_n 0, 1) := dX1_carry_k132.1
theorem dX1_carry_1 : decode cX1_carry 1 = .ok (.getfield 9, 3) := dX1_carry_k132.2.1
theorem dX1_carry_4 : decode cX1_carry 4 = .ok (.iload_n 1, 1) := dX1_carry_k132.2.2.1
theorem dX1_carry_5 : decode cX1_carry 5 = .ok (.bipush 6, 2) := dX1_carry_k132.2.2.2.1
theorem dX1_carry_7 : decode cX1_carry 7 = .ok (.imul, 1) := dX1_carry_k132.2.2.2.2.1
theorem dX1_carry_8 : decode cX1_carry 8 = .ok (.iload_n 3, 1) := dX1_carry_k132.2.2.2.2.2
set_option maxRecDepth 100000 in
theorem dX1_carry_k133 : (decode cX1_carry 9 = .ok (.iadd, 1)) ∧ (decode cX1_carry 10 = .ok (.dup2, 1)) ∧ (decode cX1_carry 11 = .ok (.iaload, 1)) ∧ (decode cX1_carry 12 = .ok (.iconst 1, 1)) ∧ (decode cX1_carry 13 = .ok (.isub, 1)) ∧ (decode cX1_carry 14 = .ok (.iastore, 1)) := by decide +kernel
theorem dX1_carry_9 : decode cX1_carry 9 = .ok (.iadd, 1) := dX1_carry_k133.1
theorem dX1_carry_10 : decode cX1_carry 10 = .ok (.dup2, 1) := dX1_carry_k133.2.1
theorem dX1_carry_11 : decode cX1_carry 11 = .ok (.iaload, 1) := dX1_carry_k133.2.2.1
theorem dX1_carry_12 : decode cX1_carry 12 = .ok (.iconst 1, 1) := dX1_carry_k133.2.2.2.1
theorem dX1_carry_13 : decode cX1_carry 13 = .ok (.isub, 1) := dX1_carry_k133.2.2.2.2.1
theorem dX1_carry_14 : decode cX1_carry 14 = .ok (.iastore, 1) := dX1_carry_k133.2.2.2.2.2
set_option maxRecDepth 100000 in
theorem dX1_carry_k134 : (decode cX1_carry 15 = .ok (.aload_n 0, 1)) ∧ (decode cX1_carry 16 = .ok (.getfield 9, 3)) ∧ (decode cX1_carry 19 = .ok (.iload_n 2, 1)) ∧ (decode cX1_carry 20 = .ok (.bipush 6, 2)) ∧ (decode cX1_carry 22 = .ok (.imul, 1)) ∧ (decode cX1_carry 23 = .ok (.iload_n 3, 1)) := by decide +kernel
theorem dX1_carry_15 : decode cX1_carry 15 = .ok (.aload_n 0, 1) := dX1_carry_k134.1
theorem dX1_carry_16 : decode cX1_carry 16 = .ok (.getfield 9, 3) := dX1_carry_k134.2.1
theorem dX1_carry_19 : decode cX1_carry 19 = .ok (.iload_n 2, 1) := dX1_carry_k134.2.2.1
theorem dX1_carry_20 : decode cX1_carry 20 = .ok (.bipush 6, 2) := dX1_carry_k134.2.2.2.1
theorem dX1_carry_22 : decode cX1_carry 22 = .ok (.imul, 1) := dX1_carry_k134.2.2.2.2.1
theorem dX1_carry_23 : decode cX1_carry 23 = .ok (.iload_n 3, 1) := dX1_carry_k134.2.2.2.2.2
set_option maxRecDepth 100000 in
theorem dX1_carry_k135 : (decode cX1_carry 24 = .ok (.iadd, 1)) ∧ (decode cX1_carry 25 = .ok (.dup2, 1)) ∧ (decode cX1_carry 26 = .ok (.iaload, 1)) ∧ (decode cX1_carry 27 = .ok (.iconst 1, 1)) ∧ (decode cX1_carry 28 = .ok (.iadd, 1)) ∧ (decode cX1_carry 29 = .ok (.iastore, 1)) := by decide +kernel
theorem dX1_carry_24 : decode cX1_carry 24 = .ok (.iadd, 1) := dX1_carry_k135.1
theorem dX1_carry_25 : decode cX1_carry 25 = .ok (.dup2, 1) := dX1_carry_k135.2.1
theorem dX1_carry_26 : decode cX1_carry 26 = .ok (.iaload, 1) := dX1_carry_k135.2.2.1
theorem dX1_carry_27 : decode cX1_carry 27 = .ok (.iconst 1, 1) := dX1_carry_k135.2.2.2.1
theorem dX1_carry_28 : decode cX1_carry 28 = .ok (.iadd, 1) := dX1_carry_k135.2.2.2.2.1
theorem dX1_carry_29 : decode cX1_carry 29 = .ok (.iastore, 1) := dX1_carry_k135.2.2.2.2.2
theorem dX1_carry_30 : decode cX1_carry 30 = .ok (.return_, 1) := by decide +kernel
set_option maxRecDepth 100000 in
theorem dX1_talkOn_k136 : (decode cX1_talkOn 0 = .ok (.iconst 0, 1)) ∧ (decode cX1_talkOn 1 = .ok (.istore_n 1, 1)) ∧ (decode cX1_talkOn 2 = .ok (.iload_n 1, 1)) ∧ (decode cX1_talkOn 3 = .ok (.bipush 8, 2)) ∧ (decode cX1_talkOn 5 = .ok (.if_icmp .ge 47, 3)) ∧ (decode cX1_talkOn 8 = .ok (.aload_n 0, 1)) := by decide +kernel
theorem dX1_talkOn_0 : decode cX1_talkOn 0 = .ok (.iconst 0, 1) := dX1_talkOn_k136.1
theorem dX1_talkOn_1 : decode cX1_talkOn 1 = .ok (.istore_n 1, 1) := dX1_talkOn_k136.2.1
theorem dX1_talkOn_2 : decode cX1_talkOn 2 = .ok (.iload_n 1, 1) := dX1_talkOn_k136.2.2.1
theorem dX1_talkOn_3 : decode cX1_talkOn 3 = .ok (.bipush 8, 2) := dX1_talkOn_k136.2.2.2.1
theorem dX1_talkOn_5 : decode cX1_talkOn 5 = .ok (.if_icmp .ge 47, 3) := dX1_talkOn_k136.2.2.2.2.1
theorem dX1_talkOn_8 : decode cX1_talkOn 8 = .ok (.aload_n 0, 1) := dX1_talkOn_k136.2.2.2.2.2
set_option maxRecDepth 100000 in
theorem dX1_talkOn_k137 : (decode cX1_talkOn 9 = .ok (.getfield 21, 3)) ∧ (decode cX1_talkOn 12 = .ok (.iload_n 1, 1)) ∧ (decode cX1_talkOn 13 = .ok (.iaload, 1)) ∧ (decode cX1_talkOn 14 = .ok (.iconst 1, 1)) ∧ (decode cX1_talkOn 15 = .ok (.if_icmp .ne 31, 3)) ∧ (decode cX1_talkOn 18 = .ok (.aload_n 0, 1)) := by decide +kernel
theorem dX1_talkOn_9 : decode cX1_talkOn 9 = .ok (.getfield 21, 3) := dX1_talkOn_k137.1
theorem dX1_talkOn_12 : decode cX1_talkOn 12 = .ok (.iload_n 1, 1) := dX1_talkOn_k137.2.1
theorem dX1_talkOn_13 : decode cX1_talkOn 13 = .ok (.iaload, 1) := dX1_talkOn_k137.2.2.1
theorem dX1_talkOn_14 : decode cX1_talkOn 14 = .ok (.iconst 1, 1) := dX1_talkOn_k137.2.2.2.1
theorem dX1_talkOn_15 : decode cX1_talkOn 15 = .ok (.if_icmp .ne 31, 3) := dX1_talkOn_k137.2.2.2.2.1
theorem dX1_talkOn_18 : decode cX1_talkOn 18 = .ok (.aload_n 0, 1) := dX1_talkOn_k137.2.2.2.2.2
set_option maxRecDepth 100000 in
theorem dX1_talkOn_k138 : (decode cX1_talkOn 19 = .ok (.getfield 27, 3)) ∧ (decode cX1_talkOn 22 = .ok (.iload_n 1, 1)) ∧ (decode cX1_talkOn 23 = .ok (.dup2, 1)) ∧ (decode cX1_talkOn 24 = .ok (.iaload, 1)) ∧ (decode cX1_talkOn 25 = .ok (.iconst 1, 1)) ∧ (decode cX1_talkOn 26 = .ok (.isub, 1)) := by decide +kernel
theorem dX1_talkOn_19 : decode cX1_talkOn 19 = .ok (.getfield 27, 3) := dX1_talkOn_k138.1
theorem dX1_talkOn_22 : decode cX1_talkOn 22 = .ok (.iload_n 1, 1) := dX1_talkOn_k138.2.1
theorem dX1_talkOn_23 : decode cX1_talkOn 23 = .ok (.dup2, 1) := dX1_talkOn_k138.2.2.1
theorem dX1_talkOn_24 : decode cX1_talkOn 24 = .ok (.iaload, 1) := dX1_talkOn_k138.2.2.2.1
theorem dX1_talkOn_25 : decode cX1_talkOn 25 = .ok (.iconst 1, 1) := dX1_talkOn_k138.2.2.2.2.1
theorem dX1_talkOn_26 : decode cX1_talkOn 26 = .ok (.isub, 1) := dX1_talkOn_k138.2.2.2.2.2
set_option maxRecDepth 100000 in
theorem dX1_talkOn_k139 : (decode cX1_talkOn 27 = .ok (.iastore, 1)) ∧ (decode cX1_talkOn 28 = .ok (.aload_n 0, 1)) ∧ (decode cX1_talkOn 29 = .ok (.getfield 27, 3)) ∧ (decode cX1_talkOn 32 = .ok (.iload_n 1, 1)) ∧ (decode cX1_talkOn 33 = .ok (.iaload, 1)) ∧ (decode cX1_talkOn 34 = .ok (.ifCond .gt 12, 3)) := by decide +kernel
theorem dX1_talkOn_27 : decode cX1_talkOn 27 = .ok (.iastore, 1) := dX1_talkOn_k139.1
theorem dX1_talkOn_28 : decode cX1_talkOn 28 = .ok (.aload_n 0, 1) := dX1_talkOn_k139.2.1
theorem dX1_talkOn_29 : decode cX1_talkOn 29 = .ok (.getfield 27, 3) := dX1_talkOn_k139.2.2.1
theorem dX1_talkOn_32 : decode cX1_talkOn 32 = .ok (.iload_n 1, 1) := dX1_talkOn_k139.2.2.2.1
theorem dX1_talkOn_33 : decode cX1_talkOn 33 = .ok (.iaload, 1) := dX1_talkOn_k139.2.2.2.2.1
theorem dX1_talkOn_34 : decode cX1_talkOn 34 = .ok (.ifCond .gt 12, 3) := dX1_talkOn_k139.2.2.2.2.2
set_option maxRecDepth 100000 in
theorem dX1_talkOn_k140 : (decode cX1_talkOn 37 = .ok (.aload_n 0, 1)) ∧ (decode cX1_talkOn 38 = .ok (.iload_n 1, 1)) ∧ (decode cX1_talkOn 39 = .ok (.iconst 0, 1)) ∧ (decode cX1_talkOn 40 = .ok (.bipush (-6), 2)) ∧ (decode cX1_talkOn 42 = .ok (.iconst 0, 1)) ∧ (decode cX1_talkOn 43 = .ok (.invokevirtual 91, 3)) := by decide +kernel
theorem dX1_talkOn_37 : decode cX1_talkOn 37 = .ok (.aload_n 0, 1) := dX1_talkOn_k140.1
theorem dX1_talkOn_38 : decode cX1_talkOn 38 = .ok (.iload_n 1, 1) := dX1_talkOn_k140.2.1
theorem dX1_talkOn_39 : decode cX1_talkOn 39 = .ok (.iconst 0, 1) := dX1_talkOn_k140.2.2.1
theorem dX1_talkOn_40 : decode cX1_talkOn 40 = .ok (.bipush (-6), 2) := dX1_talkOn_k140.2.2.2.1
theorem dX1_talkOn_42 : decode cX1_talkOn 42 = .ok (.iconst 0, 1) := dX1_talkOn_k140.2.2.2.2.1
theorem dX1_talkOn_43 : decode cX1_talkOn 43 = .ok (.invokevirtual 91, 3) := dX1_talkOn_k140.2.2.2.2.2
set_option maxRecDepth 100000 in
theorem dX1_talkOn_k141 : (decode cX1_talkOn 46 = .ok (.iinc 1 1, 3)) ∧ (decode cX1_talkOn 49 = .ok (.goto (-47), 3)) ∧ (decode cX1_talkOn 52 = .ok (.return_, 1)) := by decide +kernel
theorem dX1_talkOn_46 : decode cX1_talkOn 46 = .ok (.iinc 1 1, 3) := dX1_talkOn_k141.1
theorem dX1_talkOn_49 : decode cX1_talkOn 49 = .ok (.goto (-47), 3) := dX1_talkOn_k141.2.1
theorem dX1_talkOn_52 : decode cX1_talkOn 52 = .ok (.return_, 1) := dX1_talkOn_k141.2.2
set_option maxRecDepth 100000 in
theorem dX1_engage_k142 : (decode cX1_engage 0 = .ok (.aload_n 0, 1)) ∧ (decode cX1_engage 1 = .ok (.getfield 21, 3)) ∧ (decode cX1_engage 4 = .ok (.iload_n 1, 1)) ∧ (decode cX1_engage 5 = .ok (.iload_n 2, 1)) ∧ (decode cX1_engage 6 = .ok (.iastore, 1)) ∧ (decode cX1_engage 7 = .ok (.aload_n 0, 1)) := by decide +kernel
theorem dX1_engage_0 : decode cX1_engage 0 = .ok (.aload_n 0, 1) := dX1_engage_k142.1
theorem dX1_engage_1 : decode cX1_engage 1 = .ok (.getfield 21, 3) := dX1_engage_k142.2.1
theorem dX1_engage_4 : decode cX1_engage 4 = .ok (.iload_n 1, 1) := dX1_engage_k142.2.2.1
theorem dX1_engage_5 : decode cX1_engage 5 = .ok (.iload_n 2, 1) := dX1_engage_k142.2.2.2.1
theorem dX1_engage_6 : decode cX1_engage 6 = .ok (.iastore, 1) := dX1_engage_k142.2.2.2.2.1
theorem dX1_engage_7 : decode cX1_engage 7 = .ok (.aload_n 0, 1) := dX1_engage_k142.2.2.2.2.2
set_option maxRecDepth 100000 in
theorem dX1_engage_k143 : (decode cX1_engage 8 = .ok (.getfield 24, 3)) ∧ (decode cX1_engage 11 = .ok (.iload_n 1, 1)) ∧ (decode cX1_engage 12 = .ok (.iload_n 3, 1)) ∧ (decode cX1_engage 13 = .ok (.iastore, 1)) ∧ (decode cX1_engage 14 = .ok (.aload_n 0, 1)) ∧ (decode cX1_engage 15 = .ok (.getfield 27, 3)) := by decide +kernel
theorem dX1_engage_8 : decode cX1_engage 8 = .ok (.getfield 24, 3) := dX1_engage_k143.1
theorem dX1_engage_11 : decode cX1_engage 11 = .ok (.iload_n 1, 1) := dX1_engage_k143.2.1
theorem dX1_engage_12 : decode cX1_engage 12 = .ok (.iload_n 3, 1) := dX1_engage_k143.2.2.1
theorem dX1_engage_13 : decode cX1_engage 13 = .ok (.iastore, 1) := dX1_engage_k143.2.2.2.1
theorem dX1_engage_14 : decode cX1_engage 14 = .ok (.aload_n 0, 1) := dX1_engage_k143.2.2.2.2.1
theorem dX1_engage_15 : decode cX1_engage 15 = .ok (.getfield 27, 3) := dX1_engage_k143.2.2.2.2.2
set_option maxRecDepth 100000 in
theorem dX1_engage_k144 : (decode cX1_engage 18 = .ok (.iload_n 1, 1)) ∧ (decode cX1_engage 19 = .ok (.iload 4, 2)) ∧ (decode cX1_engage 21 = .ok (.iastore, 1)) ∧ (decode cX1_engage 22 = .ok (.return_, 1)) := by decide +kernel
theorem dX1_engage_18 : decode cX1_engage 18 = .ok (.iload_n 1, 1) := dX1_engage_k144.1
theorem dX1_engage_19 : decode cX1_engage 19 = .ok (.iload 4, 2) := dX1_engage_k144.2.1
theorem dX1_engage_21 : decode cX1_engage 21 = .ok (.iastore, 1) := dX1_engage_k144.2.2.1
theorem dX1_engage_22 : decode cX1_engage 22 = .ok (.return_, 1) := dX1_engage_k144.2.2.2
