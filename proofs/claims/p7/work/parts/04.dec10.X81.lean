set_option maxRecDepth 100000 in
theorem dX8_tastes_k0 : (decode cX8_tastes 41 = .ok (.iload 4, 2)) ∧ (decode cX8_tastes 43 = .ok (.bipush 6, 2)) ∧ (decode cX8_tastes 45 = .ok (.if_icmp .gt 62, 3)) ∧ (decode cX8_tastes 48 = .ok (.aload_n 0, 1)) ∧ (decode cX8_tastes 49 = .ok (.getfield 34, 3)) ∧ (decode cX8_tastes 52 = .ok (.getfield 159, 3)) := by decide +kernel
theorem dX8_tastes_41 : decode cX8_tastes 41 = .ok (.iload 4, 2) := dX8_tastes_k0.1
theorem dX8_tastes_43 : decode cX8_tastes 43 = .ok (.bipush 6, 2) := dX8_tastes_k0.2.1
theorem dX8_tastes_45 : decode cX8_tastes 45 = .ok (.if_icmp .gt 62, 3) := dX8_tastes_k0.2.2.1
theorem dX8_tastes_48 : decode cX8_tastes 48 = .ok (.aload_n 0, 1) := dX8_tastes_k0.2.2.2.1
theorem dX8_tastes_49 : decode cX8_tastes 49 = .ok (.getfield 34, 3) := dX8_tastes_k0.2.2.2.2.1
theorem dX8_tastes_52 : decode cX8_tastes 52 = .ok (.getfield 159, 3) := dX8_tastes_k0.2.2.2.2.2
set_option maxRecDepth 100000 in
theorem dX8_tastes_k1 : (decode cX8_tastes 55 = .ok (.getfield 133, 3)) ∧ (decode cX8_tastes 58 = .ok (.iload_n 1, 1)) ∧ (decode cX8_tastes 59 = .ok (.iconst 5, 1)) ∧ (decode cX8_tastes 60 = .ok (.imul, 1)) ∧ (decode cX8_tastes 61 = .ok (.iload_n 2, 1)) ∧ (decode cX8_tastes 62 = .ok (.iadd, 1)) := by decide +kernel
theorem dX8_tastes_55 : decode cX8_tastes 55 = .ok (.getfield 133, 3) := dX8_tastes_k1.1
theorem dX8_tastes_58 : decode cX8_tastes 58 = .ok (.iload_n 1, 1) := dX8_tastes_k1.2.1
theorem dX8_tastes_59 : decode cX8_tastes 59 = .ok (.iconst 5, 1) := dX8_tastes_k1.2.2.1
theorem dX8_tastes_60 : decode cX8_tastes 60 = .ok (.imul, 1) := dX8_tastes_k1.2.2.2.1
theorem dX8_tastes_61 : decode cX8_tastes 61 = .ok (.iload_n 2, 1) := dX8_tastes_k1.2.2.2.2.1
theorem dX8_tastes_62 : decode cX8_tastes 62 = .ok (.iadd, 1) := dX8_tastes_k1.2.2.2.2.2
set_option maxRecDepth 100000 in
theorem dX8_tastes_k2 : (decode cX8_tastes 63 = .ok (.iload 4, 2)) ∧ (decode cX8_tastes 65 = .ok (.iconst 3, 1)) ∧ (decode cX8_tastes 66 = .ok (.isub, 1)) ∧ (decode cX8_tastes 67 = .ok (.iastore, 1)) ∧ (decode cX8_tastes 68 = .ok (.aload_n 0, 1)) ∧ (decode cX8_tastes 69 = .ok (.getfield 34, 3)) := by decide +kernel
theorem dX8_tastes_63 : decode cX8_tastes 63 = .ok (.iload 4, 2) := dX8_tastes_k2.1
theorem dX8_tastes_65 : decode cX8_tastes 65 = .ok (.iconst 3, 1) := dX8_tastes_k2.2.1
theorem dX8_tastes_66 : decode cX8_tastes 66 = .ok (.isub, 1) := dX8_tastes_k2.2.2.1
theorem dX8_tastes_67 : decode cX8_tastes 67 = .ok (.iastore, 1) := dX8_tastes_k2.2.2.2.1
theorem dX8_tastes_68 : decode cX8_tastes 68 = .ok (.aload_n 0, 1) := dX8_tastes_k2.2.2.2.2.1
theorem dX8_tastes_69 : decode cX8_tastes 69 = .ok (.getfield 34, 3) := dX8_tastes_k2.2.2.2.2.2
set_option maxRecDepth 100000 in
theorem dX8_tastes_k3 : (decode cX8_tastes 72 = .ok (.invokevirtual 259, 3)) ∧ (decode cX8_tastes 75 = .ok (.aload_n 0, 1)) ∧ (decode cX8_tastes 76 = .ok (.getfield 10, 3)) ∧ (decode cX8_tastes 79 = .ok (.iload_n 1, 1)) ∧ (decode cX8_tastes 80 = .ok (.aload_n 0, 1)) ∧ (decode cX8_tastes 81 = .ok (.getfield 34, 3)) := by decide +kernel
theorem dX8_tastes_72 : decode cX8_tastes 72 = .ok (.invokevirtual 259, 3) := dX8_tastes_k3.1
theorem dX8_tastes_75 : decode cX8_tastes 75 = .ok (.aload_n 0, 1) := dX8_tastes_k3.2.1
theorem dX8_tastes_76 : decode cX8_tastes 76 = .ok (.getfield 10, 3) := dX8_tastes_k3.2.2.1
theorem dX8_tastes_79 : decode cX8_tastes 79 = .ok (.iload_n 1, 1) := dX8_tastes_k3.2.2.2.1
theorem dX8_tastes_80 : decode cX8_tastes 80 = .ok (.aload_n 0, 1) := dX8_tastes_k3.2.2.2.2.1
theorem dX8_tastes_81 : decode cX8_tastes 81 = .ok (.getfield 34, 3) := dX8_tastes_k3.2.2.2.2.2
set_option maxRecDepth 100000 in
theorem dX8_tastes_k4 : (decode cX8_tastes 84 = .ok (.iload_n 1, 1)) ∧ (decode cX8_tastes 85 = .ok (.invokevirtual 178, 3)) ∧ (decode cX8_tastes 88 = .ok (.invokevirtual 262, 3)) ∧ (decode cX8_tastes 91 = .ok (.ifCond .eq 10, 3)) ∧ (decode cX8_tastes 94 = .ok (.iload_n 3, 1)) ∧ (decode cX8_tastes 95 = .ok (.iconst 1, 1)) := by decide +kernel
theorem dX8_tastes_84 : decode cX8_tastes 84 = .ok (.iload_n 1, 1) := dX8_tastes_k4.1
theorem dX8_tastes_85 : decode cX8_tastes 85 = .ok (.invokevirtual 178, 3) := dX8_tastes_k4.2.1
theorem dX8_tastes_88 : decode cX8_tastes 88 = .ok (.invokevirtual 262, 3) := dX8_tastes_k4.2.2.1
theorem dX8_tastes_91 : decode cX8_tastes 91 = .ok (.ifCond .eq 10, 3) := dX8_tastes_k4.2.2.2.1
theorem dX8_tastes_94 : decode cX8_tastes 94 = .ok (.iload_n 3, 1) := dX8_tastes_k4.2.2.2.2.1
theorem dX8_tastes_95 : decode cX8_tastes 95 = .ok (.iconst 1, 1) := dX8_tastes_k4.2.2.2.2.2
set_option maxRecDepth 100000 in
theorem dX8_tastes_k5 : (decode cX8_tastes 96 = .ok (.iload 4, 2)) ∧ (decode cX8_tastes 98 = .ok (.ishl, 1)) ∧ (decode cX8_tastes 99 = .ok (.ior, 1)) ∧ (decode cX8_tastes 100 = .ok (.istore_n 3, 1)) ∧ (decode cX8_tastes 101 = .ok (.iinc 4 1, 3)) ∧ (decode cX8_tastes 104 = .ok (.goto (-63), 3)) := by decide +kernel
theorem dX8_tastes_96 : decode cX8_tastes 96 = .ok (.iload 4, 2) := dX8_tastes_k5.1
theorem dX8_tastes_98 : decode cX8_tastes 98 = .ok (.ishl, 1) := dX8_tastes_k5.2.1
theorem dX8_tastes_99 : decode cX8_tastes 99 = .ok (.ior, 1) := dX8_tastes_k5.2.2.1
theorem dX8_tastes_100 : decode cX8_tastes 100 = .ok (.istore_n 3, 1) := dX8_tastes_k5.2.2.2.1
theorem dX8_tastes_101 : decode cX8_tastes 101 = .ok (.iinc 4 1, 3) := dX8_tastes_k5.2.2.2.2.1
theorem dX8_tastes_104 : decode cX8_tastes 104 = .ok (.goto (-63), 3) := dX8_tastes_k5.2.2.2.2.2
set_option maxRecDepth 100000 in
theorem dX8_tastes_k6 : (decode cX8_tastes 107 = .ok (.iload_n 3, 1)) ∧ (decode cX8_tastes 108 = .ok (.ireturn, 1)) := by decide +kernel
theorem dX8_tastes_107 : decode cX8_tastes 107 = .ok (.iload_n 3, 1) := dX8_tastes_k6.1
theorem dX8_tastes_108 : decode cX8_tastes 108 = .ok (.ireturn, 1) := dX8_tastes_k6.2
set_option maxRecDepth 100000 in
theorem dX8_drunk_k7 : (decode cX8_drunk 0 = .ok (.aload_n 0, 1)) ∧ (decode cX8_drunk 1 = .ok (.getfield 10, 3)) ∧ (decode cX8_drunk 4 = .ok (.iload_n 1, 1)) ∧ (decode cX8_drunk 5 = .ok (.invokevirtual 130, 3)) ∧ (decode cX8_drunk 8 = .ok (.ifCond .eq 14, 3)) ∧ (decode cX8_drunk 11 = .ok (.aload_n 0, 1)) := by decide +kernel
theorem dX8_drunk_0 : decode cX8_drunk 0 = .ok (.aload_n 0, 1) := dX8_drunk_k7.1
theorem dX8_drunk_1 : decode cX8_drunk 1 = .ok (.getfield 10, 3) := dX8_drunk_k7.2.1
theorem dX8_drunk_4 : decode cX8_drunk 4 = .ok (.iload_n 1, 1) := dX8_drunk_k7.2.2.1
theorem dX8_drunk_5 : decode cX8_drunk 5 = .ok (.invokevirtual 130, 3) := dX8_drunk_k7.2.2.2.1
theorem dX8_drunk_8 : decode cX8_drunk 8 = .ok (.ifCond .eq 14, 3) := dX8_drunk_k7.2.2.2.2.1
theorem dX8_drunk_11 : decode cX8_drunk 11 = .ok (.aload_n 0, 1) := dX8_drunk_k7.2.2.2.2.2
set_option maxRecDepth 100000 in
theorem dX8_drunk_k8 : (decode cX8_drunk 12 = .ok (.getfield 10, 3)) ∧ (decode cX8_drunk 15 = .ok (.iload_n 2, 1)) ∧ (decode cX8_drunk 16 = .ok (.invokevirtual 85, 3)) ∧ (decode cX8_drunk 19 = .ok (.ifCond .ne 7, 3)) ∧ (decode cX8_drunk 22 = .ok (.ldc2_w 265, 3)) ∧ (decode cX8_drunk 25 = .ok (.lreturn, 1)) := by decide +kernel
theorem dX8_drunk_12 : decode cX8_drunk 12 = .ok (.getfield 10, 3) := dX8_drunk_k8.1
theorem dX8_drunk_15 : decode cX8_drunk 15 = .ok (.iload_n 2, 1) := dX8_drunk_k8.2.1
theorem dX8_drunk_16 : decode cX8_drunk 16 = .ok (.invokevirtual 85, 3) := dX8_drunk_k8.2.2.1
theorem dX8_drunk_19 : decode cX8_drunk 19 = .ok (.ifCond .ne 7, 3) := dX8_drunk_k8.2.2.2.1
theorem dX8_drunk_22 : decode cX8_drunk 22 = .ok (.ldc2_w 265, 3) := dX8_drunk_k8.2.2.2.2.1
theorem dX8_drunk_25 : decode cX8_drunk 25 = .ok (.lreturn, 1) := dX8_drunk_k8.2.2.2.2.2
set_option maxRecDepth 100000 in
theorem dX8_drunk_k9 : (decode cX8_drunk 26 = .ok (.iload_n 3, 1)) ∧ (decode cX8_drunk 27 = .ok (.ifCond .lt 32, 3)) ∧ (decode cX8_drunk 30 = .ok (.iload_n 3, 1)) ∧ (decode cX8_drunk 31 = .ok (.bipush 10, 2)) ∧ (decode cX8_drunk 33 = .ok (.if_icmp .gt 26, 3)) ∧ (decode cX8_drunk 36 = .ok (.iload 4, 2)) := by decide +kernel
theorem dX8_drunk_26 : decode cX8_drunk 26 = .ok (.iload_n 3, 1) := dX8_drunk_k9.1
theorem dX8_drunk_27 : decode cX8_drunk 27 = .ok (.ifCond .lt 32, 3) := dX8_drunk_k9.2.1
theorem dX8_drunk_30 : decode cX8_drunk 30 = .ok (.iload_n 3, 1) := dX8_drunk_k9.2.2.1
theorem dX8_drunk_31 : decode cX8_drunk 31 = .ok (.bipush 10, 2) := dX8_drunk_k9.2.2.2.1
theorem dX8_drunk_33 : decode cX8_drunk 33 = .ok (.if_icmp .gt 26, 3) := dX8_drunk_k9.2.2.2.2.1
theorem dX8_drunk_36 : decode cX8_drunk 36 = .ok (.iload 4, 2) := dX8_drunk_k9.2.2.2.2.2
set_option maxRecDepth 100000 in
theorem dX8_drunk_k10 : (decode cX8_drunk 38 = .ok (.ifCond .lt 21, 3)) ∧ (decode cX8_drunk 41 = .ok (.iload 4, 2)) ∧ (decode cX8_drunk 43 = .ok (.bipush 6, 2)) ∧ (decode cX8_drunk 45 = .ok (.if_icmp .gt 14, 3)) ∧ (decode cX8_drunk 48 = .ok (.iload 5, 2)) ∧ (decode cX8_drunk 50 = .ok (.ifCond .lt 9, 3)) := by decide +kernel
theorem dX8_drunk_38 : decode cX8_drunk 38 = .ok (.ifCond .lt 21, 3) := dX8_drunk_k10.1
theorem dX8_drunk_41 : decode cX8_drunk 41 = .ok (.iload 4, 2) := dX8_drunk_k10.2.1
theorem dX8_drunk_43 : decode cX8_drunk 43 = .ok (.bipush 6, 2) := dX8_drunk_k10.2.2.1
theorem dX8_drunk_45 : decode cX8_drunk 45 = .ok (.if_icmp .gt 14, 3) := dX8_drunk_k10.2.2.2.1
theorem dX8_drunk_48 : decode cX8_drunk 48 = .ok (.iload 5, 2) := dX8_drunk_k10.2.2.2.2.1
theorem dX8_drunk_50 : decode cX8_drunk 50 = .ok (.ifCond .lt 9, 3) := dX8_drunk_k10.2.2.2.2.2
set_option maxRecDepth 100000 in
theorem dX8_drunk_k11 : (decode cX8_drunk 53 = .ok (.iload 5, 2)) ∧ (decode cX8_drunk 55 = .ok (.iconst 1, 1)) ∧ (decode cX8_drunk 56 = .ok (.if_icmp .le 7, 3)) ∧ (decode cX8_drunk 59 = .ok (.ldc2_w 267, 3)) ∧ (decode cX8_drunk 62 = .ok (.lreturn, 1)) ∧ (decode cX8_drunk 63 = .ok (.aload_n 0, 1)) := by decide +kernel
theorem dX8_drunk_53 : decode cX8_drunk 53 = .ok (.iload 5, 2) := dX8_drunk_k11.1
theorem dX8_drunk_55 : decode cX8_drunk 55 = .ok (.iconst 1, 1) := dX8_drunk_k11.2.1
theorem dX8_drunk_56 : decode cX8_drunk 56 = .ok (.if_icmp .le 7, 3) := dX8_drunk_k11.2.2.1
theorem dX8_drunk_59 : decode cX8_drunk 59 = .ok (.ldc2_w 267, 3) := dX8_drunk_k11.2.2.2.1
theorem dX8_drunk_62 : decode cX8_drunk 62 = .ok (.lreturn, 1) := dX8_drunk_k11.2.2.2.2.1
theorem dX8_drunk_63 : decode cX8_drunk 63 = .ok (.aload_n 0, 1) := dX8_drunk_k11.2.2.2.2.2
set_option maxRecDepth 100000 in
theorem dX8_drunk_k12 : (decode cX8_drunk 64 = .ok (.getfield 62, 3)) ∧ (decode cX8_drunk 67 = .ok (.aload_n 0, 1)) ∧ (decode cX8_drunk 68 = .ok (.getfield 10, 3)) ∧ (decode cX8_drunk 71 = .ok (.iload_n 1, 1)) ∧ (decode cX8_drunk 72 = .ok (.iload_n 3, 1)) ∧ (decode cX8_drunk 73 = .ok (.iload 4, 2)) := by decide +kernel
theorem dX8_drunk_64 : decode cX8_drunk 64 = .ok (.getfield 62, 3) := dX8_drunk_k12.1
theorem dX8_drunk_67 : decode cX8_drunk 67 = .ok (.aload_n 0, 1) := dX8_drunk_k12.2.1
theorem dX8_drunk_68 : decode cX8_drunk 68 = .ok (.getfield 10, 3) := dX8_drunk_k12.2.2.1
theorem dX8_drunk_71 : decode cX8_drunk 71 = .ok (.iload_n 1, 1) := dX8_drunk_k12.2.2.2.1
theorem dX8_drunk_72 : decode cX8_drunk 72 = .ok (.iload_n 3, 1) := dX8_drunk_k12.2.2.2.2.1
theorem dX8_drunk_73 : decode cX8_drunk 73 = .ok (.iload 4, 2) := dX8_drunk_k12.2.2.2.2.2
set_option maxRecDepth 100000 in
theorem dX8_drunk_k13 : (decode cX8_drunk 75 = .ok (.invokevirtual 269, 3)) ∧ (decode cX8_drunk 78 = .ok (.iload 5, 2)) ∧ (decode cX8_drunk 80 = .ok (.ifCond .ne 14, 3)) ∧ (decode cX8_drunk 83 = .ok (.aload_n 0, 1)) ∧ (decode cX8_drunk 84 = .ok (.getfield 62, 3)) ∧ (decode cX8_drunk 87 = .ok (.iload_n 2, 1)) := by decide +kernel
theorem dX8_drunk_75 : decode cX8_drunk 75 = .ok (.invokevirtual 269, 3) := dX8_drunk_k13.1
theorem dX8_drunk_78 : decode cX8_drunk 78 = .ok (.iload 5, 2) := dX8_drunk_k13.2.1
theorem dX8_drunk_80 : decode cX8_drunk 80 = .ok (.ifCond .ne 14, 3) := dX8_drunk_k13.2.2.1
theorem dX8_drunk_83 : decode cX8_drunk 83 = .ok (.aload_n 0, 1) := dX8_drunk_k13.2.2.2.1
theorem dX8_drunk_84 : decode cX8_drunk 84 = .ok (.getfield 62, 3) := dX8_drunk_k13.2.2.2.2.1
theorem dX8_drunk_87 : decode cX8_drunk 87 = .ok (.iload_n 2, 1) := dX8_drunk_k13.2.2.2.2.2
set_option maxRecDepth 100000 in
theorem dX8_drunk_k14 : (decode cX8_drunk 88 = .ok (.invokevirtual 273, 3)) ∧ (decode cX8_drunk 91 = .ok (.goto 11, 3)) ∧ (decode cX8_drunk 94 = .ok (.aload_n 0, 1)) ∧ (decode cX8_drunk 95 = .ok (.getfield 62, 3)) ∧ (decode cX8_drunk 98 = .ok (.iload_n 2, 1)) ∧ (decode cX8_drunk 99 = .ok (.invokevirtual 277, 3)) := by decide +kernel
theorem dX8_drunk_88 : decode cX8_drunk 88 = .ok (.invokevirtual 273, 3) := dX8_drunk_k14.1
theorem dX8_drunk_91 : decode cX8_drunk 91 = .ok (.goto 11, 3) := dX8_drunk_k14.2.1
theorem dX8_drunk_94 : decode cX8_drunk 94 = .ok (.aload_n 0, 1) := dX8_drunk_k14.2.2.1
theorem dX8_drunk_95 : decode cX8_drunk 95 = .ok (.getfield 62, 3) := dX8_drunk_k14.2.2.2.1
theorem dX8_drunk_98 : decode cX8_drunk 98 = .ok (.iload_n 2, 1) := dX8_drunk_k14.2.2.2.2.1
theorem dX8_drunk_99 : decode cX8_drunk 99 = .ok (.invokevirtual 277, 3) := dX8_drunk_k14.2.2.2.2.2
theorem dX8_drunk_102 : decode cX8_drunk 102 = .ok (.lreturn, 1) := by decide +kernel
set_option maxRecDepth 100000 in
theorem dX8_year_k15 : (decode cX8_year 0 = .ok (.iload_n 1, 1)) ∧ (decode cX8_year 1 = .ok (.ifCond .lt 30, 3)) ∧ (decode cX8_year 4 = .ok (.iload_n 1, 1)) ∧ (decode cX8_year 5 = .ok (.sipush 9999, 3)) ∧ (decode cX8_year 8 = .ok (.if_icmp .gt 23, 3)) ∧ (decode cX8_year 11 = .ok (.iload_n 2, 1)) := by decide +kernel
theorem dX8_year_0 : decode cX8_year 0 = .ok (.iload_n 1, 1) := dX8_year_k15.1
theorem dX8_year_1 : decode cX8_year 1 = .ok (.ifCond .lt 30, 3) := dX8_year_k15.2.1
theorem dX8_year_4 : decode cX8_year 4 = .ok (.iload_n 1, 1) := dX8_year_k15.2.2.1
theorem dX8_year_5 : decode cX8_year 5 = .ok (.sipush 9999, 3) := dX8_year_k15.2.2.2.1
theorem dX8_year_8 : decode cX8_year 8 = .ok (.if_icmp .gt 23, 3) := dX8_year_k15.2.2.2.2.1
theorem dX8_year_11 : decode cX8_year 11 = .ok (.iload_n 2, 1) := dX8_year_k15.2.2.2.2.2
set_option maxRecDepth 100000 in
theorem dX8_year_k16 : (decode cX8_year 12 = .ok (.iconst 1, 1)) ∧ (decode cX8_year 13 = .ok (.if_icmp .lt 18, 3)) ∧ (decode cX8_year 16 = .ok (.iload_n 2, 1)) ∧ (decode cX8_year 17 = .ok (.bipush 99, 2)) ∧ (decode cX8_year 19 = .ok (.if_icmp .gt 12, 3)) ∧ (decode cX8_year 22 = .ok (.iload_n 3, 1)) := by decide +kernel
theorem dX8_year_12 : decode cX8_year 12 = .ok (.iconst 1, 1) := dX8_year_k16.1
theorem dX8_year_13 : decode cX8_year 13 = .ok (.if_icmp .lt 18, 3) := dX8_year_k16.2.1
theorem dX8_year_16 : decode cX8_year 16 = .ok (.iload_n 2, 1) := dX8_year_k16.2.2.1
theorem dX8_year_17 : decode cX8_year 17 = .ok (.bipush 99, 2) := dX8_year_k16.2.2.2.1
theorem dX8_year_19 : decode cX8_year 19 = .ok (.if_icmp .gt 12, 3) := dX8_year_k16.2.2.2.2.1
theorem dX8_year_22 : decode cX8_year 22 = .ok (.iload_n 3, 1) := dX8_year_k16.2.2.2.2.2
set_option maxRecDepth 100000 in
theorem dX8_year_k17 : (decode cX8_year 23 = .ok (.ifCond .lt 8, 3)) ∧ (decode cX8_year 26 = .ok (.iload_n 3, 1)) ∧ (decode cX8_year 27 = .ok (.iconst 2, 1)) ∧ (decode cX8_year 28 = .ok (.if_icmp .le 6, 3)) ∧ (decode cX8_year 31 = .ok (.bipush (-2), 2)) ∧ (decode cX8_year 33 = .ok (.ireturn, 1)) := by decide +kernel
theorem dX8_year_23 : decode cX8_year 23 = .ok (.ifCond .lt 8, 3) := dX8_year_k17.1
theorem dX8_year_26 : decode cX8_year 26 = .ok (.iload_n 3, 1) := dX8_year_k17.2.1
theorem dX8_year_27 : decode cX8_year 27 = .ok (.iconst 2, 1) := dX8_year_k17.2.2.1
theorem dX8_year_28 : decode cX8_year 28 = .ok (.if_icmp .le 6, 3) := dX8_year_k17.2.2.2.1
theorem dX8_year_31 : decode cX8_year 31 = .ok (.bipush (-2), 2) := dX8_year_k17.2.2.2.2.1
theorem dX8_year_33 : decode cX8_year 33 = .ok (.ireturn, 1) := dX8_year_k17.2.2.2.2.2
set_option maxRecDepth 100000 in
theorem dX8_year_k18 : (decode cX8_year 34 = .ok (.aload_n 0, 1)) ∧ (decode cX8_year 35 = .ok (.getfield 34, 3)) ∧ (decode cX8_year 38 = .ok (.aload_n 0, 1)) ∧ (decode cX8_year 39 = .ok (.getfield 10, 3)) ∧ (decode cX8_year 42 = .ok (.invokevirtual 175, 3)) ∧ (decode cX8_year 45 = .ok (.aload_n 0, 1)) := by decide +kernel
theorem dX8_year_34 : decode cX8_year 34 = .ok (.aload_n 0, 1) := dX8_year_k18.1
theorem dX8_year_35 : decode cX8_year 35 = .ok (.getfield 34, 3) := dX8_year_k18.2.1
theorem dX8_year_38 : decode cX8_year 38 = .ok (.aload_n 0, 1) := dX8_year_k18.2.2.1
theorem dX8_year_39 : decode cX8_year 39 = .ok (.getfield 10, 3) := dX8_year_k18.2.2.2.1
theorem dX8_year_42 : decode cX8_year 42 = .ok (.invokevirtual 175, 3) := dX8_year_k18.2.2.2.2.1
theorem dX8_year_45 : decode cX8_year 45 = .ok (.aload_n 0, 1) := dX8_year_k18.2.2.2.2.2
set_option maxRecDepth 100000 in
theorem dX8_year_k19 : (decode cX8_year 46 = .ok (.getfield 69, 3)) ∧ (decode cX8_year 49 = .ok (.iload_n 1, 1)) ∧ (decode cX8_year 50 = .ok (.iload_n 2, 1)) ∧ (decode cX8_year 51 = .ok (.aload_n 0, 1)) ∧ (decode cX8_year 52 = .ok (.getfield 34, 3)) ∧ (decode cX8_year 55 = .ok (.invokevirtual 280, 3)) := by decide +kernel
theorem dX8_year_46 : decode cX8_year 46 = .ok (.getfield 69, 3) := dX8_year_k19.1
theorem dX8_year_49 : decode cX8_year 49 = .ok (.iload_n 1, 1) := dX8_year_k19.2.1
theorem dX8_year_50 : decode cX8_year 50 = .ok (.iload_n 2, 1) := dX8_year_k19.2.2.1
theorem dX8_year_51 : decode cX8_year 51 = .ok (.aload_n 0, 1) := dX8_year_k19.2.2.2.1
theorem dX8_year_52 : decode cX8_year 52 = .ok (.getfield 34, 3) := dX8_year_k19.2.2.2.2.1
theorem dX8_year_55 : decode cX8_year 55 = .ok (.invokevirtual 280, 3) := dX8_year_k19.2.2.2.2.2
set_option maxRecDepth 100000 in
theorem dX8_year_k20 : (decode cX8_year 58 = .ok (.iload_n 3, 1)) ∧ (decode cX8_year 59 = .ok (.ifCond .ne 11, 3)) ∧ (decode cX8_year 62 = .ok (.aload_n 0, 1)) ∧ (decode cX8_year 63 = .ok (.getfield 69, 3)) ∧ (decode cX8_year 66 = .ok (.getfield 284, 3)) ∧ (decode cX8_year 69 = .ok (.ireturn, 1)) := by decide +kernel
theorem dX8_year_58 : decode cX8_year 58 = .ok (.iload_n 3, 1) := dX8_year_k20.1
theorem dX8_year_59 : decode cX8_year 59 = .ok (.ifCond .ne 11, 3) := dX8_year_k20.2.1
theorem dX8_year_62 : decode cX8_year 62 = .ok (.aload_n 0, 1) := dX8_year_k20.2.2.1
theorem dX8_year_63 : decode cX8_year 63 = .ok (.getfield 69, 3) := dX8_year_k20.2.2.2.1
theorem dX8_year_66 : decode cX8_year 66 = .ok (.getfield 284, 3) := dX8_year_k20.2.2.2.2.1
theorem dX8_year_69 : decode cX8_year 69 = .ok (.ireturn, 1) := dX8_year_k20.2.2.2.2.2
set_option maxRecDepth 100000 in
theorem dX8_year_k21 : (decode cX8_year 70 = .ok (.iload_n 3, 1)) ∧ (decode cX8_year 71 = .ok (.iconst 1, 1)) ∧ (decode cX8_year 72 = .ok (.if_icmp .ne 13, 3)) ∧ (decode cX8_year 75 = .ok (.aload_n 0, 1)) ∧ (decode cX8_year 76 = .ok (.getfield 69, 3)) ∧ (decode cX8_year 79 = .ok (.getfield 287, 3)) := by decide +kernel
theorem dX8_year_70 : decode cX8_year 70 = .ok (.iload_n 3, 1) := dX8_year_k21.1
theorem dX8_year_71 : decode cX8_year 71 = .ok (.iconst 1, 1) := dX8_year_k21.2.1
theorem dX8_year_72 : decode cX8_year 72 = .ok (.if_icmp .ne 13, 3) := dX8_year_k21.2.2.1
theorem dX8_year_75 : decode cX8_year 75 = .ok (.aload_n 0, 1) := dX8_year_k21.2.2.2.1
theorem dX8_year_76 : decode cX8_year 76 = .ok (.getfield 69, 3) := dX8_year_k21.2.2.2.2.1
theorem dX8_year_79 : decode cX8_year 79 = .ok (.getfield 287, 3) := dX8_year_k21.2.2.2.2.2
set_option maxRecDepth 100000 in
theorem dX8_year_k22 : (decode cX8_year 82 = .ok (.goto 14, 3)) ∧ (decode cX8_year 85 = .ok (.aload_n 0, 1)) ∧ (decode cX8_year 86 = .ok (.getfield 34, 3)) ∧ (decode cX8_year 89 = .ok (.getfield 159, 3)) ∧ (decode cX8_year 92 = .ok (.iconst 0, 1)) ∧ (decode cX8_year 93 = .ok (.invokevirtual 89, 3)) := by decide +kernel
theorem dX8_year_82 : decode cX8_year 82 = .ok (.goto 14, 3) := dX8_year_k22.1
theorem dX8_year_85 : decode cX8_year 85 = .ok (.aload_n 0, 1) := dX8_year_k22.2.1
theorem dX8_year_86 : decode cX8_year 86 = .ok (.getfield 34, 3) := dX8_year_k22.2.2.1
theorem dX8_year_89 : decode cX8_year 89 = .ok (.getfield 159, 3) := dX8_year_k22.2.2.2.1
theorem dX8_year_92 : decode cX8_year 92 = .ok (.iconst 0, 1) := dX8_year_k22.2.2.2.2.1
theorem dX8_year_93 : decode cX8_year 93 = .ok (.invokevirtual 89, 3) := dX8_year_k22.2.2.2.2.2
theorem dX8_year_96 : decode cX8_year 96 = .ok (.ireturn, 1) := by decide +kernel
set_option maxRecDepth 100000 in
theorem dX8_image_k23 : (decode cX8_image 0 = .ok (.iload_n 1, 1)) ∧ (decode cX8_image 1 = .ok (.ifCond .lt 8, 3)) ∧ (decode cX8_image 4 = .ok (.iload_n 1, 1)) ∧ (decode cX8_image 5 = .ok (.iconst 2, 1)) ∧ (decode cX8_image 6 = .ok (.if_icmp .lt 6, 3)) ∧ (decode cX8_image 9 = .ok (.bipush (-2), 2)) := by decide +kernel
theorem dX8_image_0 : decode cX8_image 0 = .ok (.iload_n 1, 1) := dX8_image_k23.1
theorem dX8_image_1 : decode cX8_image 1 = .ok (.ifCond .lt 8, 3) := dX8_image_k23.2.1
theorem dX8_image_4 : decode cX8_image 4 = .ok (.iload_n 1, 1) := dX8_image_k23.2.2.1
theorem dX8_image_5 : decode cX8_image 5 = .ok (.iconst 2, 1) := dX8_image_k23.2.2.2.1
theorem dX8_image_6 : decode cX8_image 6 = .ok (.if_icmp .lt 6, 3) := dX8_image_k23.2.2.2.2.1
theorem dX8_image_9 : decode cX8_image 9 = .ok (.bipush (-2), 2) := dX8_image_k23.2.2.2.2.2
set_option maxRecDepth 100000 in
theorem dX8_image_k24 : (decode cX8_image 11 = .ok (.ireturn, 1)) ∧ (decode cX8_image 12 = .ok (.aload_n 0, 1)) ∧ (decode cX8_image 13 = .ok (.getfield 16, 3)) ∧ (decode cX8_image 16 = .ok (.iload_n 1, 1)) ∧ (decode cX8_image 17 = .ok (.aaload, 1)) ∧ (decode cX8_image 18 = .ok (.aload_n 0, 1)) := by decide +kernel
theorem dX8_image_11 : decode cX8_image 11 = .ok (.ireturn, 1) := dX8_image_k24.1
theorem dX8_image_12 : decode cX8_image 12 = .ok (.aload_n 0, 1) := dX8_image_k24.2.1
theorem dX8_image_13 : decode cX8_image 13 = .ok (.getfield 16, 3) := dX8_image_k24.2.2.1
theorem dX8_image_16 : decode cX8_image 16 = .ok (.iload_n 1, 1) := dX8_image_k24.2.2.2.1
theorem dX8_image_17 : decode cX8_image 17 = .ok (.aaload, 1) := dX8_image_k24.2.2.2.2.1
theorem dX8_image_18 : decode cX8_image 18 = .ok (.aload_n 0, 1) := dX8_image_k24.2.2.2.2.2
set_option maxRecDepth 100000 in
theorem dX8_image_k25 : (decode cX8_image 19 = .ok (.getfield 10, 3)) ∧ (decode cX8_image 22 = .ok (.invokevirtual 162, 3)) ∧ (decode cX8_image 25 = .ok (.aload_n 0, 1)) ∧ (decode cX8_image 26 = .ok (.getfield 20, 3)) ∧ (decode cX8_image 29 = .ok (.iload_n 1, 1)) ∧ (decode cX8_image 30 = .ok (.iconst 1, 1)) := by decide +kernel
theorem dX8_image_19 : decode cX8_image 19 = .ok (.getfield 10, 3) := dX8_image_k25.1
theorem dX8_image_22 : decode cX8_image 22 = .ok (.invokevirtual 162, 3) := dX8_image_k25.2.1
theorem dX8_image_25 : decode cX8_image 25 = .ok (.aload_n 0, 1) := dX8_image_k25.2.2.1
theorem dX8_image_26 : decode cX8_image 26 = .ok (.getfield 20, 3) := dX8_image_k25.2.2.2.1
theorem dX8_image_29 : decode cX8_image 29 = .ok (.iload_n 1, 1) := dX8_image_k25.2.2.2.2.1
theorem dX8_image_30 : decode cX8_image 30 = .ok (.iconst 1, 1) := dX8_image_k25.2.2.2.2.2
set_option maxRecDepth 100000 in
theorem dX8_image_k26 : (decode cX8_image 31 = .ok (.bastore, 1)) ∧ (decode cX8_image 32 = .ok (.iconst 1, 1)) ∧ (decode cX8_image 33 = .ok (.ireturn, 1)) := by decide +kernel
theorem dX8_image_31 : decode cX8_image 31 = .ok (.bastore, 1) := dX8_image_k26.1
theorem dX8_image_32 : decode cX8_image 32 = .ok (.iconst 1, 1) := dX8_image_k26.2.1
theorem dX8_image_33 : decode cX8_image 33 = .ok (.ireturn, 1) := dX8_image_k26.2.2
set_option maxRecDepth 100000 in
theorem dX8_restore_k27 : (decode cX8_restore 0 = .ok (.iload_n 1, 1)) ∧ (decode cX8_restore 1 = .ok (.ifCond .lt 8, 3)) ∧ (decode cX8_restore 4 = .ok (.iload_n 1, 1)) ∧ (decode cX8_restore 5 = .ok (.iconst 2, 1)) ∧ (decode cX8_restore 6 = .ok (.if_icmp .lt 6, 3)) ∧ (decode cX8_restore 9 = .ok (.bipush (-2), 2)) := by decide +kernel
theorem dX8_restore_0 : decode cX8_restore 0 = .ok (.iload_n 1, 1) := dX8_restore_k27.1
theorem dX8_restore_1 : decode cX8_restore 1 = .ok (.ifCond .lt 8, 3) := dX8_restore_k27.2.1
theorem dX8_restore_4 : decode cX8_restore 4 = .ok (.iload_n 1, 1) := dX8_restore_k27.2.2.1
theorem dX8_restore_5 : decode cX8_restore 5 = .ok (.iconst 2, 1) := dX8_restore_k27.2.2.2.1
theorem dX8_restore_6 : decode cX8_restore 6 = .ok (.if_icmp .lt 6, 3) := dX8_restore_k27.2.2.2.2.1
theorem dX8_restore_9 : decode cX8_restore 9 = .ok (.bipush (-2), 2) := dX8_restore_k27.2.2.2.2.2
set_option maxRecDepth 100000 in
theorem dX8_restore_k28 : (decode cX8_restore 11 = .ok (.ireturn, 1)) ∧ (decode cX8_restore 12 = .ok (.aload_n 0, 1)) ∧ (decode cX8_restore 13 = .ok (.getfield 20, 3)) ∧ (decode cX8_restore 16 = .ok (.iload_n 1, 1)) ∧ (decode cX8_restore 17 = .ok (.baload, 1)) ∧ (decode cX8_restore 18 = .ok (.ifCond .ne 6, 3)) := by decide +kernel
theorem dX8_restore_11 : decode cX8_restore 11 = .ok (.ireturn, 1) := dX8_restore_k28.1
theorem dX8_restore_12 : decode cX8_restore 12 = .ok (.aload_n 0, 1) := dX8_restore_k28.2.1
theorem dX8_restore_13 : decode cX8_restore 13 = .ok (.getfield 20, 3) := dX8_restore_k28.2.2.1
theorem dX8_restore_16 : decode cX8_restore 16 = .ok (.iload_n 1, 1) := dX8_restore_k28.2.2.2.1
theorem dX8_restore_17 : decode cX8_restore 17 = .ok (.baload, 1) := dX8_restore_k28.2.2.2.2.1
theorem dX8_restore_18 : decode cX8_restore 18 = .ok (.ifCond .ne 6, 3) := dX8_restore_k28.2.2.2.2.2
set_option maxRecDepth 100000 in
theorem dX8_restore_k29 : (decode cX8_restore 21 = .ok (.bipush (-3), 2)) ∧ (decode cX8_restore 23 = .ok (.ireturn, 1)) ∧ (decode cX8_restore 24 = .ok (.aload_n 0, 1)) ∧ (decode cX8_restore 25 = .ok (.getfield 10, 3)) ∧ (decode cX8_restore 28 = .ok (.aload_n 0, 1)) ∧ (decode cX8_restore 29 = .ok (.getfield 16, 3)) := by decide +kernel
theorem dX8_restore_21 : decode cX8_restore 21 = .ok (.bipush (-3), 2) := dX8_restore_k29.1
theorem dX8_restore_23 : decode cX8_restore 23 = .ok (.ireturn, 1) := dX8_restore_k29.2.1
theorem dX8_restore_24 : decode cX8_restore 24 = .ok (.aload_n 0, 1) := dX8_restore_k29.2.2.1
theorem dX8_restore_25 : decode cX8_restore 25 = .ok (.getfield 10, 3) := dX8_restore_k29.2.2.2.1
theorem dX8_restore_28 : decode cX8_restore 28 = .ok (.aload_n 0, 1) := dX8_restore_k29.2.2.2.2.1
theorem dX8_restore_29 : decode cX8_restore 29 = .ok (.getfield 16, 3) := dX8_restore_k29.2.2.2.2.2
set_option maxRecDepth 100000 in
theorem dX8_restore_k30 : (decode cX8_restore 32 = .ok (.iload_n 1, 1)) ∧ (decode cX8_restore 33 = .ok (.aaload, 1)) ∧ (decode cX8_restore 34 = .ok (.invokevirtual 162, 3)) ∧ (decode cX8_restore 37 = .ok (.iconst 1, 1)) ∧ (decode cX8_restore 38 = .ok (.ireturn, 1)) := by decide +kernel
theorem dX8_restore_32 : decode cX8_restore 32 = .ok (.iload_n 1, 1) := dX8_restore_k30.1
theorem dX8_restore_33 : decode cX8_restore 33 = .ok (.aaload, 1) := dX8_restore_k30.2.1
theorem dX8_restore_34 : decode cX8_restore 34 = .ok (.invokevirtual 162, 3) := dX8_restore_k30.2.2.1
theorem dX8_restore_37 : decode cX8_restore 37 = .ok (.iconst 1, 1) := dX8_restore_k30.2.2.2.1
theorem dX8_restore_38 : decode cX8_restore 38 = .ok (.ireturn, 1) := dX8_restore_k30.2.2.2.2
set_option maxRecDepth 100000 in
theorem dX8_told_k31 : (decode cX8_told 0 = .ok (.iload_n 1, 1)) ∧ (decode cX8_told 1 = .ok (.tableswitch 63 0 3 #[31, 39, 47, 55], 31)) ∧ (decode cX8_told 32 = .ok (.aload_n 0, 1)) ∧ (decode cX8_told 33 = .ok (.getfield 27, 3)) ∧ (decode cX8_told 36 = .ok (.getfield 139, 3)) ∧ (decode cX8_told 39 = .ok (.ireturn, 1)) := by decide +kernel
theorem dX8_told_0 : decode cX8_told 0 = .ok (.iload_n 1, 1) := dX8_told_k31.1
theorem dX8_told_1 : decode cX8_told 1 = .ok (.tableswitch 63 0 3 #[31, 39, 47, 55], 31) := dX8_told_k31.2.1
theorem dX8_told_32 : decode cX8_told 32 = .ok (.aload_n 0, 1) := dX8_told_k31.2.2.1
theorem dX8_told_33 : decode cX8_told 33 = .ok (.getfield 27, 3) := dX8_told_k31.2.2.2.1
theorem dX8_told_36 : decode cX8_told 36 = .ok (.getfield 139, 3) := dX8_told_k31.2.2.2.2.1
theorem dX8_told_39 : decode cX8_told 39 = .ok (.ireturn, 1) := dX8_told_k31.2.2.2.2.2
set_option maxRecDepth 100000 in
theorem dX8_told_k32 : (decode cX8_told 40 = .ok (.aload_n 0, 1)) ∧ (decode cX8_told 41 = .ok (.getfield 10, 3)) ∧ (decode cX8_told 44 = .ok (.getfield 81, 3)) ∧ (decode cX8_told 47 = .ok (.ireturn, 1)) ∧ (decode cX8_told 48 = .ok (.aload_n 0, 1)) ∧ (decode cX8_told 49 = .ok (.getfield 10, 3)) := by decide +kernel
theorem dX8_told_40 : decode cX8_told 40 = .ok (.aload_n 0, 1) := dX8_told_k32.1
theorem dX8_told_41 : decode cX8_told 41 = .ok (.getfield 10, 3) := dX8_told_k32.2.1
theorem dX8_told_44 : decode cX8_told 44 = .ok (.getfield 81, 3) := dX8_told_k32.2.2.1
theorem dX8_told_47 : decode cX8_told 47 = .ok (.ireturn, 1) := dX8_told_k32.2.2.2.1
theorem dX8_told_48 : decode cX8_told 48 = .ok (.aload_n 0, 1) := dX8_told_k32.2.2.2.2.1
theorem dX8_told_49 : decode cX8_told 49 = .ok (.getfield 10, 3) := dX8_told_k32.2.2.2.2.2
set_option maxRecDepth 100000 in
theorem dX8_told_k33 : (decode cX8_told 52 = .ok (.getfield 119, 3)) ∧ (decode cX8_told 55 = .ok (.ireturn, 1)) ∧ (decode cX8_told 56 = .ok (.aload_n 0, 1)) ∧ (decode cX8_told 57 = .ok (.getfield 10, 3)) ∧ (decode cX8_told 60 = .ok (.getfield 250, 3)) ∧ (decode cX8_told 63 = .ok (.ireturn, 1)) := by decide +kernel
theorem dX8_told_52 : decode cX8_told 52 = .ok (.getfield 119, 3) := dX8_told_k33.1
theorem dX8_told_55 : decode cX8_told 55 = .ok (.ireturn, 1) := dX8_told_k33.2.1
theorem dX8_told_56 : decode cX8_told 56 = .ok (.aload_n 0, 1) := dX8_told_k33.2.2.1
theorem dX8_told_57 : decode cX8_told 57 = .ok (.getfield 10, 3) := dX8_told_k33.2.2.2.1
theorem dX8_told_60 : decode cX8_told 60 = .ok (.getfield 250, 3) := dX8_told_k33.2.2.2.2.1
theorem dX8_told_63 : decode cX8_told 63 = .ok (.ireturn, 1) := dX8_told_k33.2.2.2.2.2
set_option maxRecDepth 100000 in
theorem dX8_told_k34 : (decode cX8_told 64 = .ok (.aload_n 0, 1)) ∧ (decode cX8_told 65 = .ok (.iload_n 1, 1)) ∧ (decode cX8_told 66 = .ok (.invokevirtual 290, 3)) ∧ (decode cX8_told 69 = .ok (.ireturn, 1)) := by decide +kernel
theorem dX8_told_64 : decode cX8_told 64 = .ok (.aload_n 0, 1) := dX8_told_k34.1
theorem dX8_told_65 : decode cX8_told 65 = .ok (.iload_n 1, 1) := dX8_told_k34.2.1
theorem dX8_told_66 : decode cX8_told 66 = .ok (.invokevirtual 290, 3) := dX8_told_k34.2.2.1
theorem dX8_told_69 : decode cX8_told 69 = .ok (.ireturn, 1) := dX8_told_k34.2.2.2
set_option maxRecDepth 100000 in
theorem dX8_toldByCode_k35 : (decode cX8_toldByCode 0 = .ok (.iload_n 1, 1)) ∧ (decode cX8_toldByCode 1 = .ok (.bipush 10, 2)) ∧ (decode cX8_toldByCode 3 = .ok (.if_icmp .ge 6, 3)) ∧ (decode cX8_toldByCode 6 = .ok (.bipush (-2), 2)) ∧ (decode cX8_toldByCode 8 = .ok (.ireturn, 1)) ∧ (decode cX8_toldByCode 9 = .ok (.iload_n 1, 1)) := by decide +kernel
theorem dX8_toldByCode_0 : decode cX8_toldByCode 0 = .ok (.iload_n 1, 1) := dX8_toldByCode_k35.1
theorem dX8_toldByCode_1 : decode cX8_toldByCode 1 = .ok (.bipush 10, 2) := dX8_toldByCode_k35.2.1
theorem dX8_toldByCode_3 : decode cX8_toldByCode 3 = .ok (.if_icmp .ge 6, 3) := dX8_toldByCode_k35.2.2.1
theorem dX8_toldByCode_6 : decode cX8_toldByCode 6 = .ok (.bipush (-2), 2) := dX8_toldByCode_k35.2.2.2.1
theorem dX8_toldByCode_8 : decode cX8_toldByCode 8 = .ok (.ireturn, 1) := dX8_toldByCode_k35.2.2.2.2.1
theorem dX8_toldByCode_9 : decode cX8_toldByCode 9 = .ok (.iload_n 1, 1) := dX8_toldByCode_k35.2.2.2.2.2
set_option maxRecDepth 100000 in
theorem dX8_toldByCode_k36 : (decode cX8_toldByCode 10 = .ok (.bipush 100, 2)) ∧ (decode cX8_toldByCode 12 = .ok (.if_icmp .ge 52, 3)) ∧ (decode cX8_toldByCode 15 = .ok (.iload_n 1, 1)) ∧ (decode cX8_toldByCode 16 = .ok (.bipush 10, 2)) ∧ (decode cX8_toldByCode 18 = .ok (.idiv, 1)) ∧ (decode cX8_toldByCode 19 = .ok (.iconst 1, 1)) := by decide +kernel
theorem dX8_toldByCode_10 : decode cX8_toldByCode 10 = .ok (.bipush 100, 2) := dX8_toldByCode_k36.1
theorem dX8_toldByCode_12 : decode cX8_toldByCode 12 = .ok (.if_icmp .ge 52, 3) := dX8_toldByCode_k36.2.1
theorem dX8_toldByCode_15 : decode cX8_toldByCode 15 = .ok (.iload_n 1, 1) := dX8_toldByCode_k36.2.2.1
theorem dX8_toldByCode_16 : decode cX8_toldByCode 16 = .ok (.bipush 10, 2) := dX8_toldByCode_k36.2.2.2.1
theorem dX8_toldByCode_18 : decode cX8_toldByCode 18 = .ok (.idiv, 1) := dX8_toldByCode_k36.2.2.2.2.1
theorem dX8_toldByCode_19 : decode cX8_toldByCode 19 = .ok (.iconst 1, 1) := dX8_toldByCode_k36.2.2.2.2.2
set_option maxRecDepth 100000 in
theorem dX8_toldByCode_k37 : (decode cX8_toldByCode 20 = .ok (.isub, 1)) ∧ (decode cX8_toldByCode 21 = .ok (.istore_n 2, 1)) ∧ (decode cX8_toldByCode 22 = .ok (.iload_n 1, 1)) ∧ (decode cX8_toldByCode 23 = .ok (.bipush 10, 2)) ∧ (decode cX8_toldByCode 25 = .ok (.irem, 1)) ∧ (decode cX8_toldByCode 26 = .ok (.istore_n 3, 1)) := by decide +kernel
theorem dX8_toldByCode_20 : decode cX8_toldByCode 20 = .ok (.isub, 1) := dX8_toldByCode_k37.1
theorem dX8_toldByCode_21 : decode cX8_toldByCode 21 = .ok (.istore_n 2, 1) := dX8_toldByCode_k37.2.1
theorem dX8_toldByCode_22 : decode cX8_toldByCode 22 = .ok (.iload_n 1, 1) := dX8_toldByCode_k37.2.2.1
theorem dX8_toldByCode_23 : decode cX8_toldByCode 23 = .ok (.bipush 10, 2) := dX8_toldByCode_k37.2.2.2.1
theorem dX8_toldByCode_25 : decode cX8_toldByCode 25 = .ok (.irem, 1) := dX8_toldByCode_k37.2.2.2.2.1
theorem dX8_toldByCode_26 : decode cX8_toldByCode 26 = .ok (.istore_n 3, 1) := dX8_toldByCode_k37.2.2.2.2.2
set_option maxRecDepth 100000 in
theorem dX8_toldByCode_k38 : (decode cX8_toldByCode 27 = .ok (.aload_n 0, 1)) ∧ (decode cX8_toldByCode 28 = .ok (.getfield 10, 3)) ∧ (decode cX8_toldByCode 31 = .ok (.iload_n 2, 1)) ∧ (decode cX8_toldByCode 32 = .ok (.invokevirtual 85, 3)) ∧ (decode cX8_toldByCode 35 = .ok (.ifCond .eq 26, 3)) ∧ (decode cX8_toldByCode 38 = .ok (.iload_n 3, 1)) := by decide +kernel
theorem dX8_toldByCode_27 : decode cX8_toldByCode 27 = .ok (.aload_n 0, 1) := dX8_toldByCode_k38.1
theorem dX8_toldByCode_28 : decode cX8_toldByCode 28 = .ok (.getfield 10, 3) := dX8_toldByCode_k38.2.1
theorem dX8_toldByCode_31 : decode cX8_toldByCode 31 = .ok (.iload_n 2, 1) := dX8_toldByCode_k38.2.2.1
theorem dX8_toldByCode_32 : decode cX8_toldByCode 32 = .ok (.invokevirtual 85, 3) := dX8_toldByCode_k38.2.2.2.1
theorem dX8_toldByCode_35 : decode cX8_toldByCode 35 = .ok (.ifCond .eq 26, 3) := dX8_toldByCode_k38.2.2.2.2.1
theorem dX8_toldByCode_38 : decode cX8_toldByCode 38 = .ok (.iload_n 3, 1) := dX8_toldByCode_k38.2.2.2.2.2
set_option maxRecDepth 100000 in
theorem dX8_toldByCode_k39 : (decode cX8_toldByCode 39 = .ok (.bipush 6, 2)) ∧ (decode cX8_toldByCode 41 = .ok (.if_icmp .ge 20, 3)) ∧ (decode cX8_toldByCode 44 = .ok (.aload_n 0, 1)) ∧ (decode cX8_toldByCode 45 = .ok (.getfield 10, 3)) ∧ (decode cX8_toldByCode 48 = .ok (.getfield 96, 3)) ∧ (decode cX8_toldByCode 51 = .ok (.iload_n 2, 1)) := by decide +kernel
theorem dX8_toldByCode_39 : decode cX8_toldByCode 39 = .ok (.bipush 6, 2) := dX8_toldByCode_k39.1
theorem dX8_toldByCode_41 : decode cX8_toldByCode 41 = .ok (.if_icmp .ge 20, 3) := dX8_toldByCode_k39.2.1
theorem dX8_toldByCode_44 : decode cX8_toldByCode 44 = .ok (.aload_n 0, 1) := dX8_toldByCode_k39.2.2.1
theorem dX8_toldByCode_45 : decode cX8_toldByCode 45 = .ok (.getfield 10, 3) := dX8_toldByCode_k39.2.2.2.1
theorem dX8_toldByCode_48 : decode cX8_toldByCode 48 = .ok (.getfield 96, 3) := dX8_toldByCode_k39.2.2.2.2.1
theorem dX8_toldByCode_51 : decode cX8_toldByCode 51 = .ok (.iload_n 2, 1) := dX8_toldByCode_k39.2.2.2.2.2
set_option maxRecDepth 100000 in
theorem dX8_toldByCode_k40 : (decode cX8_toldByCode 52 = .ok (.bipush 6, 2)) ∧ (decode cX8_toldByCode 54 = .ok (.imul, 1)) ∧ (decode cX8_toldByCode 55 = .ok (.iload_n 3, 1)) ∧ (decode cX8_toldByCode 56 = .ok (.iadd, 1)) ∧ (decode cX8_toldByCode 57 = .ok (.iaload, 1)) ∧ (decode cX8_toldByCode 58 = .ok (.goto 5, 3)) := by decide +kernel
theorem dX8_toldByCode_52 : decode cX8_toldByCode 52 = .ok (.bipush 6, 2) := dX8_toldByCode_k40.1
theorem dX8_toldByCode_54 : decode cX8_toldByCode 54 = .ok (.imul, 1) := dX8_toldByCode_k40.2.1
theorem dX8_toldByCode_55 : decode cX8_toldByCode 55 = .ok (.iload_n 3, 1) := dX8_toldByCode_k40.2.2.1
theorem dX8_toldByCode_56 : decode cX8_toldByCode 56 = .ok (.iadd, 1) := dX8_toldByCode_k40.2.2.2.1
theorem dX8_toldByCode_57 : decode cX8_toldByCode 57 = .ok (.iaload, 1) := dX8_toldByCode_k40.2.2.2.2.1
theorem dX8_toldByCode_58 : decode cX8_toldByCode 58 = .ok (.goto 5, 3) := dX8_toldByCode_k40.2.2.2.2.2
set_option maxRecDepth 100000 in
theorem dX8_toldByCode_k41 : (decode cX8_toldByCode 61 = .ok (.bipush (-2), 2)) ∧ (decode cX8_toldByCode 63 = .ok (.ireturn, 1)) ∧ (decode cX8_toldByCode 64 = .ok (.iload_n 1, 1)) ∧ (decode cX8_toldByCode 65 = .ok (.sipush 1000, 3)) ∧ (decode cX8_toldByCode 68 = .ok (.if_icmp .ge 57, 3)) ∧ (decode cX8_toldByCode 71 = .ok (.iload_n 1, 1)) := by decide +kernel
theorem dX8_toldByCode_61 : decode cX8_toldByCode 61 = .ok (.bipush (-2), 2) := dX8_toldByCode_k41.1
theorem dX8_toldByCode_63 : decode cX8_toldByCode 63 = .ok (.ireturn, 1) := dX8_toldByCode_k41.2.1
theorem dX8_toldByCode_64 : decode cX8_toldByCode 64 = .ok (.iload_n 1, 1) := dX8_toldByCode_k41.2.2.1
theorem dX8_toldByCode_65 : decode cX8_toldByCode 65 = .ok (.sipush 1000, 3) := dX8_toldByCode_k41.2.2.2.1
theorem dX8_toldByCode_68 : decode cX8_toldByCode 68 = .ok (.if_icmp .ge 57, 3) := dX8_toldByCode_k41.2.2.2.2.1
theorem dX8_toldByCode_71 : decode cX8_toldByCode 71 = .ok (.iload_n 1, 1) := dX8_toldByCode_k41.2.2.2.2.2
set_option maxRecDepth 100000 in
theorem dX8_toldByCode_k42 : (decode cX8_toldByCode 72 = .ok (.bipush 100, 2)) ∧ (decode cX8_toldByCode 74 = .ok (.idiv, 1)) ∧ (decode cX8_toldByCode 75 = .ok (.iconst 1, 1)) ∧ (decode cX8_toldByCode 76 = .ok (.isub, 1)) ∧ (decode cX8_toldByCode 77 = .ok (.istore_n 2, 1)) ∧ (decode cX8_toldByCode 78 = .ok (.iload_n 1, 1)) := by decide +kernel
theorem dX8_toldByCode_72 : decode cX8_toldByCode 72 = .ok (.bipush 100, 2) := dX8_toldByCode_k42.1
theorem dX8_toldByCode_74 : decode cX8_toldByCode 74 = .ok (.idiv, 1) := dX8_toldByCode_k42.2.1
theorem dX8_toldByCode_75 : decode cX8_toldByCode 75 = .ok (.iconst 1, 1) := dX8_toldByCode_k42.2.2.1
theorem dX8_toldByCode_76 : decode cX8_toldByCode 76 = .ok (.isub, 1) := dX8_toldByCode_k42.2.2.2.1
theorem dX8_toldByCode_77 : decode cX8_toldByCode 77 = .ok (.istore_n 2, 1) := dX8_toldByCode_k42.2.2.2.2.1
theorem dX8_toldByCode_78 : decode cX8_toldByCode 78 = .ok (.iload_n 1, 1) := dX8_toldByCode_k42.2.2.2.2.2
set_option maxRecDepth 100000 in
theorem dX8_toldByCode_k43 : (decode cX8_toldByCode 79 = .ok (.bipush 100, 2)) ∧ (decode cX8_toldByCode 81 = .ok (.irem, 1)) ∧ (decode cX8_toldByCode 82 = .ok (.istore_n 3, 1)) ∧ (decode cX8_toldByCode 83 = .ok (.aload_n 0, 1)) ∧ (decode cX8_toldByCode 84 = .ok (.getfield 10, 3)) ∧ (decode cX8_toldByCode 87 = .ok (.iload_n 2, 1)) := by decide +kernel
theorem dX8_toldByCode_79 : decode cX8_toldByCode 79 = .ok (.bipush 100, 2) := dX8_toldByCode_k43.1
theorem dX8_toldByCode_81 : decode cX8_toldByCode 81 = .ok (.irem, 1) := dX8_toldByCode_k43.2.1
theorem dX8_toldByCode_82 : decode cX8_toldByCode 82 = .ok (.istore_n 3, 1) := dX8_toldByCode_k43.2.2.1
theorem dX8_toldByCode_83 : decode cX8_toldByCode 83 = .ok (.aload_n 0, 1) := dX8_toldByCode_k43.2.2.2.1
theorem dX8_toldByCode_84 : decode cX8_toldByCode 84 = .ok (.getfield 10, 3) := dX8_toldByCode_k43.2.2.2.2.1
theorem dX8_toldByCode_87 : decode cX8_toldByCode 87 = .ok (.iload_n 2, 1) := dX8_toldByCode_k43.2.2.2.2.2
set_option maxRecDepth 100000 in
theorem dX8_toldByCode_k44 : (decode cX8_toldByCode 88 = .ok (.invokevirtual 85, 3)) ∧ (decode cX8_toldByCode 91 = .ok (.ifCond .eq 31, 3)) ∧ (decode cX8_toldByCode 94 = .ok (.aload_n 0, 1)) ∧ (decode cX8_toldByCode 95 = .ok (.getfield 10, 3)) ∧ (decode cX8_toldByCode 98 = .ok (.iload_n 3, 1)) ∧ (decode cX8_toldByCode 99 = .ok (.invokevirtual 85, 3)) := by decide +kernel
theorem dX8_toldByCode_88 : decode cX8_toldByCode 88 = .ok (.invokevirtual 85, 3) := dX8_toldByCode_k44.1
theorem dX8_toldByCode_91 : decode cX8_toldByCode 91 = .ok (.ifCond .eq 31, 3) := dX8_toldByCode_k44.2.1
theorem dX8_toldByCode_94 : decode cX8_toldByCode 94 = .ok (.aload_n 0, 1) := dX8_toldByCode_k44.2.2.1
theorem dX8_toldByCode_95 : decode cX8_toldByCode 95 = .ok (.getfield 10, 3) := dX8_toldByCode_k44.2.2.2.1
theorem dX8_toldByCode_98 : decode cX8_toldByCode 98 = .ok (.iload_n 3, 1) := dX8_toldByCode_k44.2.2.2.2.1
theorem dX8_toldByCode_99 : decode cX8_toldByCode 99 = .ok (.invokevirtual 85, 3) := dX8_toldByCode_k44.2.2.2.2.2
set_option maxRecDepth 100000 in
theorem dX8_toldByCode_k45 : (decode cX8_toldByCode 102 = .ok (.ifCond .eq 20, 3)) ∧ (decode cX8_toldByCode 105 = .ok (.iload_n 2, 1)) ∧ (decode cX8_toldByCode 106 = .ok (.iload_n 3, 1)) ∧ (decode cX8_toldByCode 107 = .ok (.if_icmp .eq 15, 3)) ∧ (decode cX8_toldByCode 110 = .ok (.aload_n 0, 1)) ∧ (decode cX8_toldByCode 111 = .ok (.getfield 10, 3)) := by decide +kernel
theorem dX8_toldByCode_102 : decode cX8_toldByCode 102 = .ok (.ifCond .eq 20, 3) := dX8_toldByCode_k45.1
theorem dX8_toldByCode_105 : decode cX8_toldByCode 105 = .ok (.iload_n 2, 1) := dX8_toldByCode_k45.2.1
theorem dX8_toldByCode_106 : decode cX8_toldByCode 106 = .ok (.iload_n 3, 1) := dX8_toldByCode_k45.2.2.1
theorem dX8_toldByCode_107 : decode cX8_toldByCode 107 = .ok (.if_icmp .eq 15, 3) := dX8_toldByCode_k45.2.2.2.1
theorem dX8_toldByCode_110 : decode cX8_toldByCode 110 = .ok (.aload_n 0, 1) := dX8_toldByCode_k45.2.2.2.2.1
theorem dX8_toldByCode_111 : decode cX8_toldByCode 111 = .ok (.getfield 10, 3) := dX8_toldByCode_k45.2.2.2.2.2
set_option maxRecDepth 100000 in
theorem dX8_toldByCode_k46 : (decode cX8_toldByCode 114 = .ok (.iload_n 2, 1)) ∧ (decode cX8_toldByCode 115 = .ok (.iload_n 3, 1)) ∧ (decode cX8_toldByCode 116 = .ok (.invokevirtual 104, 3)) ∧ (decode cX8_toldByCode 119 = .ok (.goto 5, 3)) ∧ (decode cX8_toldByCode 122 = .ok (.bipush (-2), 2)) ∧ (decode cX8_toldByCode 124 = .ok (.ireturn, 1)) := by decide +kernel
theorem dX8_toldByCode_114 : decode cX8_toldByCode 114 = .ok (.iload_n 2, 1) := dX8_toldByCode_k46.1
theorem dX8_toldByCode_115 : decode cX8_toldByCode 115 = .ok (.iload_n 3, 1) := dX8_toldByCode_k46.2.1
theorem dX8_toldByCode_116 : decode cX8_toldByCode 116 = .ok (.invokevirtual 104, 3) := dX8_toldByCode_k46.2.2.1
theorem dX8_toldByCode_119 : decode cX8_toldByCode 119 = .ok (.goto 5, 3) := dX8_toldByCode_k46.2.2.2.1
theorem dX8_toldByCode_122 : decode cX8_toldByCode 122 = .ok (.bipush (-2), 2) := dX8_toldByCode_k46.2.2.2.2.1
theorem dX8_toldByCode_124 : decode cX8_toldByCode 124 = .ok (.ireturn, 1) := dX8_toldByCode_k46.2.2.2.2.2
set_option maxRecDepth 100000 in
theorem dX8_toldByCode_k47 : (decode cX8_toldByCode 125 = .ok (.iload_n 1, 1)) ∧ (decode cX8_toldByCode 126 = .ok (.sipush 1000, 3)) ∧ (decode cX8_toldByCode 129 = .ok (.idiv, 1)) ∧ (decode cX8_toldByCode 130 = .ok (.iconst 1, 1)) ∧ (decode cX8_toldByCode 131 = .ok (.isub, 1)) ∧ (decode cX8_toldByCode 132 = .ok (.istore_n 2, 1)) := by decide +kernel
theorem dX8_toldByCode_125 : decode cX8_toldByCode 125 = .ok (.iload_n 1, 1) := dX8_toldByCode_k47.1
theorem dX8_toldByCode_126 : decode cX8_toldByCode 126 = .ok (.sipush 1000, 3) := dX8_toldByCode_k47.2.1
theorem dX8_toldByCode_129 : decode cX8_toldByCode 129 = .ok (.idiv, 1) := dX8_toldByCode_k47.2.2.1
theorem dX8_toldByCode_130 : decode cX8_toldByCode 130 = .ok (.iconst 1, 1) := dX8_toldByCode_k47.2.2.2.1
theorem dX8_toldByCode_131 : decode cX8_toldByCode 131 = .ok (.isub, 1) := dX8_toldByCode_k47.2.2.2.2.1
theorem dX8_toldByCode_132 : decode cX8_toldByCode 132 = .ok (.istore_n 2, 1) := dX8_toldByCode_k47.2.2.2.2.2
set_option maxRecDepth 100000 in
theorem dX8_toldByCode_k48 : (decode cX8_toldByCode 133 = .ok (.iload_n 1, 1)) ∧ (decode cX8_toldByCode 134 = .ok (.sipush 1000, 3)) ∧ (decode cX8_toldByCode 137 = .ok (.irem, 1)) ∧ (decode cX8_toldByCode 138 = .ok (.istore_n 3, 1)) ∧ (decode cX8_toldByCode 139 = .ok (.aload_n 0, 1)) ∧ (decode cX8_toldByCode 140 = .ok (.getfield 10, 3)) := by decide +kernel
theorem dX8_toldByCode_133 : decode cX8_toldByCode 133 = .ok (.iload_n 1, 1) := dX8_toldByCode_k48.1
theorem dX8_toldByCode_134 : decode cX8_toldByCode 134 = .ok (.sipush 1000, 3) := dX8_toldByCode_k48.2.1
theorem dX8_toldByCode_137 : decode cX8_toldByCode 137 = .ok (.irem, 1) := dX8_toldByCode_k48.2.2.1
theorem dX8_toldByCode_138 : decode cX8_toldByCode 138 = .ok (.istore_n 3, 1) := dX8_toldByCode_k48.2.2.2.1
theorem dX8_toldByCode_139 : decode cX8_toldByCode 139 = .ok (.aload_n 0, 1) := dX8_toldByCode_k48.2.2.2.2.1
theorem dX8_toldByCode_140 : decode cX8_toldByCode 140 = .ok (.getfield 10, 3) := dX8_toldByCode_k48.2.2.2.2.2
set_option maxRecDepth 100000 in
theorem dX8_toldByCode_k49 : (decode cX8_toldByCode 143 = .ok (.iload_n 2, 1)) ∧ (decode cX8_toldByCode 144 = .ok (.invokevirtual 130, 3)) ∧ (decode cX8_toldByCode 147 = .ok (.ifCond .eq 27, 3)) ∧ (decode cX8_toldByCode 150 = .ok (.iload_n 3, 1)) ∧ (decode cX8_toldByCode 151 = .ok (.iconst 5, 1)) ∧ (decode cX8_toldByCode 152 = .ok (.if_icmp .ge 22, 3)) := by decide +kernel
theorem dX8_toldByCode_143 : decode cX8_toldByCode 143 = .ok (.iload_n 2, 1) := dX8_toldByCode_k49.1
theorem dX8_toldByCode_144 : decode cX8_toldByCode 144 = .ok (.invokevirtual 130, 3) := dX8_toldByCode_k49.2.1
theorem dX8_toldByCode_147 : decode cX8_toldByCode 147 = .ok (.ifCond .eq 27, 3) := dX8_toldByCode_k49.2.2.1
theorem dX8_toldByCode_150 : decode cX8_toldByCode 150 = .ok (.iload_n 3, 1) := dX8_toldByCode_k49.2.2.2.1
theorem dX8_toldByCode_151 : decode cX8_toldByCode 151 = .ok (.iconst 5, 1) := dX8_toldByCode_k49.2.2.2.2.1
theorem dX8_toldByCode_152 : decode cX8_toldByCode 152 = .ok (.if_icmp .ge 22, 3) := dX8_toldByCode_k49.2.2.2.2.2
set_option maxRecDepth 100000 in
theorem dX8_toldByCode_k50 : (decode cX8_toldByCode 155 = .ok (.aload_n 0, 1)) ∧ (decode cX8_toldByCode 156 = .ok (.getfield 10, 3)) ∧ (decode cX8_toldByCode 159 = .ok (.getfield 133, 3)) ∧ (decode cX8_toldByCode 162 = .ok (.iload_n 2, 1)) ∧ (decode cX8_toldByCode 163 = .ok (.iconst 5, 1)) ∧ (decode cX8_toldByCode 164 = .ok (.imul, 1)) := by decide +kernel
theorem dX8_toldByCode_155 : decode cX8_toldByCode 155 = .ok (.aload_n 0, 1) := dX8_toldByCode_k50.1
theorem dX8_toldByCode_156 : decode cX8_toldByCode 156 = .ok (.getfield 10, 3) := dX8_toldByCode_k50.2.1
theorem dX8_toldByCode_159 : decode cX8_toldByCode 159 = .ok (.getfield 133, 3) := dX8_toldByCode_k50.2.2.1
theorem dX8_toldByCode_162 : decode cX8_toldByCode 162 = .ok (.iload_n 2, 1) := dX8_toldByCode_k50.2.2.2.1
theorem dX8_toldByCode_163 : decode cX8_toldByCode 163 = .ok (.iconst 5, 1) := dX8_toldByCode_k50.2.2.2.2.1
theorem dX8_toldByCode_164 : decode cX8_toldByCode 164 = .ok (.imul, 1) := dX8_toldByCode_k50.2.2.2.2.2
set_option maxRecDepth 100000 in
theorem dX8_toldByCode_k51 : (decode cX8_toldByCode 165 = .ok (.iload_n 3, 1)) ∧ (decode cX8_toldByCode 166 = .ok (.iadd, 1)) ∧ (decode cX8_toldByCode 167 = .ok (.iaload, 1)) ∧ (decode cX8_toldByCode 168 = .ok (.bipush 10, 2)) ∧ (decode cX8_toldByCode 170 = .ok (.iadd, 1)) ∧ (decode cX8_toldByCode 171 = .ok (.goto 5, 3)) := by decide +kernel
theorem dX8_toldByCode_165 : decode cX8_toldByCode 165 = .ok (.iload_n 3, 1) := dX8_toldByCode_k51.1
theorem dX8_toldByCode_166 : decode cX8_toldByCode 166 = .ok (.iadd, 1) := dX8_toldByCode_k51.2.1
theorem dX8_toldByCode_167 : decode cX8_toldByCode 167 = .ok (.iaload, 1) := dX8_toldByCode_k51.2.2.1
theorem dX8_toldByCode_168 : decode cX8_toldByCode 168 = .ok (.bipush 10, 2) := dX8_toldByCode_k51.2.2.2.1
theorem dX8_toldByCode_170 : decode cX8_toldByCode 170 = .ok (.iadd, 1) := dX8_toldByCode_k51.2.2.2.2.1
theorem dX8_toldByCode_171 : decode cX8_toldByCode 171 = .ok (.goto 5, 3) := dX8_toldByCode_k51.2.2.2.2.2
set_option maxRecDepth 100000 in
theorem dX8_toldByCode_k52 : (decode cX8_toldByCode 174 = .ok (.bipush (-2), 2)) ∧ (decode cX8_toldByCode 176 = .ok (.ireturn, 1)) := by decide +kernel
theorem dX8_toldByCode_174 : decode cX8_toldByCode 174 = .ok (.bipush (-2), 2) := dX8_toldByCode_k52.1
theorem dX8_toldByCode_176 : decode cX8_toldByCode 176 = .ok (.ireturn, 1) := dX8_toldByCode_k52.2
set_option maxRecDepth 100000 in
theorem dX8_playsOut_k53 : (decode cX8_playsOut 0 = .ok (.aload_n 0, 1)) ∧ (decode cX8_playsOut 1 = .ok (.getfield 27, 3)) ∧ (decode cX8_playsOut 4 = .ok (.aload_n 0, 1)) ∧ (decode cX8_playsOut 5 = .ok (.getfield 10, 3)) ∧ (decode cX8_playsOut 8 = .ok (.getfield 81, 3)) ∧ (decode cX8_playsOut 11 = .ok (.invokevirtual 142, 3)) := by decide +kernel
theorem dX8_playsOut_0 : decode cX8_playsOut 0 = .ok (.aload_n 0, 1) := dX8_playsOut_k53.1
theorem dX8_playsOut_1 : decode cX8_playsOut 1 = .ok (.getfield 27, 3) := dX8_playsOut_k53.2.1
theorem dX8_playsOut_4 : decode cX8_playsOut 4 = .ok (.aload_n 0, 1) := dX8_playsOut_k53.2.2.1
theorem dX8_playsOut_5 : decode cX8_playsOut 5 = .ok (.getfield 10, 3) := dX8_playsOut_k53.2.2.2.1
theorem dX8_playsOut_8 : decode cX8_playsOut 8 = .ok (.getfield 81, 3) := dX8_playsOut_k53.2.2.2.2.1
theorem dX8_playsOut_11 : decode cX8_playsOut 11 = .ok (.invokevirtual 142, 3) := dX8_playsOut_k53.2.2.2.2.2
set_option maxRecDepth 100000 in
theorem dX8_playsOut_k54 : (decode cX8_playsOut 14 = .ok (.bipush (-6), 2)) ∧ (decode cX8_playsOut 16 = .ok (.if_icmp .eq 5, 3)) ∧ (decode cX8_playsOut 19 = .ok (.iconst 0, 1)) ∧ (decode cX8_playsOut 20 = .ok (.ireturn, 1)) ∧ (decode cX8_playsOut 21 = .ok (.aload_n 0, 1)) ∧ (decode cX8_playsOut 22 = .ok (.getfield 41, 3)) := by decide +kernel
theorem dX8_playsOut_14 : decode cX8_playsOut 14 = .ok (.bipush (-6), 2) := dX8_playsOut_k54.1
theorem dX8_playsOut_16 : decode cX8_playsOut 16 = .ok (.if_icmp .eq 5, 3) := dX8_playsOut_k54.2.1
theorem dX8_playsOut_19 : decode cX8_playsOut 19 = .ok (.iconst 0, 1) := dX8_playsOut_k54.2.2.1
theorem dX8_playsOut_20 : decode cX8_playsOut 20 = .ok (.ireturn, 1) := dX8_playsOut_k54.2.2.2.1
theorem dX8_playsOut_21 : decode cX8_playsOut 21 = .ok (.aload_n 0, 1) := dX8_playsOut_k54.2.2.2.2.1
theorem dX8_playsOut_22 : decode cX8_playsOut 22 = .ok (.getfield 41, 3) := dX8_playsOut_k54.2.2.2.2.2
set_option maxRecDepth 100000 in
theorem dX8_playsOut_k55 : (decode cX8_playsOut 25 = .ok (.aload_n 0, 1)) ∧ (decode cX8_playsOut 26 = .ok (.getfield 27, 3)) ∧ (decode cX8_playsOut 29 = .ok (.aload_n 0, 1)) ∧ (decode cX8_playsOut 30 = .ok (.getfield 10, 3)) ∧ (decode cX8_playsOut 33 = .ok (.aload_n 0, 1)) ∧ (decode cX8_playsOut 34 = .ok (.getfield 34, 3)) := by decide +kernel
theorem dX8_playsOut_25 : decode cX8_playsOut 25 = .ok (.aload_n 0, 1) := dX8_playsOut_k55.1
theorem dX8_playsOut_26 : decode cX8_playsOut 26 = .ok (.getfield 27, 3) := dX8_playsOut_k55.2.1
theorem dX8_playsOut_29 : decode cX8_playsOut 29 = .ok (.aload_n 0, 1) := dX8_playsOut_k55.2.2.1
theorem dX8_playsOut_30 : decode cX8_playsOut 30 = .ok (.getfield 10, 3) := dX8_playsOut_k55.2.2.2.1
theorem dX8_playsOut_33 : decode cX8_playsOut 33 = .ok (.aload_n 0, 1) := dX8_playsOut_k55.2.2.2.2.1
theorem dX8_playsOut_34 : decode cX8_playsOut 34 = .ok (.getfield 34, 3) := dX8_playsOut_k55.2.2.2.2.2
set_option maxRecDepth 100000 in
theorem dX8_playsOut_k56 : (decode cX8_playsOut 37 = .ok (.invokevirtual 145, 3)) ∧ (decode cX8_playsOut 40 = .ok (.aload_n 0, 1)) ∧ (decode cX8_playsOut 41 = .ok (.getfield 41, 3)) ∧ (decode cX8_playsOut 44 = .ok (.getfield 149, 3)) ∧ (decode cX8_playsOut 47 = .ok (.ifCond .ne 7, 3)) ∧ (decode cX8_playsOut 50 = .ok (.iconst 1, 1)) := by decide +kernel
theorem dX8_playsOut_37 : decode cX8_playsOut 37 = .ok (.invokevirtual 145, 3) := dX8_playsOut_k56.1
theorem dX8_playsOut_40 : decode cX8_playsOut 40 = .ok (.aload_n 0, 1) := dX8_playsOut_k56.2.1
theorem dX8_playsOut_41 : decode cX8_playsOut 41 = .ok (.getfield 41, 3) := dX8_playsOut_k56.2.2.1
theorem dX8_playsOut_44 : decode cX8_playsOut 44 = .ok (.getfield 149, 3) := dX8_playsOut_k56.2.2.2.1
theorem dX8_playsOut_47 : decode cX8_playsOut 47 = .ok (.ifCond .ne 7, 3) := dX8_playsOut_k56.2.2.2.2.1
theorem dX8_playsOut_50 : decode cX8_playsOut 50 = .ok (.iconst 1, 1) := dX8_playsOut_k56.2.2.2.2.2
set_option maxRecDepth 100000 in
theorem dX8_playsOut_k57 : (decode cX8_playsOut 51 = .ok (.goto 4, 3)) ∧ (decode cX8_playsOut 54 = .ok (.iconst 0, 1)) ∧ (decode cX8_playsOut 55 = .ok (.ireturn, 1)) := by decide +kernel
theorem dX8_playsOut_51 : decode cX8_playsOut 51 = .ok (.goto 4, 3) := dX8_playsOut_k57.1
theorem dX8_playsOut_54 : decode cX8_playsOut 54 = .ok (.iconst 0, 1) := dX8_playsOut_k57.2.1
theorem dX8_playsOut_55 : decode cX8_playsOut 55 = .ok (.ireturn, 1) := dX8_playsOut_k57.2.2
set_option maxRecDepth 100000 in
theorem dX8_firstStill_k58 : (decode cX8_firstStill 0 = .ok (.aload_n 0, 1)) ∧ (decode cX8_firstStill 1 = .ok (.getfield 34, 3)) ∧ (decode cX8_firstStill 4 = .ok (.aload_n 0, 1)) ∧ (decode cX8_firstStill 5 = .ok (.getfield 10, 3)) ∧ (decode cX8_firstStill 8 = .ok (.invokevirtual 175, 3)) ∧ (decode cX8_firstStill 11 = .ok (.iconst 1, 1)) := by decide +kernel
theorem dX8_firstStill_0 : decode cX8_firstStill 0 = .ok (.aload_n 0, 1) := dX8_firstStill_k58.1
theorem dX8_firstStill_1 : decode cX8_firstStill 1 = .ok (.getfield 34, 3) := dX8_firstStill_k58.2.1
theorem dX8_firstStill_4 : decode cX8_firstStill 4 = .ok (.aload_n 0, 1) := dX8_firstStill_k58.2.2.1
theorem dX8_firstStill_5 : decode cX8_firstStill 5 = .ok (.getfield 10, 3) := dX8_firstStill_k58.2.2.2.1
theorem dX8_firstStill_8 : decode cX8_firstStill 8 = .ok (.invokevirtual 175, 3) := dX8_firstStill_k58.2.2.2.2.1
theorem dX8_firstStill_11 : decode cX8_firstStill 11 = .ok (.iconst 1, 1) := dX8_firstStill_k58.2.2.2.2.2
set_option maxRecDepth 100000 in
theorem dX8_firstStill_k59 : (decode cX8_firstStill 12 = .ok (.istore_n 1, 1)) ∧ (decode cX8_firstStill 13 = .ok (.iload_n 1, 1)) ∧ (decode cX8_firstStill 14 = .ok (.bipush 99, 2)) ∧ (decode cX8_firstStill 16 = .ok (.if_icmp .gt 21, 3)) ∧ (decode cX8_firstStill 19 = .ok (.aload_n 0, 1)) ∧ (decode cX8_firstStill 20 = .ok (.getfield 34, 3)) := by decide +kernel
theorem dX8_firstStill_12 : decode cX8_firstStill 12 = .ok (.istore_n 1, 1) := dX8_firstStill_k59.1
theorem dX8_firstStill_13 : decode cX8_firstStill 13 = .ok (.iload_n 1, 1) := dX8_firstStill_k59.2.1
theorem dX8_firstStill_14 : decode cX8_firstStill 14 = .ok (.bipush 99, 2) := dX8_firstStill_k59.2.2.1
theorem dX8_firstStill_16 : decode cX8_firstStill 16 = .ok (.if_icmp .gt 21, 3) := dX8_firstStill_k59.2.2.2.1
theorem dX8_firstStill_19 : decode cX8_firstStill 19 = .ok (.aload_n 0, 1) := dX8_firstStill_k59.2.2.2.2.1
theorem dX8_firstStill_20 : decode cX8_firstStill 20 = .ok (.getfield 34, 3) := dX8_firstStill_k59.2.2.2.2.2
set_option maxRecDepth 100000 in
theorem dX8_firstStill_k60 : (decode cX8_firstStill 23 = .ok (.invokevirtual 293, 3)) ∧ (decode cX8_firstStill 26 = .ok (.ifCond .eq 5, 3)) ∧ (decode cX8_firstStill 29 = .ok (.iload_n 1, 1)) ∧ (decode cX8_firstStill 30 = .ok (.ireturn, 1)) ∧ (decode cX8_firstStill 31 = .ok (.iinc 1 1, 3)) ∧ (decode cX8_firstStill 34 = .ok (.goto (-21), 3)) := by decide +kernel
theorem dX8_firstStill_23 : decode cX8_firstStill 23 = .ok (.invokevirtual 293, 3) := dX8_firstStill_k60.1
theorem dX8_firstStill_26 : decode cX8_firstStill 26 = .ok (.ifCond .eq 5, 3) := dX8_firstStill_k60.2.1
theorem dX8_firstStill_29 : decode cX8_firstStill 29 = .ok (.iload_n 1, 1) := dX8_firstStill_k60.2.2.1
theorem dX8_firstStill_30 : decode cX8_firstStill 30 = .ok (.ireturn, 1) := dX8_firstStill_k60.2.2.2.1
theorem dX8_firstStill_31 : decode cX8_firstStill 31 = .ok (.iinc 1 1, 3) := dX8_firstStill_k60.2.2.2.2.1
theorem dX8_firstStill_34 : decode cX8_firstStill 34 = .ok (.goto (-21), 3) := dX8_firstStill_k60.2.2.2.2.2
set_option maxRecDepth 100000 in
theorem dX8_firstStill_k61 : (decode cX8_firstStill 37 = .ok (.bipush (-6), 2)) ∧ (decode cX8_firstStill 39 = .ok (.ireturn, 1)) := by decide +kernel
theorem dX8_firstStill_37 : decode cX8_firstStill 37 = .ok (.bipush (-6), 2) := dX8_firstStill_k61.1
theorem dX8_firstStill_39 : decode cX8_firstStill 39 = .ok (.ireturn, 1) := dX8_firstStill_k61.2
set_option maxRecDepth 100000 in
theorem dX8_fullestBehind_k62 : (decode cX8_fullestBehind 0 = .ok (.aload_n 0, 1)) ∧ (decode cX8_fullestBehind 1 = .ok (.getfield 34, 3)) ∧ (decode cX8_fullestBehind 4 = .ok (.aload_n 0, 1)) ∧ (decode cX8_fullestBehind 5 = .ok (.getfield 10, 3)) ∧ (decode cX8_fullestBehind 8 = .ok (.invokevirtual 175, 3)) ∧ (decode cX8_fullestBehind 11 = .ok (.aload_n 0, 1)) := by decide +kernel
theorem dX8_fullestBehind_0 : decode cX8_fullestBehind 0 = .ok (.aload_n 0, 1) := dX8_fullestBehind_k62.1
theorem dX8_fullestBehind_1 : decode cX8_fullestBehind 1 = .ok (.getfield 34, 3) := dX8_fullestBehind_k62.2.1
theorem dX8_fullestBehind_4 : decode cX8_fullestBehind 4 = .ok (.aload_n 0, 1) := dX8_fullestBehind_k62.2.2.1
theorem dX8_fullestBehind_5 : decode cX8_fullestBehind 5 = .ok (.getfield 10, 3) := dX8_fullestBehind_k62.2.2.2.1
theorem dX8_fullestBehind_8 : decode cX8_fullestBehind 8 = .ok (.invokevirtual 175, 3) := dX8_fullestBehind_k62.2.2.2.2.1
theorem dX8_fullestBehind_11 : decode cX8_fullestBehind 11 = .ok (.aload_n 0, 1) := dX8_fullestBehind_k62.2.2.2.2.2
set_option maxRecDepth 100000 in
theorem dX8_fullestBehind_k63 : (decode cX8_fullestBehind 12 = .ok (.getfield 34, 3)) ∧ (decode cX8_fullestBehind 15 = .ok (.iload_n 1, 1)) ∧ (decode cX8_fullestBehind 16 = .ok (.invokevirtual 181, 3)) ∧ (decode cX8_fullestBehind 19 = .ok (.aload_n 0, 1)) ∧ (decode cX8_fullestBehind 20 = .ok (.getfield 34, 3)) ∧ (decode cX8_fullestBehind 23 = .ok (.invokevirtual 198, 3)) := by decide +kernel
theorem dX8_fullestBehind_12 : decode cX8_fullestBehind 12 = .ok (.getfield 34, 3) := dX8_fullestBehind_k63.1
theorem dX8_fullestBehind_15 : decode cX8_fullestBehind 15 = .ok (.iload_n 1, 1) := dX8_fullestBehind_k63.2.1
theorem dX8_fullestBehind_16 : decode cX8_fullestBehind 16 = .ok (.invokevirtual 181, 3) := dX8_fullestBehind_k63.2.2.1
theorem dX8_fullestBehind_19 : decode cX8_fullestBehind 19 = .ok (.aload_n 0, 1) := dX8_fullestBehind_k63.2.2.2.1
theorem dX8_fullestBehind_20 : decode cX8_fullestBehind 20 = .ok (.getfield 34, 3) := dX8_fullestBehind_k63.2.2.2.2.1
theorem dX8_fullestBehind_23 : decode cX8_fullestBehind 23 = .ok (.invokevirtual 198, 3) := dX8_fullestBehind_k63.2.2.2.2.2
theorem dX8_fullestBehind_26 : decode cX8_fullestBehind 26 = .ok (.ireturn, 1) := by decide +kernel
set_option maxRecDepth 100000 in
theorem dX8_fullestCarrying_k64 : (decode cX8_fullestCarrying 0 = .ok (.aload_n 0, 1)) ∧ (decode cX8_fullestCarrying 1 = .ok (.getfield 34, 3)) ∧ (decode cX8_fullestCarrying 4 = .ok (.getfield 159, 3)) ∧ (decode cX8_fullestCarrying 7 = .ok (.aload_n 0, 1)) ∧ (decode cX8_fullestCarrying 8 = .ok (.getfield 10, 3)) ∧ (decode cX8_fullestCarrying 11 = .ok (.invokevirtual 162, 3)) := by decide +kernel
theorem dX8_fullestCarrying_0 : decode cX8_fullestCarrying 0 = .ok (.aload_n 0, 1) := dX8_fullestCarrying_k64.1
theorem dX8_fullestCarrying_1 : decode cX8_fullestCarrying 1 = .ok (.getfield 34, 3) := dX8_fullestCarrying_k64.2.1
theorem dX8_fullestCarrying_4 : decode cX8_fullestCarrying 4 = .ok (.getfield 159, 3) := dX8_fullestCarrying_k64.2.2.1
theorem dX8_fullestCarrying_7 : decode cX8_fullestCarrying 7 = .ok (.aload_n 0, 1) := dX8_fullestCarrying_k64.2.2.2.1
theorem dX8_fullestCarrying_8 : decode cX8_fullestCarrying 8 = .ok (.getfield 10, 3) := dX8_fullestCarrying_k64.2.2.2.2.1
theorem dX8_fullestCarrying_11 : decode cX8_fullestCarrying 11 = .ok (.invokevirtual 162, 3) := dX8_fullestCarrying_k64.2.2.2.2.2
set_option maxRecDepth 100000 in
theorem dX8_fullestCarrying_k65 : (decode cX8_fullestCarrying 14 = .ok (.aload_n 0, 1)) ∧ (decode cX8_fullestCarrying 15 = .ok (.getfield 34, 3)) ∧ (decode cX8_fullestCarrying 18 = .ok (.getfield 159, 3)) ∧ (decode cX8_fullestCarrying 21 = .ok (.iload_n 1, 1)) ∧ (decode cX8_fullestCarrying 22 = .ok (.iload_n 2, 1)) ∧ (decode cX8_fullestCarrying 23 = .ok (.iload_n 3, 1)) := by decide +kernel
theorem dX8_fullestCarrying_14 : decode cX8_fullestCarrying 14 = .ok (.aload_n 0, 1) := dX8_fullestCarrying_k65.1
theorem dX8_fullestCarrying_15 : decode cX8_fullestCarrying 15 = .ok (.getfield 34, 3) := dX8_fullestCarrying_k65.2.1
theorem dX8_fullestCarrying_18 : decode cX8_fullestCarrying 18 = .ok (.getfield 159, 3) := dX8_fullestCarrying_k65.2.2.1
theorem dX8_fullestCarrying_21 : decode cX8_fullestCarrying 21 = .ok (.iload_n 1, 1) := dX8_fullestCarrying_k65.2.2.2.1
theorem dX8_fullestCarrying_22 : decode cX8_fullestCarrying 22 = .ok (.iload_n 2, 1) := dX8_fullestCarrying_k65.2.2.2.2.1
theorem dX8_fullestCarrying_23 : decode cX8_fullestCarrying 23 = .ok (.iload_n 3, 1) := dX8_fullestCarrying_k65.2.2.2.2.2
set_option maxRecDepth 100000 in
theorem dX8_fullestCarrying_k66 : (decode cX8_fullestCarrying 24 = .ok (.invokevirtual 296, 3)) ∧ (decode cX8_fullestCarrying 27 = .ok (.aload_n 0, 1)) ∧ (decode cX8_fullestCarrying 28 = .ok (.getfield 34, 3)) ∧ (decode cX8_fullestCarrying 31 = .ok (.invokevirtual 259, 3)) ∧ (decode cX8_fullestCarrying 34 = .ok (.aload_n 0, 1)) ∧ (decode cX8_fullestCarrying 35 = .ok (.getfield 34, 3)) := by decide +kernel
theorem dX8_fullestCarrying_24 : decode cX8_fullestCarrying 24 = .ok (.invokevirtual 296, 3) := dX8_fullestCarrying_k66.1
theorem dX8_fullestCarrying_27 : decode cX8_fullestCarrying 27 = .ok (.aload_n 0, 1) := dX8_fullestCarrying_k66.2.1
theorem dX8_fullestCarrying_28 : decode cX8_fullestCarrying 28 = .ok (.getfield 34, 3) := dX8_fullestCarrying_k66.2.2.1
theorem dX8_fullestCarrying_31 : decode cX8_fullestCarrying 31 = .ok (.invokevirtual 259, 3) := dX8_fullestCarrying_k66.2.2.2.1
theorem dX8_fullestCarrying_34 : decode cX8_fullestCarrying 34 = .ok (.aload_n 0, 1) := dX8_fullestCarrying_k66.2.2.2.2.1
theorem dX8_fullestCarrying_35 : decode cX8_fullestCarrying 35 = .ok (.getfield 34, 3) := dX8_fullestCarrying_k66.2.2.2.2.2
set_option maxRecDepth 100000 in
theorem dX8_fullestCarrying_k67 : (decode cX8_fullestCarrying 38 = .ok (.iload 4, 2)) ∧ (decode cX8_fullestCarrying 40 = .ok (.invokevirtual 181, 3)) ∧ (decode cX8_fullestCarrying 43 = .ok (.aload_n 0, 1)) ∧ (decode cX8_fullestCarrying 44 = .ok (.getfield 34, 3)) ∧ (decode cX8_fullestCarrying 47 = .ok (.invokevirtual 198, 3)) ∧ (decode cX8_fullestCarrying 50 = .ok (.ireturn, 1)) := by decide +kernel
theorem dX8_fullestCarrying_38 : decode cX8_fullestCarrying 38 = .ok (.iload 4, 2) := dX8_fullestCarrying_k67.1
theorem dX8_fullestCarrying_40 : decode cX8_fullestCarrying 40 = .ok (.invokevirtual 181, 3) := dX8_fullestCarrying_k67.2.1
theorem dX8_fullestCarrying_43 : decode cX8_fullestCarrying 43 = .ok (.aload_n 0, 1) := dX8_fullestCarrying_k67.2.2.1
theorem dX8_fullestCarrying_44 : decode cX8_fullestCarrying 44 = .ok (.getfield 34, 3) := dX8_fullestCarrying_k67.2.2.2.1
theorem dX8_fullestCarrying_47 : decode cX8_fullestCarrying 47 = .ok (.invokevirtual 198, 3) := dX8_fullestCarrying_k67.2.2.2.2.1
theorem dX8_fullestCarrying_50 : decode cX8_fullestCarrying 50 = .ok (.ireturn, 1) := dX8_fullestCarrying_k67.2.2.2.2.2
set_option maxRecDepth 100000 in
theorem dX8_fullestUnhinged_k68 : (decode cX8_fullestUnhinged 0 = .ok (.aload_n 0, 1)) ∧ (decode cX8_fullestUnhinged 1 = .ok (.getfield 34, 3)) ∧ (decode cX8_fullestUnhinged 4 = .ok (.aload_n 0, 1)) ∧ (decode cX8_fullestUnhinged 5 = .ok (.getfield 10, 3)) ∧ (decode cX8_fullestUnhinged 8 = .ok (.invokevirtual 175, 3)) ∧ (decode cX8_fullestUnhinged 11 = .ok (.aload_n 0, 1)) := by decide +kernel
theorem dX8_fullestUnhinged_0 : decode cX8_fullestUnhinged 0 = .ok (.aload_n 0, 1) := dX8_fullestUnhinged_k68.1
theorem dX8_fullestUnhinged_1 : decode cX8_fullestUnhinged 1 = .ok (.getfield 34, 3) := dX8_fullestUnhinged_k68.2.1
theorem dX8_fullestUnhinged_4 : decode cX8_fullestUnhinged 4 = .ok (.aload_n 0, 1) := dX8_fullestUnhinged_k68.2.2.1
theorem dX8_fullestUnhinged_5 : decode cX8_fullestUnhinged 5 = .ok (.getfield 10, 3) := dX8_fullestUnhinged_k68.2.2.2.1
theorem dX8_fullestUnhinged_8 : decode cX8_fullestUnhinged 8 = .ok (.invokevirtual 175, 3) := dX8_fullestUnhinged_k68.2.2.2.2.1
theorem dX8_fullestUnhinged_11 : decode cX8_fullestUnhinged 11 = .ok (.aload_n 0, 1) := dX8_fullestUnhinged_k68.2.2.2.2.2
set_option maxRecDepth 100000 in
theorem dX8_fullestUnhinged_k69 : (decode cX8_fullestUnhinged 12 = .ok (.getfield 34, 3)) ∧ (decode cX8_fullestUnhinged 15 = .ok (.iload_n 1, 1)) ∧ (decode cX8_fullestUnhinged 16 = .ok (.iload_n 2, 1)) ∧ (decode cX8_fullestUnhinged 17 = .ok (.invokevirtual 300, 3)) ∧ (decode cX8_fullestUnhinged 20 = .ok (.aload_n 0, 1)) ∧ (decode cX8_fullestUnhinged 21 = .ok (.getfield 34, 3)) := by decide +kernel
theorem dX8_fullestUnhinged_12 : decode cX8_fullestUnhinged 12 = .ok (.getfield 34, 3) := dX8_fullestUnhinged_k69.1
theorem dX8_fullestUnhinged_15 : decode cX8_fullestUnhinged 15 = .ok (.iload_n 1, 1) := dX8_fullestUnhinged_k69.2.1
theorem dX8_fullestUnhinged_16 : decode cX8_fullestUnhinged 16 = .ok (.iload_n 2, 1) := dX8_fullestUnhinged_k69.2.2.1
theorem dX8_fullestUnhinged_17 : decode cX8_fullestUnhinged 17 = .ok (.invokevirtual 300, 3) := dX8_fullestUnhinged_k69.2.2.2.1
theorem dX8_fullestUnhinged_20 : decode cX8_fullestUnhinged 20 = .ok (.aload_n 0, 1) := dX8_fullestUnhinged_k69.2.2.2.2.1
theorem dX8_fullestUnhinged_21 : decode cX8_fullestUnhinged 21 = .ok (.getfield 34, 3) := dX8_fullestUnhinged_k69.2.2.2.2.2
set_option maxRecDepth 100000 in
theorem dX8_fullestUnhinged_k70 : (decode cX8_fullestUnhinged 24 = .ok (.iload_n 3, 1)) ∧ (decode cX8_fullestUnhinged 25 = .ok (.invokevirtual 181, 3)) ∧ (decode cX8_fullestUnhinged 28 = .ok (.aload_n 0, 1)) ∧ (decode cX8_fullestUnhinged 29 = .ok (.getfield 34, 3)) ∧ (decode cX8_fullestUnhinged 32 = .ok (.invokevirtual 198, 3)) ∧ (decode cX8_fullestUnhinged 35 = .ok (.ireturn, 1)) := by decide +kernel
theorem dX8_fullestUnhinged_24 : decode cX8_fullestUnhinged 24 = .ok (.iload_n 3, 1) := dX8_fullestUnhinged_k70.1
theorem dX8_fullestUnhinged_25 : decode cX8_fullestUnhinged 25 = .ok (.invokevirtual 181, 3) := dX8_fullestUnhinged_k70.2.1
theorem dX8_fullestUnhinged_28 : decode cX8_fullestUnhinged 28 = .ok (.aload_n 0, 1) := dX8_fullestUnhinged_k70.2.2.1
theorem dX8_fullestUnhinged_29 : decode cX8_fullestUnhinged 29 = .ok (.getfield 34, 3) := dX8_fullestUnhinged_k70.2.2.2.1
theorem dX8_fullestUnhinged_32 : decode cX8_fullestUnhinged 32 = .ok (.invokevirtual 198, 3) := dX8_fullestUnhinged_k70.2.2.2.2.1
theorem dX8_fullestUnhinged_35 : decode cX8_fullestUnhinged 35 = .ok (.ireturn, 1) := dX8_fullestUnhinged_k70.2.2.2.2.2
set_option maxRecDepth 100000 in
theorem dX8_leadsTo_k71 : (decode cX8_leadsTo 0 = .ok (.aload_n 0, 1)) ∧ (decode cX8_leadsTo 1 = .ok (.getfield 10, 3)) ∧ (decode cX8_leadsTo 4 = .ok (.iload_n 2, 1)) ∧ (decode cX8_leadsTo 5 = .ok (.invokevirtual 184, 3)) ∧ (decode cX8_leadsTo 8 = .ok (.iload_n 1, 1)) ∧ (decode cX8_leadsTo 9 = .ok (.ior, 1)) := by decide +kernel
theorem dX8_leadsTo_0 : decode cX8_leadsTo 0 = .ok (.aload_n 0, 1) := dX8_leadsTo_k71.1
theorem dX8_leadsTo_1 : decode cX8_leadsTo 1 = .ok (.getfield 10, 3) := dX8_leadsTo_k71.2.1
theorem dX8_leadsTo_4 : decode cX8_leadsTo 4 = .ok (.iload_n 2, 1) := dX8_leadsTo_k71.2.2.1
theorem dX8_leadsTo_5 : decode cX8_leadsTo 5 = .ok (.invokevirtual 184, 3) := dX8_leadsTo_k71.2.2.2.1
theorem dX8_leadsTo_8 : decode cX8_leadsTo 8 = .ok (.iload_n 1, 1) := dX8_leadsTo_k71.2.2.2.2.1
theorem dX8_leadsTo_9 : decode cX8_leadsTo 9 = .ok (.ior, 1) := dX8_leadsTo_k71.2.2.2.2.2
set_option maxRecDepth 100000 in
theorem dX8_leadsTo_k72 : (decode cX8_leadsTo 10 = .ok (.invokestatic 125, 3)) ∧ (decode cX8_leadsTo 13 = .ok (.istore 5, 2)) ∧ (decode cX8_leadsTo 15 = .ok (.iload 5, 2)) ∧ (decode cX8_leadsTo 17 = .ok (.aload_n 0, 1)) ∧ (decode cX8_leadsTo 18 = .ok (.getfield 10, 3)) ∧ (decode cX8_leadsTo 21 = .ok (.iload_n 2, 1)) := by decide +kernel
theorem dX8_leadsTo_10 : decode cX8_leadsTo 10 = .ok (.invokestatic 125, 3) := dX8_leadsTo_k72.1
theorem dX8_leadsTo_13 : decode cX8_leadsTo 13 = .ok (.istore 5, 2) := dX8_leadsTo_k72.2.1
theorem dX8_leadsTo_15 : decode cX8_leadsTo 15 = .ok (.iload 5, 2) := dX8_leadsTo_k72.2.2.1
theorem dX8_leadsTo_17 : decode cX8_leadsTo 17 = .ok (.aload_n 0, 1) := dX8_leadsTo_k72.2.2.2.1
theorem dX8_leadsTo_18 : decode cX8_leadsTo 18 = .ok (.getfield 10, 3) := dX8_leadsTo_k72.2.2.2.2.1
theorem dX8_leadsTo_21 : decode cX8_leadsTo 21 = .ok (.iload_n 2, 1) := dX8_leadsTo_k72.2.2.2.2.2
set_option maxRecDepth 100000 in
theorem dX8_leadsTo_k73 : (decode cX8_leadsTo 22 = .ok (.invokevirtual 113, 3)) ∧ (decode cX8_leadsTo 25 = .ok (.if_icmp .le 5, 3)) ∧ (decode cX8_leadsTo 28 = .ok (.iconst 0, 1)) ∧ (decode cX8_leadsTo 29 = .ok (.ireturn, 1)) ∧ (decode cX8_leadsTo 30 = .ok (.aload_n 0, 1)) ∧ (decode cX8_leadsTo 31 = .ok (.getfield 34, 3)) := by decide +kernel
theorem dX8_leadsTo_22 : decode cX8_leadsTo 22 = .ok (.invokevirtual 113, 3) := dX8_leadsTo_k73.1
theorem dX8_leadsTo_25 : decode cX8_leadsTo 25 = .ok (.if_icmp .le 5, 3) := dX8_leadsTo_k73.2.1
theorem dX8_leadsTo_28 : decode cX8_leadsTo 28 = .ok (.iconst 0, 1) := dX8_leadsTo_k73.2.2.1
theorem dX8_leadsTo_29 : decode cX8_leadsTo 29 = .ok (.ireturn, 1) := dX8_leadsTo_k73.2.2.2.1
theorem dX8_leadsTo_30 : decode cX8_leadsTo 30 = .ok (.aload_n 0, 1) := dX8_leadsTo_k73.2.2.2.2.1
theorem dX8_leadsTo_31 : decode cX8_leadsTo 31 = .ok (.getfield 34, 3) := dX8_leadsTo_k73.2.2.2.2.2
set_option maxRecDepth 100000 in
theorem dX8_leadsTo_k74 : (decode cX8_leadsTo 34 = .ok (.getfield 159, 3)) ∧ (decode cX8_leadsTo 37 = .ok (.aload_n 0, 1)) ∧ (decode cX8_leadsTo 38 = .ok (.getfield 10, 3)) ∧ (decode cX8_leadsTo 41 = .ok (.invokevirtual 162, 3)) ∧ (decode cX8_leadsTo 44 = .ok (.iconst 0, 1)) ∧ (decode cX8_leadsTo 45 = .ok (.istore 6, 2)) := by decide +kernel
theorem dX8_leadsTo_34 : decode cX8_leadsTo 34 = .ok (.getfield 159, 3) := dX8_leadsTo_k74.1
theorem dX8_leadsTo_37 : decode cX8_leadsTo 37 = .ok (.aload_n 0, 1) := dX8_leadsTo_k74.2.1
theorem dX8_leadsTo_38 : decode cX8_leadsTo 38 = .ok (.getfield 10, 3) := dX8_leadsTo_k74.2.2.1
theorem dX8_leadsTo_41 : decode cX8_leadsTo 41 = .ok (.invokevirtual 162, 3) := dX8_leadsTo_k74.2.2.2.1
theorem dX8_leadsTo_44 : decode cX8_leadsTo 44 = .ok (.iconst 0, 1) := dX8_leadsTo_k74.2.2.2.2.1
theorem dX8_leadsTo_45 : decode cX8_leadsTo 45 = .ok (.istore 6, 2) := dX8_leadsTo_k74.2.2.2.2.2
set_option maxRecDepth 100000 in
theorem dX8_leadsTo_k75 : (decode cX8_leadsTo 47 = .ok (.iload 6, 2)) ∧ (decode cX8_leadsTo 49 = .ok (.bipush 8, 2)) ∧ (decode cX8_leadsTo 51 = .ok (.if_icmp .ge 44, 3)) ∧ (decode cX8_leadsTo 54 = .ok (.iload_n 1, 1)) ∧ (decode cX8_leadsTo 55 = .ok (.iload 6, 2)) ∧ (decode cX8_leadsTo 57 = .ok (.invokestatic 220, 3)) := by decide +kernel
theorem dX8_leadsTo_47 : decode cX8_leadsTo 47 = .ok (.iload 6, 2) := dX8_leadsTo_k75.1
theorem dX8_leadsTo_49 : decode cX8_leadsTo 49 = .ok (.bipush 8, 2) := dX8_leadsTo_k75.2.1
theorem dX8_leadsTo_51 : decode cX8_leadsTo 51 = .ok (.if_icmp .ge 44, 3) := dX8_leadsTo_k75.2.2.1
theorem dX8_leadsTo_54 : decode cX8_leadsTo 54 = .ok (.iload_n 1, 1) := dX8_leadsTo_k75.2.2.2.1
theorem dX8_leadsTo_55 : decode cX8_leadsTo 55 = .ok (.iload 6, 2) := dX8_leadsTo_k75.2.2.2.2.1
theorem dX8_leadsTo_57 : decode cX8_leadsTo 57 = .ok (.invokestatic 220, 3) := dX8_leadsTo_k75.2.2.2.2.2
set_option maxRecDepth 100000 in
theorem dX8_leadsTo_k76 : (decode cX8_leadsTo 60 = .ok (.ifCond .eq 29, 3)) ∧ (decode cX8_leadsTo 63 = .ok (.aload_n 0, 1)) ∧ (decode cX8_leadsTo 64 = .ok (.getfield 34, 3)) ∧ (decode cX8_leadsTo 67 = .ok (.getfield 159, 3)) ∧ (decode cX8_leadsTo 70 = .ok (.getfield 122, 3)) ∧ (decode cX8_leadsTo 73 = .ok (.iload 6, 2)) := by decide +kernel
theorem dX8_leadsTo_60 : decode cX8_leadsTo 60 = .ok (.ifCond .eq 29, 3) := dX8_leadsTo_k76.1
theorem dX8_leadsTo_63 : decode cX8_leadsTo 63 = .ok (.aload_n 0, 1) := dX8_leadsTo_k76.2.1
theorem dX8_leadsTo_64 : decode cX8_leadsTo 64 = .ok (.getfield 34, 3) := dX8_leadsTo_k76.2.2.1
theorem dX8_leadsTo_67 : decode cX8_leadsTo 67 = .ok (.getfield 159, 3) := dX8_leadsTo_k76.2.2.2.1
theorem dX8_leadsTo_70 : decode cX8_leadsTo 70 = .ok (.getfield 122, 3) := dX8_leadsTo_k76.2.2.2.2.1
theorem dX8_leadsTo_73 : decode cX8_leadsTo 73 = .ok (.iload 6, 2) := dX8_leadsTo_k76.2.2.2.2.2
set_option maxRecDepth 100000 in
theorem dX8_leadsTo_k77 : (decode cX8_leadsTo 75 = .ok (.iload_n 2, 1)) ∧ (decode cX8_leadsTo 76 = .ok (.iastore, 1)) ∧ (decode cX8_leadsTo 77 = .ok (.aload_n 0, 1)) ∧ (decode cX8_leadsTo 78 = .ok (.getfield 34, 3)) ∧ (decode cX8_leadsTo 81 = .ok (.getfield 159, 3)) ∧ (decode cX8_leadsTo 84 = .ok (.iload 6, 2)) := by decide +kernel
theorem dX8_leadsTo_75 : decode cX8_leadsTo 75 = .ok (.iload_n 2, 1) := dX8_leadsTo_k77.1
theorem dX8_leadsTo_76 : decode cX8_leadsTo 76 = .ok (.iastore, 1) := dX8_leadsTo_k77.2.1
theorem dX8_leadsTo_77 : decode cX8_leadsTo 77 = .ok (.aload_n 0, 1) := dX8_leadsTo_k77.2.2.1
theorem dX8_leadsTo_78 : decode cX8_leadsTo 78 = .ok (.getfield 34, 3) := dX8_leadsTo_k77.2.2.2.1
theorem dX8_leadsTo_81 : decode cX8_leadsTo 81 = .ok (.getfield 159, 3) := dX8_leadsTo_k77.2.2.2.2.1
theorem dX8_leadsTo_84 : decode cX8_leadsTo 84 = .ok (.iload 6, 2) := dX8_leadsTo_k77.2.2.2.2.2
set_option maxRecDepth 100000 in
theorem dX8_leadsTo_k78 : (decode cX8_leadsTo 86 = .ok (.invokevirtual 304, 3)) ∧ (decode cX8_leadsTo 89 = .ok (.iinc 6 1, 3)) ∧ (decode cX8_leadsTo 92 = .ok (.goto (-45), 3)) ∧ (decode cX8_leadsTo 95 = .ok (.aload_n 0, 1)) ∧ (decode cX8_leadsTo 96 = .ok (.getfield 34, 3)) ∧ (decode cX8_leadsTo 99 = .ok (.invokevirtual 259, 3)) := by decide +kernel
theorem dX8_leadsTo_86 : decode cX8_leadsTo 86 = .ok (.invokevirtual 304, 3) := dX8_leadsTo_k78.1
theorem dX8_leadsTo_89 : decode cX8_leadsTo 89 = .ok (.iinc 6 1, 3) := dX8_leadsTo_k78.2.1
theorem dX8_leadsTo_92 : decode cX8_leadsTo 92 = .ok (.goto (-45), 3) := dX8_leadsTo_k78.2.2.1
theorem dX8_leadsTo_95 : decode cX8_leadsTo 95 = .ok (.aload_n 0, 1) := dX8_leadsTo_k78.2.2.2.1
theorem dX8_leadsTo_96 : decode cX8_leadsTo 96 = .ok (.getfield 34, 3) := dX8_leadsTo_k78.2.2.2.2.1
theorem dX8_leadsTo_99 : decode cX8_leadsTo 99 = .ok (.invokevirtual 259, 3) := dX8_leadsTo_k78.2.2.2.2.2
set_option maxRecDepth 100000 in
theorem dX8_leadsTo_k79 : (decode cX8_leadsTo 102 = .ok (.aload_n 0, 1)) ∧ (decode cX8_leadsTo 103 = .ok (.getfield 34, 3)) ∧ (decode cX8_leadsTo 106 = .ok (.iload 4, 2)) ∧ (decode cX8_leadsTo 108 = .ok (.invokevirtual 181, 3)) ∧ (decode cX8_leadsTo 111 = .ok (.aload_n 0, 1)) ∧ (decode cX8_leadsTo 112 = .ok (.getfield 34, 3)) := by decide +kernel
theorem dX8_leadsTo_102 : decode cX8_leadsTo 102 = .ok (.aload_n 0, 1) := dX8_leadsTo_k79.1
theorem dX8_leadsTo_103 : decode cX8_leadsTo 103 = .ok (.getfield 34, 3) := dX8_leadsTo_k79.2.1
theorem dX8_leadsTo_106 : decode cX8_leadsTo 106 = .ok (.iload 4, 2) := dX8_leadsTo_k79.2.2.1
theorem dX8_leadsTo_108 : decode cX8_leadsTo 108 = .ok (.invokevirtual 181, 3) := dX8_leadsTo_k79.2.2.2.1
theorem dX8_leadsTo_111 : decode cX8_leadsTo 111 = .ok (.aload_n 0, 1) := dX8_leadsTo_k79.2.2.2.2.1
theorem dX8_leadsTo_112 : decode cX8_leadsTo 112 = .ok (.getfield 34, 3) := dX8_leadsTo_k79.2.2.2.2.2
set_option maxRecDepth 100000 in
theorem dX8_leadsTo_k80 : (decode cX8_leadsTo 115 = .ok (.getfield 159, 3)) ∧ (decode cX8_leadsTo 118 = .ok (.iload_n 2, 1)) ∧ (decode cX8_leadsTo 119 = .ok (.invokevirtual 89, 3)) ∧ (decode cX8_leadsTo 122 = .ok (.iload_n 3, 1)) ∧ (decode cX8_leadsTo 123 = .ok (.if_icmp .lt 7, 3)) ∧ (decode cX8_leadsTo 126 = .ok (.iconst 1, 1)) := by decide +kernel
theorem dX8_leadsTo_115 : decode cX8_leadsTo 115 = .ok (.getfield 159, 3) := dX8_leadsTo_k80.1
theorem dX8_leadsTo_118 : decode cX8_leadsTo 118 = .ok (.iload_n 2, 1) := dX8_leadsTo_k80.2.1
theorem dX8_leadsTo_119 : decode cX8_leadsTo 119 = .ok (.invokevirtual 89, 3) := dX8_leadsTo_k80.2.2.1
theorem dX8_leadsTo_122 : decode cX8_leadsTo 122 = .ok (.iload_n 3, 1) := dX8_leadsTo_k80.2.2.2.1
theorem dX8_leadsTo_123 : decode cX8_leadsTo 123 = .ok (.if_icmp .lt 7, 3) := dX8_leadsTo_k80.2.2.2.2.1
theorem dX8_leadsTo_126 : decode cX8_leadsTo 126 = .ok (.iconst 1, 1) := dX8_leadsTo_k80.2.2.2.2.2
set_option maxRecDepth 100000 in
theorem dX8_leadsTo_k81 : (decode cX8_leadsTo 127 = .ok (.goto 4, 3)) ∧ (decode cX8_leadsTo 130 = .ok (.iconst 0, 1)) ∧ (decode cX8_leadsTo 131 = .ok (.ireturn, 1)) := by decide +kernel
theorem dX8_leadsTo_127 : decode cX8_leadsTo 127 = .ok (.goto 4, 3) := dX8_leadsTo_k81.1
theorem dX8_leadsTo_130 : decode cX8_leadsTo 130 = .ok (.iconst 0, 1) := dX8_leadsTo_k81.2.1
theorem dX8_leadsTo_131 : decode cX8_leadsTo 131 = .ok (.ireturn, 1) := dX8_leadsTo_k81.2.2
set_option maxRecDepth 100000 in
theorem dX8_isIn_k82 : (decode cX8_isIn 0 = .ok (.iload_n 1, 1)) ∧ (decode cX8_isIn 1 = .ok (.ifCond .lt 22, 3)) ∧ (decode cX8_isIn 4 = .ok (.iload_n 1, 1)) ∧ (decode cX8_isIn 5 = .ok (.bipush 8, 2)) ∧ (decode cX8_isIn 7 = .ok (.if_icmp .ge 16, 3)) ∧ (decode cX8_isIn 10 = .ok (.iload_n 0, 1)) := by decide +kernel
theorem dX8_isIn_0 : decode cX8_isIn 0 = .ok (.iload_n 1, 1) := dX8_isIn_k82.1
theorem dX8_isIn_1 : decode cX8_isIn 1 = .ok (.ifCond .lt 22, 3) := dX8_isIn_k82.2.1
theorem dX8_isIn_4 : decode cX8_isIn 4 = .ok (.iload_n 1, 1) := dX8_isIn_k82.2.2.1
theorem dX8_isIn_5 : decode cX8_isIn 5 = .ok (.bipush 8, 2) := dX8_isIn_k82.2.2.2.1
theorem dX8_isIn_7 : decode cX8_isIn 7 = .ok (.if_icmp .ge 16, 3) := dX8_isIn_k82.2.2.2.2.1
theorem dX8_isIn_10 : decode cX8_isIn 10 = .ok (.iload_n 0, 1) := dX8_isIn_k82.2.2.2.2.2
set_option maxRecDepth 100000 in
theorem dX8_isIn_k83 : (decode cX8_isIn 11 = .ok (.iload_n 1, 1)) ∧ (decode cX8_isIn 12 = .ok (.ishr, 1)) ∧ (decode cX8_isIn 13 = .ok (.iconst 1, 1)) ∧ (decode cX8_isIn 14 = .ok (.iand, 1)) ∧ (decode cX8_isIn 15 = .ok (.iconst 1, 1)) ∧ (decode cX8_isIn 16 = .ok (.if_icmp .ne 7, 3)) := by decide +kernel
theorem dX8_isIn_11 : decode cX8_isIn 11 = .ok (.iload_n 1, 1) := dX8_isIn_k83.1
theorem dX8_isIn_12 : decode cX8_isIn 12 = .ok (.ishr, 1) := dX8_isIn_k83.2.1
theorem dX8_isIn_13 : decode cX8_isIn 13 = .ok (.iconst 1, 1) := dX8_isIn_k83.2.2.1
theorem dX8_isIn_14 : decode cX8_isIn 14 = .ok (.iand, 1) := dX8_isIn_k83.2.2.2.1
theorem dX8_isIn_15 : decode cX8_isIn 15 = .ok (.iconst 1, 1) := dX8_isIn_k83.2.2.2.2.1
theorem dX8_isIn_16 : decode cX8_isIn 16 = .ok (.if_icmp .ne 7, 3) := dX8_isIn_k83.2.2.2.2.2
set_option maxRecDepth 100000 in
theorem dX8_isIn_k84 : (decode cX8_isIn 19 = .ok (.iconst 1, 1)) ∧ (decode cX8_isIn 20 = .ok (.goto 4, 3)) ∧ (decode cX8_isIn 23 = .ok (.iconst 0, 1)) ∧ (decode cX8_isIn 24 = .ok (.ireturn, 1)) := by decide +kernel
theorem dX8_isIn_19 : decode cX8_isIn 19 = .ok (.iconst 1, 1) := dX8_isIn_k84.1
theorem dX8_isIn_20 : decode cX8_isIn 20 = .ok (.goto 4, 3) := dX8_isIn_k84.2.1
theorem dX8_isIn_23 : decode cX8_isIn 23 = .ok (.iconst 0, 1) := dX8_isIn_k84.2.2.1
theorem dX8_isIn_24 : decode cX8_isIn 24 = .ok (.ireturn, 1) := dX8_isIn_k84.2.2.2
