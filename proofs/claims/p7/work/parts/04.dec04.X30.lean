set_option maxRecDepth 100000 in
theorem dX3_init_k0 : (decode cX3_init 0 = .ok (.aload_n 0, 1)) ∧ (decode cX3_init 1 = .ok (.invokespecial 3, 3)) ∧ (decode cX3_init 4 = .ok (.return_, 1)) := by decide +kernel
theorem dX3_init_0 : decode cX3_init 0 = .ok (.aload_n 0, 1) := dX3_init_k0.1
theorem dX3_init_1 : decode cX3_init 1 = .ok (.invokespecial 3, 3) := dX3_init_k0.2.1
theorem dX3_init_4 : decode cX3_init 4 = .ok (.return_, 1) := dX3_init_k0.2.2
set_option maxRecDepth 100000 in
theorem dX3_perform_k1 : (decode cX3_perform 0 = .ok (.aload_n 3, 1)) ∧ (decode cX3_perform 1 = .ok (.aload_n 2, 1)) ∧ (decode cX3_perform 2 = .ok (.invokevirtual 9, 3)) ∧ (decode cX3_perform 5 = .ok (.aload_n 0, 1)) ∧ (decode cX3_perform 6 = .ok (.iconst 0, 1)) ∧ (decode cX3_perform 7 = .ok (.putfield 15, 3)) := by decide +kernel
theorem dX3_perform_0 : decode cX3_perform 0 = .ok (.aload_n 3, 1) := dX3_perform_k1.1
theorem dX3_perform_1 : decode cX3_perform 1 = .ok (.aload_n 2, 1) := dX3_perform_k1.2.1
theorem dX3_perform_2 : decode cX3_perform 2 = .ok (.invokevirtual 9, 3) := dX3_perform_k1.2.2.1
theorem dX3_perform_5 : decode cX3_perform 5 = .ok (.aload_n 0, 1) := dX3_perform_k1.2.2.2.1
theorem dX3_perform_6 : decode cX3_perform 6 = .ok (.iconst 0, 1) := dX3_perform_k1.2.2.2.2.1
theorem dX3_perform_7 : decode cX3_perform 7 = .ok (.putfield 15, 3) := dX3_perform_k1.2.2.2.2.2
set_option maxRecDepth 100000 in
theorem dX3_perform_k2 : (decode cX3_perform 10 = .ok (.aload_n 0, 1)) ∧ (decode cX3_perform 11 = .ok (.iconst 0, 1)) ∧ (decode cX3_perform 12 = .ok (.putfield 21, 3)) ∧ (decode cX3_perform 15 = .ok (.iconst 0, 1)) ∧ (decode cX3_perform 16 = .ok (.istore 4, 2)) ∧ (decode cX3_perform 18 = .ok (.iconst 0, 1)) := by decide +kernel
theorem dX3_perform_10 : decode cX3_perform 10 = .ok (.aload_n 0, 1) := dX3_perform_k2.1
theorem dX3_perform_11 : decode cX3_perform 11 = .ok (.iconst 0, 1) := dX3_perform_k2.2.1
theorem dX3_perform_12 : decode cX3_perform 12 = .ok (.putfield 21, 3) := dX3_perform_k2.2.2.1
theorem dX3_perform_15 : decode cX3_perform 15 = .ok (.iconst 0, 1) := dX3_perform_k2.2.2.2.1
theorem dX3_perform_16 : decode cX3_perform 16 = .ok (.istore 4, 2) := dX3_perform_k2.2.2.2.2.1
theorem dX3_perform_18 : decode cX3_perform 18 = .ok (.iconst 0, 1) := dX3_perform_k2.2.2.2.2.2
set_option maxRecDepth 100000 in
theorem dX3_perform_k3 : (decode cX3_perform 19 = .ok (.istore 5, 2)) ∧ (decode cX3_perform 21 = .ok (.iload 5, 2)) ∧ (decode cX3_perform 23 = .ok (.bipush 60, 2)) ∧ (decode cX3_perform 25 = .ok (.if_icmp .ge 85, 3)) ∧ (decode cX3_perform 28 = .ok (.iload 4, 2)) ∧ (decode cX3_perform 30 = .ok (.aload_n 1, 1)) := by decide +kernel
theorem dX3_perform_19 : decode cX3_perform 19 = .ok (.istore 5, 2) := dX3_perform_k3.1
theorem dX3_perform_21 : decode cX3_perform 21 = .ok (.iload 5, 2) := dX3_perform_k3.2.1
theorem dX3_perform_23 : decode cX3_perform 23 = .ok (.bipush 60, 2) := dX3_perform_k3.2.2.1
theorem dX3_perform_25 : decode cX3_perform 25 = .ok (.if_icmp .ge 85, 3) := dX3_perform_k3.2.2.2.1
theorem dX3_perform_28 : decode cX3_perform 28 = .ok (.iload 4, 2) := dX3_perform_k3.2.2.2.2.1
theorem dX3_perform_30 : decode cX3_perform 30 = .ok (.aload_n 1, 1) := dX3_perform_k3.2.2.2.2.2
set_option maxRecDepth 100000 in
theorem dX3_perform_k4 : (decode cX3_perform 31 = .ok (.getfield 24, 3)) ∧ (decode cX3_perform 34 = .ok (.if_icmp .ge 76, 3)) ∧ (decode cX3_perform 37 = .ok (.aload_n 1, 1)) ∧ (decode cX3_perform 38 = .ok (.iload 4, 2)) ∧ (decode cX3_perform 40 = .ok (.invokestatic 29, 3)) ∧ (decode cX3_perform 43 = .ok (.istore 6, 2)) := by decide +kernel
theorem dX3_perform_31 : decode cX3_perform 31 = .ok (.getfield 24, 3) := dX3_perform_k4.1
theorem dX3_perform_34 : decode cX3_perform 34 = .ok (.if_icmp .ge 76, 3) := dX3_perform_k4.2.1
theorem dX3_perform_37 : decode cX3_perform 37 = .ok (.aload_n 1, 1) := dX3_perform_k4.2.2.1
theorem dX3_perform_38 : decode cX3_perform 38 = .ok (.iload 4, 2) := dX3_perform_k4.2.2.2.1
theorem dX3_perform_40 : decode cX3_perform 40 = .ok (.invokestatic 29, 3) := dX3_perform_k4.2.2.2.2.1
theorem dX3_perform_43 : decode cX3_perform 43 = .ok (.istore 6, 2) := dX3_perform_k4.2.2.2.2.2
set_option maxRecDepth 100000 in
theorem dX3_perform_k5 : (decode cX3_perform 45 = .ok (.iload 6, 2)) ∧ (decode cX3_perform 47 = .ok (.iconst 1, 1)) ∧ (decode cX3_perform 48 = .ok (.if_icmp .ne 15, 3)) ∧ (decode cX3_perform 51 = .ok (.aload_n 3, 1)) ∧ (decode cX3_perform 52 = .ok (.invokevirtual 33, 3)) ∧ (decode cX3_perform 55 = .ok (.aload_n 3, 1)) := by decide +kernel
theorem dX3_perform_45 : decode cX3_perform 45 = .ok (.iload 6, 2) := dX3_perform_k5.1
theorem dX3_perform_47 : decode cX3_perform 47 = .ok (.iconst 1, 1) := dX3_perform_k5.2.1
theorem dX3_perform_48 : decode cX3_perform 48 = .ok (.if_icmp .ne 15, 3) := dX3_perform_k5.2.2.1
theorem dX3_perform_51 : decode cX3_perform 51 = .ok (.aload_n 3, 1) := dX3_perform_k5.2.2.2.1
theorem dX3_perform_52 : decode cX3_perform 52 = .ok (.invokevirtual 33, 3) := dX3_perform_k5.2.2.2.2.1
theorem dX3_perform_55 : decode cX3_perform 55 = .ok (.aload_n 3, 1) := dX3_perform_k5.2.2.2.2.2
set_option maxRecDepth 100000 in
theorem dX3_perform_k6 : (decode cX3_perform 56 = .ok (.invokevirtual 36, 3)) ∧ (decode cX3_perform 59 = .ok (.pop, 1)) ∧ (decode cX3_perform 60 = .ok (.goto 19, 3)) ∧ (decode cX3_perform 63 = .ok (.aload_n 0, 1)) ∧ (decode cX3_perform 64 = .ok (.aload_n 1, 1)) ∧ (decode cX3_perform 65 = .ok (.iload 4, 2)) := by decide +kernel
theorem dX3_perform_56 : decode cX3_perform 56 = .ok (.invokevirtual 36, 3) := dX3_perform_k6.1
theorem dX3_perform_59 : decode cX3_perform 59 = .ok (.pop, 1) := dX3_perform_k6.2.1
theorem dX3_perform_60 : decode cX3_perform 60 = .ok (.goto 19, 3) := dX3_perform_k6.2.2.1
theorem dX3_perform_63 : decode cX3_perform 63 = .ok (.aload_n 0, 1) := dX3_perform_k6.2.2.2.1
theorem dX3_perform_64 : decode cX3_perform 64 = .ok (.aload_n 1, 1) := dX3_perform_k6.2.2.2.2.1
theorem dX3_perform_65 : decode cX3_perform 65 = .ok (.iload 4, 2) := dX3_perform_k6.2.2.2.2.2
set_option maxRecDepth 100000 in
theorem dX3_perform_k7 : (decode cX3_perform 67 = .ok (.iload 6, 2)) ∧ (decode cX3_perform 69 = .ok (.aload_n 3, 1)) ∧ (decode cX3_perform 70 = .ok (.getfield 40, 3)) ∧ (decode cX3_perform 73 = .ok (.invokestatic 44, 3)) ∧ (decode cX3_perform 76 = .ok (.putfield 21, 3)) ∧ (decode cX3_perform 79 = .ok (.aload_n 0, 1)) := by decide +kernel
theorem dX3_perform_67 : decode cX3_perform 67 = .ok (.iload 6, 2) := dX3_perform_k7.1
theorem dX3_perform_69 : decode cX3_perform 69 = .ok (.aload_n 3, 1) := dX3_perform_k7.2.1
theorem dX3_perform_70 : decode cX3_perform 70 = .ok (.getfield 40, 3) := dX3_perform_k7.2.2.1
theorem dX3_perform_73 : decode cX3_perform 73 = .ok (.invokestatic 44, 3) := dX3_perform_k7.2.2.2.1
theorem dX3_perform_76 : decode cX3_perform 76 = .ok (.putfield 21, 3) := dX3_perform_k7.2.2.2.2.1
theorem dX3_perform_79 : decode cX3_perform 79 = .ok (.aload_n 0, 1) := dX3_perform_k7.2.2.2.2.2
set_option maxRecDepth 100000 in
theorem dX3_perform_k8 : (decode cX3_perform 80 = .ok (.getfield 21, 3)) ∧ (decode cX3_perform 83 = .ok (.ifCond .eq 4, 3)) ∧ (decode cX3_perform 86 = .ok (.return_, 1)) ∧ (decode cX3_perform 87 = .ok (.aload_n 0, 1)) ∧ (decode cX3_perform 88 = .ok (.dup, 1)) ∧ (decode cX3_perform 89 = .ok (.getfield 15, 3)) := by decide +kernel
theorem dX3_perform_80 : decode cX3_perform 80 = .ok (.getfield 21, 3) := dX3_perform_k8.1
theorem dX3_perform_83 : decode cX3_perform 83 = .ok (.ifCond .eq 4, 3) := dX3_perform_k8.2.1
theorem dX3_perform_86 : decode cX3_perform 86 = .ok (.return_, 1) := dX3_perform_k8.2.2.1
theorem dX3_perform_87 : decode cX3_perform 87 = .ok (.aload_n 0, 1) := dX3_perform_k8.2.2.2.1
theorem dX3_perform_88 : decode cX3_perform 88 = .ok (.dup, 1) := dX3_perform_k8.2.2.2.2.1
theorem dX3_perform_89 : decode cX3_perform 89 = .ok (.getfield 15, 3) := dX3_perform_k8.2.2.2.2.2
set_option maxRecDepth 100000 in
theorem dX3_perform_k9 : (decode cX3_perform 92 = .ok (.iconst 1, 1)) ∧ (decode cX3_perform 93 = .ok (.iadd, 1)) ∧ (decode cX3_perform 94 = .ok (.putfield 15, 3)) ∧ (decode cX3_perform 97 = .ok (.iload 4, 2)) ∧ (decode cX3_perform 99 = .ok (.iload 6, 2)) ∧ (decode cX3_perform 101 = .ok (.iadd, 1)) := by decide +kernel
theorem dX3_perform_92 : decode cX3_perform 92 = .ok (.iconst 1, 1) := dX3_perform_k9.1
theorem dX3_perform_93 : decode cX3_perform 93 = .ok (.iadd, 1) := dX3_perform_k9.2.1
theorem dX3_perform_94 : decode cX3_perform 94 = .ok (.putfield 15, 3) := dX3_perform_k9.2.2.1
theorem dX3_perform_97 : decode cX3_perform 97 = .ok (.iload 4, 2) := dX3_perform_k9.2.2.2.1
theorem dX3_perform_99 : decode cX3_perform 99 = .ok (.iload 6, 2) := dX3_perform_k9.2.2.2.2.1
theorem dX3_perform_101 : decode cX3_perform 101 = .ok (.iadd, 1) := dX3_perform_k9.2.2.2.2.2
set_option maxRecDepth 100000 in
theorem dX3_perform_k10 : (decode cX3_perform 102 = .ok (.istore 4, 2)) ∧ (decode cX3_perform 104 = .ok (.iinc 5 1, 3)) ∧ (decode cX3_perform 107 = .ok (.goto (-86), 3)) ∧ (decode cX3_perform 110 = .ok (.return_, 1)) := by decide +kernel
theorem dX3_perform_102 : decode cX3_perform 102 = .ok (.istore 4, 2) := dX3_perform_k10.1
theorem dX3_perform_104 : decode cX3_perform 104 = .ok (.iinc 5 1, 3) := dX3_perform_k10.2.1
theorem dX3_perform_107 : decode cX3_perform 107 = .ok (.goto (-86), 3) := dX3_perform_k10.2.2.1
theorem dX3_perform_110 : decode cX3_perform 110 = .ok (.return_, 1) := dX3_perform_k10.2.2.2
set_option maxRecDepth 100000 in
theorem dX3_spanOf_k11 : (decode cX3_spanOf 0 = .ok (.aload_n 0, 1)) ∧ (decode cX3_spanOf 1 = .ok (.iload_n 1, 1)) ∧ (decode cX3_spanOf 2 = .ok (.invokevirtual 48, 3)) ∧ (decode cX3_spanOf 5 = .ok (.bipush 46, 2)) ∧ (decode cX3_spanOf 7 = .ok (.if_icmp .ne 5, 3)) ∧ (decode cX3_spanOf 10 = .ok (.iconst 1, 1)) := by decide +kernel
theorem dX3_spanOf_0 : decode cX3_spanOf 0 = .ok (.aload_n 0, 1) := dX3_spanOf_k11.1
theorem dX3_spanOf_1 : decode cX3_spanOf 1 = .ok (.iload_n 1, 1) := dX3_spanOf_k11.2.1
theorem dX3_spanOf_2 : decode cX3_spanOf 2 = .ok (.invokevirtual 48, 3) := dX3_spanOf_k11.2.2.1
theorem dX3_spanOf_5 : decode cX3_spanOf 5 = .ok (.bipush 46, 2) := dX3_spanOf_k11.2.2.2.1
theorem dX3_spanOf_7 : decode cX3_spanOf 7 = .ok (.if_icmp .ne 5, 3) := dX3_spanOf_k11.2.2.2.2.1
theorem dX3_spanOf_10 : decode cX3_spanOf 10 = .ok (.iconst 1, 1) := dX3_spanOf_k11.2.2.2.2.2
set_option maxRecDepth 100000 in
theorem dX3_spanOf_k12 : (decode cX3_spanOf 11 = .ok (.ireturn, 1)) ∧ (decode cX3_spanOf 12 = .ok (.aload_n 0, 1)) ∧ (decode cX3_spanOf 13 = .ok (.iload_n 1, 1)) ∧ (decode cX3_spanOf 14 = .ok (.invokevirtual 48, 3)) ∧ (decode cX3_spanOf 17 = .ok (.invokestatic 52, 3)) ∧ (decode cX3_spanOf 20 = .ok (.ifCond .eq 20, 3)) := by decide +kernel
theorem dX3_spanOf_11 : decode cX3_spanOf 11 = .ok (.ireturn, 1) := dX3_spanOf_k12.1
theorem dX3_spanOf_12 : decode cX3_spanOf 12 = .ok (.aload_n 0, 1) := dX3_spanOf_k12.2.1
theorem dX3_spanOf_13 : decode cX3_spanOf 13 = .ok (.iload_n 1, 1) := dX3_spanOf_k12.2.2.1
theorem dX3_spanOf_14 : decode cX3_spanOf 14 = .ok (.invokevirtual 48, 3) := dX3_spanOf_k12.2.2.2.1
theorem dX3_spanOf_17 : decode cX3_spanOf 17 = .ok (.invokestatic 52, 3) := dX3_spanOf_k12.2.2.2.2.1
theorem dX3_spanOf_20 : decode cX3_spanOf 20 = .ok (.ifCond .eq 20, 3) := dX3_spanOf_k12.2.2.2.2.2
set_option maxRecDepth 100000 in
theorem dX3_spanOf_k13 : (decode cX3_spanOf 23 = .ok (.aload_n 0, 1)) ∧ (decode cX3_spanOf 24 = .ok (.iload_n 1, 1)) ∧ (decode cX3_spanOf 25 = .ok (.iconst 1, 1)) ∧ (decode cX3_spanOf 26 = .ok (.iadd, 1)) ∧ (decode cX3_spanOf 27 = .ok (.invokevirtual 48, 3)) ∧ (decode cX3_spanOf 30 = .ok (.invokestatic 52, 3)) := by decide +kernel
theorem dX3_spanOf_23 : decode cX3_spanOf 23 = .ok (.aload_n 0, 1) := dX3_spanOf_k13.1
theorem dX3_spanOf_24 : decode cX3_spanOf 24 = .ok (.iload_n 1, 1) := dX3_spanOf_k13.2.1
theorem dX3_spanOf_25 : decode cX3_spanOf 25 = .ok (.iconst 1, 1) := dX3_spanOf_k13.2.2.1
theorem dX3_spanOf_26 : decode cX3_spanOf 26 = .ok (.iadd, 1) := dX3_spanOf_k13.2.2.2.1
theorem dX3_spanOf_27 : decode cX3_spanOf 27 = .ok (.invokevirtual 48, 3) := dX3_spanOf_k13.2.2.2.2.1
theorem dX3_spanOf_30 : decode cX3_spanOf 30 = .ok (.invokestatic 52, 3) := dX3_spanOf_k13.2.2.2.2.2
set_option maxRecDepth 100000 in
theorem dX3_spanOf_k14 : (decode cX3_spanOf 33 = .ok (.ifCond .ne 7, 3)) ∧ (decode cX3_spanOf 36 = .ok (.iconst 1, 1)) ∧ (decode cX3_spanOf 37 = .ok (.goto 4, 3)) ∧ (decode cX3_spanOf 40 = .ok (.iconst 0, 1)) ∧ (decode cX3_spanOf 41 = .ok (.istore_n 2, 1)) ∧ (decode cX3_spanOf 42 = .ok (.iload_n 2, 1)) := by decide +kernel
theorem dX3_spanOf_33 : decode cX3_spanOf 33 = .ok (.ifCond .ne 7, 3) := dX3_spanOf_k14.1
theorem dX3_spanOf_36 : decode cX3_spanOf 36 = .ok (.iconst 1, 1) := dX3_spanOf_k14.2.1
theorem dX3_spanOf_37 : decode cX3_spanOf 37 = .ok (.goto 4, 3) := dX3_spanOf_k14.2.2.1
theorem dX3_spanOf_40 : decode cX3_spanOf 40 = .ok (.iconst 0, 1) := dX3_spanOf_k14.2.2.2.1
theorem dX3_spanOf_41 : decode cX3_spanOf 41 = .ok (.istore_n 2, 1) := dX3_spanOf_k14.2.2.2.2.1
theorem dX3_spanOf_42 : decode cX3_spanOf 42 = .ok (.iload_n 2, 1) := dX3_spanOf_k14.2.2.2.2.2
set_option maxRecDepth 100000 in
theorem dX3_spanOf_k15 : (decode cX3_spanOf 43 = .ok (.ifCond .eq 7, 3)) ∧ (decode cX3_spanOf 46 = .ok (.iconst 2, 1)) ∧ (decode cX3_spanOf 47 = .ok (.goto 4, 3)) ∧ (decode cX3_spanOf 50 = .ok (.iconst 3, 1)) ∧ (decode cX3_spanOf 51 = .ok (.ireturn, 1)) := by decide +kernel
theorem dX3_spanOf_43 : decode cX3_spanOf 43 = .ok (.ifCond .eq 7, 3) := dX3_spanOf_k15.1
theorem dX3_spanOf_46 : decode cX3_spanOf 46 = .ok (.iconst 2, 1) := dX3_spanOf_k15.2.1
theorem dX3_spanOf_47 : decode cX3_spanOf 47 = .ok (.goto 4, 3) := dX3_spanOf_k15.2.2.1
theorem dX3_spanOf_50 : decode cX3_spanOf 50 = .ok (.iconst 3, 1) := dX3_spanOf_k15.2.2.2.1
theorem dX3_spanOf_51 : decode cX3_spanOf 51 = .ok (.ireturn, 1) := dX3_spanOf_k15.2.2.2.2
set_option maxRecDepth 100000 in
theorem dX3_attempt_k16 : (decode cX3_attempt 0 = .ok (.aload_n 0, 1)) ∧ (decode cX3_attempt 1 = .ok (.iload_n 1, 1)) ∧ (decode cX3_attempt 2 = .ok (.invokevirtual 48, 3)) ∧ (decode cX3_attempt 5 = .ok (.istore 4, 2)) ∧ (decode cX3_attempt 7 = .ok (.aload_n 0, 1)) ∧ (decode cX3_attempt 8 = .ok (.iload_n 1, 1)) := by decide +kernel
theorem dX3_attempt_0 : decode cX3_attempt 0 = .ok (.aload_n 0, 1) := dX3_attempt_k16.1
theorem dX3_attempt_1 : decode cX3_attempt 1 = .ok (.iload_n 1, 1) := dX3_attempt_k16.2.1
theorem dX3_attempt_2 : decode cX3_attempt 2 = .ok (.invokevirtual 48, 3) := dX3_attempt_k16.2.2.1
theorem dX3_attempt_5 : decode cX3_attempt 5 = .ok (.istore 4, 2) := dX3_attempt_k16.2.2.2.1
theorem dX3_attempt_7 : decode cX3_attempt 7 = .ok (.aload_n 0, 1) := dX3_attempt_k16.2.2.2.2.1
theorem dX3_attempt_8 : decode cX3_attempt 8 = .ok (.iload_n 1, 1) := dX3_attempt_k16.2.2.2.2.2
set_option maxRecDepth 100000 in
theorem dX3_attempt_k17 : (decode cX3_attempt 9 = .ok (.iconst 1, 1)) ∧ (decode cX3_attempt 10 = .ok (.iadd, 1)) ∧ (decode cX3_attempt 11 = .ok (.invokevirtual 48, 3)) ∧ (decode cX3_attempt 14 = .ok (.istore 5, 2)) ∧ (decode cX3_attempt 16 = .ok (.iload_n 2, 1)) ∧ (decode cX3_attempt 17 = .ok (.iconst 2, 1)) := by decide +kernel
theorem dX3_attempt_9 : decode cX3_attempt 9 = .ok (.iconst 1, 1) := dX3_attempt_k17.1
theorem dX3_attempt_10 : decode cX3_attempt 10 = .ok (.iadd, 1) := dX3_attempt_k17.2.1
theorem dX3_attempt_11 : decode cX3_attempt 11 = .ok (.invokevirtual 48, 3) := dX3_attempt_k17.2.2.1
theorem dX3_attempt_14 : decode cX3_attempt 14 = .ok (.istore 5, 2) := dX3_attempt_k17.2.2.2.1
theorem dX3_attempt_16 : decode cX3_attempt 16 = .ok (.iload_n 2, 1) := dX3_attempt_k17.2.2.2.2.1
theorem dX3_attempt_17 : decode cX3_attempt 17 = .ok (.iconst 2, 1) := dX3_attempt_k17.2.2.2.2.2
set_option maxRecDepth 100000 in
theorem dX3_attempt_k18 : (decode cX3_attempt 18 = .ok (.if_icmp .ne 15, 3)) ∧ (decode cX3_attempt 21 = .ok (.aload_n 3, 1)) ∧ (decode cX3_attempt 22 = .ok (.iload 4, 2)) ∧ (decode cX3_attempt 24 = .ok (.bipush 65, 2)) ∧ (decode cX3_attempt 26 = .ok (.isub, 1)) ∧ (decode cX3_attempt 27 = .ok (.iload 5, 2)) := by decide +kernel
theorem dX3_attempt_18 : decode cX3_attempt 18 = .ok (.if_icmp .ne 15, 3) := dX3_attempt_k18.1
theorem dX3_attempt_21 : decode cX3_attempt 21 = .ok (.aload_n 3, 1) := dX3_attempt_k18.2.1
theorem dX3_attempt_22 : decode cX3_attempt 22 = .ok (.iload 4, 2) := dX3_attempt_k18.2.2.1
theorem dX3_attempt_24 : decode cX3_attempt 24 = .ok (.bipush 65, 2) := dX3_attempt_k18.2.2.2.1
theorem dX3_attempt_26 : decode cX3_attempt 26 = .ok (.isub, 1) := dX3_attempt_k18.2.2.2.2.1
theorem dX3_attempt_27 : decode cX3_attempt 27 = .ok (.iload 5, 2) := dX3_attempt_k18.2.2.2.2.2
set_option maxRecDepth 100000 in
theorem dX3_attempt_k19 : (decode cX3_attempt 29 = .ok (.invokestatic 56, 3)) ∧ (decode cX3_attempt 32 = .ok (.ireturn, 1)) ∧ (decode cX3_attempt 33 = .ok (.aload_n 0, 1)) ∧ (decode cX3_attempt 34 = .ok (.iload_n 1, 1)) ∧ (decode cX3_attempt 35 = .ok (.iconst 2, 1)) ∧ (decode cX3_attempt 36 = .ok (.iadd, 1)) := by decide +kernel
theorem dX3_attempt_29 : decode cX3_attempt 29 = .ok (.invokestatic 56, 3) := dX3_attempt_k19.1
theorem dX3_attempt_32 : decode cX3_attempt 32 = .ok (.ireturn, 1) := dX3_attempt_k19.2.1
theorem dX3_attempt_33 : decode cX3_attempt 33 = .ok (.aload_n 0, 1) := dX3_attempt_k19.2.2.1
theorem dX3_attempt_34 : decode cX3_attempt 34 = .ok (.iload_n 1, 1) := dX3_attempt_k19.2.2.2.1
theorem dX3_attempt_35 : decode cX3_attempt 35 = .ok (.iconst 2, 1) := dX3_attempt_k19.2.2.2.2.1
theorem dX3_attempt_36 : decode cX3_attempt 36 = .ok (.iadd, 1) := dX3_attempt_k19.2.2.2.2.2
set_option maxRecDepth 100000 in
theorem dX3_attempt_k20 : (decode cX3_attempt 37 = .ok (.invokevirtual 48, 3)) ∧ (decode cX3_attempt 40 = .ok (.bipush 48, 2)) ∧ (decode cX3_attempt 42 = .ok (.isub, 1)) ∧ (decode cX3_attempt 43 = .ok (.istore 6, 2)) ∧ (decode cX3_attempt 45 = .ok (.iload 4, 2)) ∧ (decode cX3_attempt 47 = .ok (.invokestatic 52, 3)) := by decide +kernel
theorem dX3_attempt_37 : decode cX3_attempt 37 = .ok (.invokevirtual 48, 3) := dX3_attempt_k20.1
theorem dX3_attempt_40 : decode cX3_attempt 40 = .ok (.bipush 48, 2) := dX3_attempt_k20.2.1
theorem dX3_attempt_42 : decode cX3_attempt 42 = .ok (.isub, 1) := dX3_attempt_k20.2.2.1
theorem dX3_attempt_43 : decode cX3_attempt 43 = .ok (.istore 6, 2) := dX3_attempt_k20.2.2.2.1
theorem dX3_attempt_45 : decode cX3_attempt 45 = .ok (.iload 4, 2) := dX3_attempt_k20.2.2.2.2.1
theorem dX3_attempt_47 : decode cX3_attempt 47 = .ok (.invokestatic 52, 3) := dX3_attempt_k20.2.2.2.2.2
set_option maxRecDepth 100000 in
theorem dX3_attempt_k21 : (decode cX3_attempt 50 = .ok (.ifCond .eq 20, 3)) ∧ (decode cX3_attempt 53 = .ok (.aload_n 3, 1)) ∧ (decode cX3_attempt 54 = .ok (.iload 4, 2)) ∧ (decode cX3_attempt 56 = .ok (.bipush 65, 2)) ∧ (decode cX3_attempt 58 = .ok (.isub, 1)) ∧ (decode cX3_attempt 59 = .ok (.iload 5, 2)) := by decide +kernel
theorem dX3_attempt_50 : decode cX3_attempt 50 = .ok (.ifCond .eq 20, 3) := dX3_attempt_k21.1
theorem dX3_attempt_53 : decode cX3_attempt 53 = .ok (.aload_n 3, 1) := dX3_attempt_k21.2.1
theorem dX3_attempt_54 : decode cX3_attempt 54 = .ok (.iload 4, 2) := dX3_attempt_k21.2.2.1
theorem dX3_attempt_56 : decode cX3_attempt 56 = .ok (.bipush 65, 2) := dX3_attempt_k21.2.2.2.1
theorem dX3_attempt_58 : decode cX3_attempt 58 = .ok (.isub, 1) := dX3_attempt_k21.2.2.2.2.1
theorem dX3_attempt_59 : decode cX3_attempt 59 = .ok (.iload 5, 2) := dX3_attempt_k21.2.2.2.2.2
set_option maxRecDepth 100000 in
theorem dX3_attempt_k22 : (decode cX3_attempt 61 = .ok (.bipush 65, 2)) ∧ (decode cX3_attempt 63 = .ok (.isub, 1)) ∧ (decode cX3_attempt 64 = .ok (.iload 6, 2)) ∧ (decode cX3_attempt 66 = .ok (.invokestatic 60, 3)) ∧ (decode cX3_attempt 69 = .ok (.ireturn, 1)) ∧ (decode cX3_attempt 70 = .ok (.aload_n 3, 1)) := by decide +kernel
theorem dX3_attempt_61 : decode cX3_attempt 61 = .ok (.bipush 65, 2) := dX3_attempt_k22.1
theorem dX3_attempt_63 : decode cX3_attempt 63 = .ok (.isub, 1) := dX3_attempt_k22.2.1
theorem dX3_attempt_64 : decode cX3_attempt 64 = .ok (.iload 6, 2) := dX3_attempt_k22.2.2.1
theorem dX3_attempt_66 : decode cX3_attempt 66 = .ok (.invokestatic 60, 3) := dX3_attempt_k22.2.2.2.1
theorem dX3_attempt_69 : decode cX3_attempt 69 = .ok (.ireturn, 1) := dX3_attempt_k22.2.2.2.2.1
theorem dX3_attempt_70 : decode cX3_attempt 70 = .ok (.aload_n 3, 1) := dX3_attempt_k22.2.2.2.2.2
set_option maxRecDepth 100000 in
theorem dX3_attempt_k23 : (decode cX3_attempt 71 = .ok (.iload 4, 2)) ∧ (decode cX3_attempt 73 = .ok (.bipush 97, 2)) ∧ (decode cX3_attempt 75 = .ok (.isub, 1)) ∧ (decode cX3_attempt 76 = .ok (.iload 5, 2)) ∧ (decode cX3_attempt 78 = .ok (.bipush 97, 2)) ∧ (decode cX3_attempt 80 = .ok (.isub, 1)) := by decide +kernel
theorem dX3_attempt_71 : decode cX3_attempt 71 = .ok (.iload 4, 2) := dX3_attempt_k23.1
theorem dX3_attempt_73 : decode cX3_attempt 73 = .ok (.bipush 97, 2) := dX3_attempt_k23.2.1
theorem dX3_attempt_75 : decode cX3_attempt 75 = .ok (.isub, 1) := dX3_attempt_k23.2.2.1
theorem dX3_attempt_76 : decode cX3_attempt 76 = .ok (.iload 5, 2) := dX3_attempt_k23.2.2.2.1
theorem dX3_attempt_78 : decode cX3_attempt 78 = .ok (.bipush 97, 2) := dX3_attempt_k23.2.2.2.2.1
theorem dX3_attempt_80 : decode cX3_attempt 80 = .ok (.isub, 1) := dX3_attempt_k23.2.2.2.2.2
set_option maxRecDepth 100000 in
theorem dX3_attempt_k24 : (decode cX3_attempt 81 = .ok (.iload 6, 2)) ∧ (decode cX3_attempt 83 = .ok (.invokestatic 64, 3)) ∧ (decode cX3_attempt 86 = .ok (.ireturn, 1)) := by decide +kernel
theorem dX3_attempt_81 : decode cX3_attempt 81 = .ok (.iload 6, 2) := dX3_attempt_k24.1
theorem dX3_attempt_83 : decode cX3_attempt 83 = .ok (.invokestatic 64, 3) := dX3_attempt_k24.2.1
theorem dX3_attempt_86 : decode cX3_attempt 86 = .ok (.ireturn, 1) := dX3_attempt_k24.2.2
set_option maxRecDepth 100000 in
theorem dX3_chat_k25 : (decode cX3_chat 0 = .ok (.aload_n 0, 1)) ∧ (decode cX3_chat 1 = .ok (.iload_n 1, 1)) ∧ (decode cX3_chat 2 = .ok (.iload_n 2, 1)) ∧ (decode cX3_chat 3 = .ok (.invokevirtual 67, 3)) ∧ (decode cX3_chat 6 = .ok (.istore 4, 2)) ∧ (decode cX3_chat 8 = .ok (.iload 4, 2)) := by decide +kernel
theorem dX3_chat_0 : decode cX3_chat 0 = .ok (.aload_n 0, 1) := dX3_chat_k25.1
theorem dX3_chat_1 : decode cX3_chat 1 = .ok (.iload_n 1, 1) := dX3_chat_k25.2.1
theorem dX3_chat_2 : decode cX3_chat 2 = .ok (.iload_n 2, 1) := dX3_chat_k25.2.2.1
theorem dX3_chat_3 : decode cX3_chat 3 = .ok (.invokevirtual 67, 3) := dX3_chat_k25.2.2.2.1
theorem dX3_chat_6 : decode cX3_chat 6 = .ok (.istore 4, 2) := dX3_chat_k25.2.2.2.2.1
theorem dX3_chat_8 : decode cX3_chat 8 = .ok (.iload 4, 2) := dX3_chat_k25.2.2.2.2.2
set_option maxRecDepth 100000 in
theorem dX3_chat_k26 : (decode cX3_chat 10 = .ok (.ifCond .ne 10, 3)) ∧ (decode cX3_chat 13 = .ok (.aload_n 0, 1)) ∧ (decode cX3_chat 14 = .ok (.iload_n 1, 1)) ∧ (decode cX3_chat 15 = .ok (.iload_n 2, 1)) ∧ (decode cX3_chat 16 = .ok (.iload_n 3, 1)) ∧ (decode cX3_chat 17 = .ok (.invokevirtual 73, 3)) := by decide +kernel
theorem dX3_chat_10 : decode cX3_chat 10 = .ok (.ifCond .ne 10, 3) := dX3_chat_k26.1
theorem dX3_chat_13 : decode cX3_chat 13 = .ok (.aload_n 0, 1) := dX3_chat_k26.2.1
theorem dX3_chat_14 : decode cX3_chat 14 = .ok (.iload_n 1, 1) := dX3_chat_k26.2.2.1
theorem dX3_chat_15 : decode cX3_chat 15 = .ok (.iload_n 2, 1) := dX3_chat_k26.2.2.2.1
theorem dX3_chat_16 : decode cX3_chat 16 = .ok (.iload_n 3, 1) := dX3_chat_k26.2.2.2.2.1
theorem dX3_chat_17 : decode cX3_chat 17 = .ok (.invokevirtual 73, 3) := dX3_chat_k26.2.2.2.2.2
set_option maxRecDepth 100000 in
theorem dX3_chat_k27 : (decode cX3_chat 20 = .ok (.iload 4, 2)) ∧ (decode cX3_chat 22 = .ok (.ireturn, 1)) := by decide +kernel
theorem dX3_chat_20 : decode cX3_chat 20 = .ok (.iload 4, 2) := dX3_chat_k27.1
theorem dX3_chat_22 : decode cX3_chat 22 = .ok (.ireturn, 1) := dX3_chat_k27.2
set_option maxRecDepth 100000 in
theorem dX3_fetch_k28 : (decode cX3_fetch 0 = .ok (.aload_n 0, 1)) ∧ (decode cX3_fetch 1 = .ok (.iload_n 1, 1)) ∧ (decode cX3_fetch 2 = .ok (.iload_n 2, 1)) ∧ (decode cX3_fetch 3 = .ok (.iload_n 3, 1)) ∧ (decode cX3_fetch 4 = .ok (.invokevirtual 77, 3)) ∧ (decode cX3_fetch 7 = .ok (.istore 4, 2)) := by decide +kernel
theorem dX3_fetch_0 : decode cX3_fetch 0 = .ok (.aload_n 0, 1) := dX3_fetch_k28.1
theorem dX3_fetch_1 : decode cX3_fetch 1 = .ok (.iload_n 1, 1) := dX3_fetch_k28.2.1
theorem dX3_fetch_2 : decode cX3_fetch 2 = .ok (.iload_n 2, 1) := dX3_fetch_k28.2.2.1
theorem dX3_fetch_3 : decode cX3_fetch 3 = .ok (.iload_n 3, 1) := dX3_fetch_k28.2.2.2.1
theorem dX3_fetch_4 : decode cX3_fetch 4 = .ok (.invokevirtual 77, 3) := dX3_fetch_k28.2.2.2.2.1
theorem dX3_fetch_7 : decode cX3_fetch 7 = .ok (.istore 4, 2) := dX3_fetch_k28.2.2.2.2.2
set_option maxRecDepth 100000 in
theorem dX3_fetch_k29 : (decode cX3_fetch 9 = .ok (.iload 4, 2)) ∧ (decode cX3_fetch 11 = .ok (.ifCond .ne 10, 3)) ∧ (decode cX3_fetch 14 = .ok (.aload_n 0, 1)) ∧ (decode cX3_fetch 15 = .ok (.iload_n 1, 1)) ∧ (decode cX3_fetch 16 = .ok (.iload_n 2, 1)) ∧ (decode cX3_fetch 17 = .ok (.iload_n 3, 1)) := by decide +kernel
theorem dX3_fetch_9 : decode cX3_fetch 9 = .ok (.iload 4, 2) := dX3_fetch_k29.1
theorem dX3_fetch_11 : decode cX3_fetch 11 = .ok (.ifCond .ne 10, 3) := dX3_fetch_k29.2.1
theorem dX3_fetch_14 : decode cX3_fetch 14 = .ok (.aload_n 0, 1) := dX3_fetch_k29.2.2.1
theorem dX3_fetch_15 : decode cX3_fetch 15 = .ok (.iload_n 1, 1) := dX3_fetch_k29.2.2.2.1
theorem dX3_fetch_16 : decode cX3_fetch 16 = .ok (.iload_n 2, 1) := dX3_fetch_k29.2.2.2.2.1
theorem dX3_fetch_17 : decode cX3_fetch 17 = .ok (.iload_n 3, 1) := dX3_fetch_k29.2.2.2.2.2
set_option maxRecDepth 100000 in
theorem dX3_fetch_k30 : (decode cX3_fetch 18 = .ok (.invokevirtual 81, 3)) ∧ (decode cX3_fetch 21 = .ok (.iload 4, 2)) ∧ (decode cX3_fetch 23 = .ok (.ireturn, 1)) := by decide +kernel
theorem dX3_fetch_18 : decode cX3_fetch 18 = .ok (.invokevirtual 81, 3) := dX3_fetch_k30.1
theorem dX3_fetch_21 : decode cX3_fetch 21 = .ok (.iload 4, 2) := dX3_fetch_k30.2.1
theorem dX3_fetch_23 : decode cX3_fetch 23 = .ok (.ireturn, 1) := dX3_fetch_k30.2.2
set_option maxRecDepth 100000 in
theorem dX3_settle_k31 : (decode cX3_settle 0 = .ok (.iload_n 2, 1)) ∧ (decode cX3_settle 1 = .ok (.bipush 95, 2)) ∧ (decode cX3_settle 3 = .ok (.if_icmp .ne 21, 3)) ∧ (decode cX3_settle 6 = .ok (.aload_n 0, 1)) ∧ (decode cX3_settle 7 = .ok (.iload_n 1, 1)) ∧ (decode cX3_settle 8 = .ok (.invokevirtual 84, 3)) := by decide +kernel
theorem dX3_settle_0 : decode cX3_settle 0 = .ok (.iload_n 2, 1) := dX3_settle_k31.1
theorem dX3_settle_1 : decode cX3_settle 1 = .ok (.bipush 95, 2) := dX3_settle_k31.2.1
theorem dX3_settle_3 : decode cX3_settle 3 = .ok (.if_icmp .ne 21, 3) := dX3_settle_k31.2.2.1
theorem dX3_settle_6 : decode cX3_settle 6 = .ok (.aload_n 0, 1) := dX3_settle_k31.2.2.2.1
theorem dX3_settle_7 : decode cX3_settle 7 = .ok (.iload_n 1, 1) := dX3_settle_k31.2.2.2.2.1
theorem dX3_settle_8 : decode cX3_settle 8 = .ok (.invokevirtual 84, 3) := dX3_settle_k31.2.2.2.2.2
set_option maxRecDepth 100000 in
theorem dX3_settle_k32 : (decode cX3_settle 11 = .ok (.istore_n 3, 1)) ∧ (decode cX3_settle 12 = .ok (.iload_n 3, 1)) ∧ (decode cX3_settle 13 = .ok (.ifCond .ne 58, 3)) ∧ (decode cX3_settle 16 = .ok (.aload_n 0, 1)) ∧ (decode cX3_settle 17 = .ok (.iload_n 1, 1)) ∧ (decode cX3_settle 18 = .ok (.invokevirtual 87, 3)) := by decide +kernel
theorem dX3_settle_11 : decode cX3_settle 11 = .ok (.istore_n 3, 1) := dX3_settle_k32.1
theorem dX3_settle_12 : decode cX3_settle 12 = .ok (.iload_n 3, 1) := dX3_settle_k32.2.1
theorem dX3_settle_13 : decode cX3_settle 13 = .ok (.ifCond .ne 58, 3) := dX3_settle_k32.2.2.1
theorem dX3_settle_16 : decode cX3_settle 16 = .ok (.aload_n 0, 1) := dX3_settle_k32.2.2.2.1
theorem dX3_settle_17 : decode cX3_settle 17 = .ok (.iload_n 1, 1) := dX3_settle_k32.2.2.2.2.1
theorem dX3_settle_18 : decode cX3_settle 18 = .ok (.invokevirtual 87, 3) := dX3_settle_k32.2.2.2.2.2
set_option maxRecDepth 100000 in
theorem dX3_settle_k33 : (decode cX3_settle 21 = .ok (.goto 50, 3)) ∧ (decode cX3_settle 24 = .ok (.iload_n 2, 1)) ∧ (decode cX3_settle 25 = .ok (.bipush 94, 2)) ∧ (decode cX3_settle 27 = .ok (.if_icmp .ne 21, 3)) ∧ (decode cX3_settle 30 = .ok (.aload_n 0, 1)) ∧ (decode cX3_settle 31 = .ok (.iload_n 1, 1)) := by decide +kernel
theorem dX3_settle_21 : decode cX3_settle 21 = .ok (.goto 50, 3) := dX3_settle_k33.1
theorem dX3_settle_24 : decode cX3_settle 24 = .ok (.iload_n 2, 1) := dX3_settle_k33.2.1
theorem dX3_settle_25 : decode cX3_settle 25 = .ok (.bipush 94, 2) := dX3_settle_k33.2.2.1
theorem dX3_settle_27 : decode cX3_settle 27 = .ok (.if_icmp .ne 21, 3) := dX3_settle_k33.2.2.2.1
theorem dX3_settle_30 : decode cX3_settle 30 = .ok (.aload_n 0, 1) := dX3_settle_k33.2.2.2.2.1
theorem dX3_settle_31 : decode cX3_settle 31 = .ok (.iload_n 1, 1) := dX3_settle_k33.2.2.2.2.2
set_option maxRecDepth 100000 in
theorem dX3_settle_k34 : (decode cX3_settle 32 = .ok (.invokevirtual 91, 3)) ∧ (decode cX3_settle 35 = .ok (.istore_n 3, 1)) ∧ (decode cX3_settle 36 = .ok (.iload_n 3, 1)) ∧ (decode cX3_settle 37 = .ok (.ifCond .ne 34, 3)) ∧ (decode cX3_settle 40 = .ok (.aload_n 0, 1)) ∧ (decode cX3_settle 41 = .ok (.iload_n 1, 1)) := by decide +kernel
theorem dX3_settle_32 : decode cX3_settle 32 = .ok (.invokevirtual 91, 3) := dX3_settle_k34.1
theorem dX3_settle_35 : decode cX3_settle 35 = .ok (.istore_n 3, 1) := dX3_settle_k34.2.1
theorem dX3_settle_36 : decode cX3_settle 36 = .ok (.iload_n 3, 1) := dX3_settle_k34.2.2.1
theorem dX3_settle_37 : decode cX3_settle 37 = .ok (.ifCond .ne 34, 3) := dX3_settle_k34.2.2.2.1
theorem dX3_settle_40 : decode cX3_settle 40 = .ok (.aload_n 0, 1) := dX3_settle_k34.2.2.2.2.1
theorem dX3_settle_41 : decode cX3_settle 41 = .ok (.iload_n 1, 1) := dX3_settle_k34.2.2.2.2.2
set_option maxRecDepth 100000 in
theorem dX3_settle_k35 : (decode cX3_settle 42 = .ok (.invokevirtual 94, 3)) ∧ (decode cX3_settle 45 = .ok (.goto 26, 3)) ∧ (decode cX3_settle 48 = .ok (.aload_n 0, 1)) ∧ (decode cX3_settle 49 = .ok (.iload_n 1, 1)) ∧ (decode cX3_settle 50 = .ok (.iload_n 2, 1)) ∧ (decode cX3_settle 51 = .ok (.bipush 97, 2)) := by decide +kernel
theorem dX3_settle_42 : decode cX3_settle 42 = .ok (.invokevirtual 94, 3) := dX3_settle_k35.1
theorem dX3_settle_45 : decode cX3_settle 45 = .ok (.goto 26, 3) := dX3_settle_k35.2.1
theorem dX3_settle_48 : decode cX3_settle 48 = .ok (.aload_n 0, 1) := dX3_settle_k35.2.2.1
theorem dX3_settle_49 : decode cX3_settle 49 = .ok (.iload_n 1, 1) := dX3_settle_k35.2.2.2.1
theorem dX3_settle_50 : decode cX3_settle 50 = .ok (.iload_n 2, 1) := dX3_settle_k35.2.2.2.2.1
theorem dX3_settle_51 : decode cX3_settle 51 = .ok (.bipush 97, 2) := dX3_settle_k35.2.2.2.2.2
set_option maxRecDepth 100000 in
theorem dX3_settle_k36 : (decode cX3_settle 53 = .ok (.isub, 1)) ∧ (decode cX3_settle 54 = .ok (.invokevirtual 97, 3)) ∧ (decode cX3_settle 57 = .ok (.istore_n 3, 1)) ∧ (decode cX3_settle 58 = .ok (.iload_n 3, 1)) ∧ (decode cX3_settle 59 = .ok (.ifCond .ne 12, 3)) ∧ (decode cX3_settle 62 = .ok (.aload_n 0, 1)) := by decide +kernel
theorem dX3_settle_53 : decode cX3_settle 53 = .ok (.isub, 1) := dX3_settle_k36.1
theorem dX3_settle_54 : decode cX3_settle 54 = .ok (.invokevirtual 97, 3) := dX3_settle_k36.2.1
theorem dX3_settle_57 : decode cX3_settle 57 = .ok (.istore_n 3, 1) := dX3_settle_k36.2.2.1
theorem dX3_settle_58 : decode cX3_settle 58 = .ok (.iload_n 3, 1) := dX3_settle_k36.2.2.2.1
theorem dX3_settle_59 : decode cX3_settle 59 = .ok (.ifCond .ne 12, 3) := dX3_settle_k36.2.2.2.2.1
theorem dX3_settle_62 : decode cX3_settle 62 = .ok (.aload_n 0, 1) := dX3_settle_k36.2.2.2.2.2
set_option maxRecDepth 100000 in
theorem dX3_settle_k37 : (decode cX3_settle 63 = .ok (.iload_n 1, 1)) ∧ (decode cX3_settle 64 = .ok (.iload_n 2, 1)) ∧ (decode cX3_settle 65 = .ok (.bipush 97, 2)) ∧ (decode cX3_settle 67 = .ok (.isub, 1)) ∧ (decode cX3_settle 68 = .ok (.invokevirtual 100, 3)) ∧ (decode cX3_settle 71 = .ok (.iload_n 3, 1)) := by decide +kernel
theorem dX3_settle_63 : decode cX3_settle 63 = .ok (.iload_n 1, 1) := dX3_settle_k37.1
theorem dX3_settle_64 : decode cX3_settle 64 = .ok (.iload_n 2, 1) := dX3_settle_k37.2.1
theorem dX3_settle_65 : decode cX3_settle 65 = .ok (.bipush 97, 2) := dX3_settle_k37.2.2.1
theorem dX3_settle_67 : decode cX3_settle 67 = .ok (.isub, 1) := dX3_settle_k37.2.2.2.1
theorem dX3_settle_68 : decode cX3_settle 68 = .ok (.invokevirtual 100, 3) := dX3_settle_k37.2.2.2.2.1
theorem dX3_settle_71 : decode cX3_settle 71 = .ok (.iload_n 3, 1) := dX3_settle_k37.2.2.2.2.2
theorem dX3_settle_72 : decode cX3_settle 72 = .ok (.ireturn, 1) := by decide +kernel
