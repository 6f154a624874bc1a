theorem dX9_round_106 : decode cX9_round 106 = .ok (.ireturn, 1) := by decide +kernel
set_option maxRecDepth 100000 in
theorem dX9_fullest_k0 : (decode cX9_fullest 0 = .ok (.iconst 0, 1)) ∧ (decode cX9_fullest 1 = .ok (.istore_n 1, 1)) ∧ (decode cX9_fullest 2 = .ok (.iconst 0, 1)) ∧ (decode cX9_fullest 3 = .ok (.istore_n 2, 1)) ∧ (decode cX9_fullest 4 = .ok (.iload_n 2, 1)) ∧ (decode cX9_fullest 5 = .ok (.aload_n 0, 1)) := by decide +kernel
theorem dX9_fullest_0 : decode cX9_fullest 0 = .ok (.iconst 0, 1) := dX9_fullest_k0.1
theorem dX9_fullest_1 : decode cX9_fullest 1 = .ok (.istore_n 1, 1) := dX9_fullest_k0.2.1
theorem dX9_fullest_2 : decode cX9_fullest 2 = .ok (.iconst 0, 1) := dX9_fullest_k0.2.2.1
theorem dX9_fullest_3 : decode cX9_fullest 3 = .ok (.istore_n 2, 1) := dX9_fullest_k0.2.2.2.1
theorem dX9_fullest_4 : decode cX9_fullest 4 = .ok (.iload_n 2, 1) := dX9_fullest_k0.2.2.2.2.1
theorem dX9_fullest_5 : decode cX9_fullest 5 = .ok (.aload_n 0, 1) := dX9_fullest_k0.2.2.2.2.2
set_option maxRecDepth 100000 in
theorem dX9_fullest_k1 : (decode cX9_fullest 6 = .ok (.getfield 7, 3)) ∧ (decode cX9_fullest 9 = .ok (.if_icmp .ge 28, 3)) ∧ (decode cX9_fullest 12 = .ok (.aload_n 0, 1)) ∧ (decode cX9_fullest 13 = .ok (.iload_n 2, 1)) ∧ (decode cX9_fullest 14 = .ok (.bipush (-6), 2)) ∧ (decode cX9_fullest 16 = .ok (.invokevirtual 134, 3)) := by decide +kernel
theorem dX9_fullest_6 : decode cX9_fullest 6 = .ok (.getfield 7, 3) := dX9_fullest_k1.1
theorem dX9_fullest_9 : decode cX9_fullest 9 = .ok (.if_icmp .ge 28, 3) := dX9_fullest_k1.2.1
theorem dX9_fullest_12 : decode cX9_fullest 12 = .ok (.aload_n 0, 1) := dX9_fullest_k1.2.2.1
theorem dX9_fullest_13 : decode cX9_fullest 13 = .ok (.iload_n 2, 1) := dX9_fullest_k1.2.2.2.1
theorem dX9_fullest_14 : decode cX9_fullest 14 = .ok (.bipush (-6), 2) := dX9_fullest_k1.2.2.2.2.1
theorem dX9_fullest_16 : decode cX9_fullest 16 = .ok (.invokevirtual 134, 3) := dX9_fullest_k1.2.2.2.2.2
set_option maxRecDepth 100000 in
theorem dX9_fullest_k2 : (decode cX9_fullest 19 = .ok (.istore_n 3, 1)) ∧ (decode cX9_fullest 20 = .ok (.iload_n 3, 1)) ∧ (decode cX9_fullest 21 = .ok (.iload_n 1, 1)) ∧ (decode cX9_fullest 22 = .ok (.if_icmp .le 7, 3)) ∧ (decode cX9_fullest 25 = .ok (.iload_n 3, 1)) ∧ (decode cX9_fullest 26 = .ok (.goto 4, 3)) := by decide +kernel
theorem dX9_fullest_19 : decode cX9_fullest 19 = .ok (.istore_n 3, 1) := dX9_fullest_k2.1
theorem dX9_fullest_20 : decode cX9_fullest 20 = .ok (.iload_n 3, 1) := dX9_fullest_k2.2.1
theorem dX9_fullest_21 : decode cX9_fullest 21 = .ok (.iload_n 1, 1) := dX9_fullest_k2.2.2.1
theorem dX9_fullest_22 : decode cX9_fullest 22 = .ok (.if_icmp .le 7, 3) := dX9_fullest_k2.2.2.2.1
theorem dX9_fullest_25 : decode cX9_fullest 25 = .ok (.iload_n 3, 1) := dX9_fullest_k2.2.2.2.2.1
theorem dX9_fullest_26 : decode cX9_fullest 26 = .ok (.goto 4, 3) := dX9_fullest_k2.2.2.2.2.2
set_option maxRecDepth 100000 in
theorem dX9_fullest_k3 : (decode cX9_fullest 29 = .ok (.iload_n 1, 1)) ∧ (decode cX9_fullest 30 = .ok (.istore_n 1, 1)) ∧ (decode cX9_fullest 31 = .ok (.iinc 2 1, 3)) ∧ (decode cX9_fullest 34 = .ok (.goto (-30), 3)) ∧ (decode cX9_fullest 37 = .ok (.iload_n 1, 1)) ∧ (decode cX9_fullest 38 = .ok (.ireturn, 1)) := by decide +kernel
theorem dX9_fullest_29 : decode cX9_fullest 29 = .ok (.iload_n 1, 1) := dX9_fullest_k3.1
theorem dX9_fullest_30 : decode cX9_fullest 30 = .ok (.istore_n 1, 1) := dX9_fullest_k3.2.1
theorem dX9_fullest_31 : decode cX9_fullest 31 = .ok (.iinc 2 1, 3) := dX9_fullest_k3.2.2.1
theorem dX9_fullest_34 : decode cX9_fullest 34 = .ok (.goto (-30), 3) := dX9_fullest_k3.2.2.2.1
theorem dX9_fullest_37 : decode cX9_fullest 37 = .ok (.iload_n 1, 1) := dX9_fullest_k3.2.2.2.2.1
theorem dX9_fullest_38 : decode cX9_fullest 38 = .ok (.ireturn, 1) := dX9_fullest_k3.2.2.2.2.2
set_option maxRecDepth 100000 in
theorem dX9_throng_k4 : (decode cX9_throng 0 = .ok (.iload_n 1, 1)) ∧ (decode cX9_throng 1 = .ok (.iconst 1, 1)) ∧ (decode cX9_throng 2 = .ok (.bipush 99, 2)) ∧ (decode cX9_throng 4 = .ok (.invokestatic 94, 3)) ∧ (decode cX9_throng 7 = .ok (.ifCond .ne 6, 3)) ∧ (decode cX9_throng 10 = .ok (.bipush (-2), 2)) := by decide +kernel
theorem dX9_throng_0 : decode cX9_throng 0 = .ok (.iload_n 1, 1) := dX9_throng_k4.1
theorem dX9_throng_1 : decode cX9_throng 1 = .ok (.iconst 1, 1) := dX9_throng_k4.2.1
theorem dX9_throng_2 : decode cX9_throng 2 = .ok (.bipush 99, 2) := dX9_throng_k4.2.2.1
theorem dX9_throng_4 : decode cX9_throng 4 = .ok (.invokestatic 94, 3) := dX9_throng_k4.2.2.2.1
theorem dX9_throng_7 : decode cX9_throng 7 = .ok (.ifCond .ne 6, 3) := dX9_throng_k4.2.2.2.2.1
theorem dX9_throng_10 : decode cX9_throng 10 = .ok (.bipush (-2), 2) := dX9_throng_k4.2.2.2.2.2
set_option maxRecDepth 100000 in
theorem dX9_throng_k5 : (decode cX9_throng 12 = .ok (.ireturn, 1)) ∧ (decode cX9_throng 13 = .ok (.aload_n 0, 1)) ∧ (decode cX9_throng 14 = .ok (.invokevirtual 157, 3)) ∧ (decode cX9_throng 17 = .ok (.iconst 0, 1)) ∧ (decode cX9_throng 18 = .ok (.istore_n 2, 1)) ∧ (decode cX9_throng 19 = .ok (.iconst 0, 1)) := by decide +kernel
theorem dX9_throng_12 : decode cX9_throng 12 = .ok (.ireturn, 1) := dX9_throng_k5.1
theorem dX9_throng_13 : decode cX9_throng 13 = .ok (.aload_n 0, 1) := dX9_throng_k5.2.1
theorem dX9_throng_14 : decode cX9_throng 14 = .ok (.invokevirtual 157, 3) := dX9_throng_k5.2.2.1
theorem dX9_throng_17 : decode cX9_throng 17 = .ok (.iconst 0, 1) := dX9_throng_k5.2.2.2.1
theorem dX9_throng_18 : decode cX9_throng 18 = .ok (.istore_n 2, 1) := dX9_throng_k5.2.2.2.2.1
theorem dX9_throng_19 : decode cX9_throng 19 = .ok (.iconst 0, 1) := dX9_throng_k5.2.2.2.2.2
set_option maxRecDepth 100000 in
theorem dX9_throng_k6 : (decode cX9_throng 20 = .ok (.istore_n 3, 1)) ∧ (decode cX9_throng 21 = .ok (.iload_n 3, 1)) ∧ (decode cX9_throng 22 = .ok (.iload_n 1, 1)) ∧ (decode cX9_throng 23 = .ok (.if_icmp .ge 33, 3)) ∧ (decode cX9_throng 26 = .ok (.aload_n 0, 1)) ∧ (decode cX9_throng 27 = .ok (.invokevirtual 166, 3)) := by decide +kernel
theorem dX9_throng_20 : decode cX9_throng 20 = .ok (.istore_n 3, 1) := dX9_throng_k6.1
theorem dX9_throng_21 : decode cX9_throng 21 = .ok (.iload_n 3, 1) := dX9_throng_k6.2.1
theorem dX9_throng_22 : decode cX9_throng 22 = .ok (.iload_n 1, 1) := dX9_throng_k6.2.2.1
theorem dX9_throng_23 : decode cX9_throng 23 = .ok (.if_icmp .ge 33, 3) := dX9_throng_k6.2.2.2.1
theorem dX9_throng_26 : decode cX9_throng 26 = .ok (.aload_n 0, 1) := dX9_throng_k6.2.2.2.2.1
theorem dX9_throng_27 : decode cX9_throng 27 = .ok (.invokevirtual 166, 3) := dX9_throng_k6.2.2.2.2.2
set_option maxRecDepth 100000 in
theorem dX9_throng_k7 : (decode cX9_throng 30 = .ok (.pop, 1)) ∧ (decode cX9_throng 31 = .ok (.aload_n 0, 1)) ∧ (decode cX9_throng 32 = .ok (.invokevirtual 214, 3)) ∧ (decode cX9_throng 35 = .ok (.istore 4, 2)) ∧ (decode cX9_throng 37 = .ok (.iload 4, 2)) ∧ (decode cX9_throng 39 = .ok (.iload_n 2, 1)) := by decide +kernel
theorem dX9_throng_30 : decode cX9_throng 30 = .ok (.pop, 1) := dX9_throng_k7.1
theorem dX9_throng_31 : decode cX9_throng 31 = .ok (.aload_n 0, 1) := dX9_throng_k7.2.1
theorem dX9_throng_32 : decode cX9_throng 32 = .ok (.invokevirtual 214, 3) := dX9_throng_k7.2.2.1
theorem dX9_throng_35 : decode cX9_throng 35 = .ok (.istore 4, 2) := dX9_throng_k7.2.2.2.1
theorem dX9_throng_37 : decode cX9_throng 37 = .ok (.iload 4, 2) := dX9_throng_k7.2.2.2.2.1
theorem dX9_throng_39 : decode cX9_throng 39 = .ok (.iload_n 2, 1) := dX9_throng_k7.2.2.2.2.2
set_option maxRecDepth 100000 in
theorem dX9_throng_k8 : (decode cX9_throng 40 = .ok (.if_icmp .le 8, 3)) ∧ (decode cX9_throng 43 = .ok (.iload 4, 2)) ∧ (decode cX9_throng 45 = .ok (.goto 4, 3)) ∧ (decode cX9_throng 48 = .ok (.iload_n 2, 1)) ∧ (decode cX9_throng 49 = .ok (.istore_n 2, 1)) ∧ (decode cX9_throng 50 = .ok (.iinc 3 1, 3)) := by decide +kernel
theorem dX9_throng_40 : decode cX9_throng 40 = .ok (.if_icmp .le 8, 3) := dX9_throng_k8.1
theorem dX9_throng_43 : decode cX9_throng 43 = .ok (.iload 4, 2) := dX9_throng_k8.2.1
theorem dX9_throng_45 : decode cX9_throng 45 = .ok (.goto 4, 3) := dX9_throng_k8.2.2.1
theorem dX9_throng_48 : decode cX9_throng 48 = .ok (.iload_n 2, 1) := dX9_throng_k8.2.2.2.1
theorem dX9_throng_49 : decode cX9_throng 49 = .ok (.istore_n 2, 1) := dX9_throng_k8.2.2.2.2.1
theorem dX9_throng_50 : decode cX9_throng 50 = .ok (.iinc 3 1, 3) := dX9_throng_k8.2.2.2.2.2
set_option maxRecDepth 100000 in
theorem dX9_throng_k9 : (decode cX9_throng 53 = .ok (.goto (-32), 3)) ∧ (decode cX9_throng 56 = .ok (.iload_n 2, 1)) ∧ (decode cX9_throng 57 = .ok (.ireturn, 1)) := by decide +kernel
theorem dX9_throng_53 : decode cX9_throng 53 = .ok (.goto (-32), 3) := dX9_throng_k9.1
theorem dX9_throng_56 : decode cX9_throng 56 = .ok (.iload_n 2, 1) := dX9_throng_k9.2.1
theorem dX9_throng_57 : decode cX9_throng 57 = .ok (.ireturn, 1) := dX9_throng_k9.2.2
set_option maxRecDepth 100000 in
theorem dX9_carried_k10 : (decode cX9_carried 0 = .ok (.iload_n 1, 1)) ∧ (decode cX9_carried 1 = .ok (.iconst 0, 1)) ∧ (decode cX9_carried 2 = .ok (.bipush 20, 2)) ∧ (decode cX9_carried 4 = .ok (.invokestatic 94, 3)) ∧ (decode cX9_carried 7 = .ok (.ifCond .eq 12, 3)) ∧ (decode cX9_carried 10 = .ok (.iload_n 2, 1)) := by decide +kernel
theorem dX9_carried_0 : decode cX9_carried 0 = .ok (.iload_n 1, 1) := dX9_carried_k10.1
theorem dX9_carried_1 : decode cX9_carried 1 = .ok (.iconst 0, 1) := dX9_carried_k10.2.1
theorem dX9_carried_2 : decode cX9_carried 2 = .ok (.bipush 20, 2) := dX9_carried_k10.2.2.1
theorem dX9_carried_4 : decode cX9_carried 4 = .ok (.invokestatic 94, 3) := dX9_carried_k10.2.2.2.1
theorem dX9_carried_7 : decode cX9_carried 7 = .ok (.ifCond .eq 12, 3) := dX9_carried_k10.2.2.2.2.1
theorem dX9_carried_10 : decode cX9_carried 10 = .ok (.iload_n 2, 1) := dX9_carried_k10.2.2.2.2.2
set_option maxRecDepth 100000 in
theorem dX9_carried_k11 : (decode cX9_carried 11 = .ok (.iconst 0, 1)) ∧ (decode cX9_carried 12 = .ok (.iconst 1, 1)) ∧ (decode cX9_carried 13 = .ok (.invokestatic 94, 3)) ∧ (decode cX9_carried 16 = .ok (.ifCond .ne 6, 3)) ∧ (decode cX9_carried 19 = .ok (.bipush (-2), 2)) ∧ (decode cX9_carried 21 = .ok (.ireturn, 1)) := by decide +kernel
theorem dX9_carried_11 : decode cX9_carried 11 = .ok (.iconst 0, 1) := dX9_carried_k11.1
theorem dX9_carried_12 : decode cX9_carried 12 = .ok (.iconst 1, 1) := dX9_carried_k11.2.1
theorem dX9_carried_13 : decode cX9_carried 13 = .ok (.invokestatic 94, 3) := dX9_carried_k11.2.2.1
theorem dX9_carried_16 : decode cX9_carried 16 = .ok (.ifCond .ne 6, 3) := dX9_carried_k11.2.2.2.1
theorem dX9_carried_19 : decode cX9_carried 19 = .ok (.bipush (-2), 2) := dX9_carried_k11.2.2.2.2.1
theorem dX9_carried_21 : decode cX9_carried 21 = .ok (.ireturn, 1) := dX9_carried_k11.2.2.2.2.2
set_option maxRecDepth 100000 in
theorem dX9_carried_k12 : (decode cX9_carried 22 = .ok (.aload_n 0, 1)) ∧ (decode cX9_carried 23 = .ok (.invokevirtual 157, 3)) ∧ (decode cX9_carried 26 = .ok (.aload_n 0, 1)) ∧ (decode cX9_carried 27 = .ok (.iload_n 1, 1)) ∧ (decode cX9_carried 28 = .ok (.invokevirtual 198, 3)) ∧ (decode cX9_carried 31 = .ok (.aload_n 0, 1)) := by decide +kernel
theorem dX9_carried_22 : decode cX9_carried 22 = .ok (.aload_n 0, 1) := dX9_carried_k12.1
theorem dX9_carried_23 : decode cX9_carried 23 = .ok (.invokevirtual 157, 3) := dX9_carried_k12.2.1
theorem dX9_carried_26 : decode cX9_carried 26 = .ok (.aload_n 0, 1) := dX9_carried_k12.2.2.1
theorem dX9_carried_27 : decode cX9_carried 27 = .ok (.iload_n 1, 1) := dX9_carried_k12.2.2.2.1
theorem dX9_carried_28 : decode cX9_carried 28 = .ok (.invokevirtual 198, 3) := dX9_carried_k12.2.2.2.2.1
theorem dX9_carried_31 : decode cX9_carried 31 = .ok (.aload_n 0, 1) := dX9_carried_k12.2.2.2.2.2
set_option maxRecDepth 100000 in
theorem dX9_carried_k13 : (decode cX9_carried 32 = .ok (.invokevirtual 214, 3)) ∧ (decode cX9_carried 35 = .ok (.istore_n 3, 1)) ∧ (decode cX9_carried 36 = .ok (.iconst 0, 1)) ∧ (decode cX9_carried 37 = .ok (.istore 4, 2)) ∧ (decode cX9_carried 39 = .ok (.iconst 0, 1)) ∧ (decode cX9_carried 40 = .ok (.istore 5, 2)) := by decide +kernel
theorem dX9_carried_32 : decode cX9_carried 32 = .ok (.invokevirtual 214, 3) := dX9_carried_k13.1
theorem dX9_carried_35 : decode cX9_carried 35 = .ok (.istore_n 3, 1) := dX9_carried_k13.2.1
theorem dX9_carried_36 : decode cX9_carried 36 = .ok (.iconst 0, 1) := dX9_carried_k13.2.2.1
theorem dX9_carried_37 : decode cX9_carried 37 = .ok (.istore 4, 2) := dX9_carried_k13.2.2.2.1
theorem dX9_carried_39 : decode cX9_carried 39 = .ok (.iconst 0, 1) := dX9_carried_k13.2.2.2.2.1
theorem dX9_carried_40 : decode cX9_carried 40 = .ok (.istore 5, 2) := dX9_carried_k13.2.2.2.2.2
set_option maxRecDepth 100000 in
theorem dX9_carried_k14 : (decode cX9_carried 42 = .ok (.iload 5, 2)) ∧ (decode cX9_carried 44 = .ok (.sipush 144, 3)) ∧ (decode cX9_carried 47 = .ok (.if_icmp .ge 129, 3)) ∧ (decode cX9_carried 50 = .ok (.iload 5, 2)) ∧ (decode cX9_carried 52 = .ok (.bipush 24, 2)) ∧ (decode cX9_carried 54 = .ok (.idiv, 1)) := by decide +kernel
theorem dX9_carried_42 : decode cX9_carried 42 = .ok (.iload 5, 2) := dX9_carried_k14.1
theorem dX9_carried_44 : decode cX9_carried 44 = .ok (.sipush 144, 3) := dX9_carried_k14.2.1
theorem dX9_carried_47 : decode cX9_carried 47 = .ok (.if_icmp .ge 129, 3) := dX9_carried_k14.2.2.1
theorem dX9_carried_50 : decode cX9_carried 50 = .ok (.iload 5, 2) := dX9_carried_k14.2.2.2.1
theorem dX9_carried_52 : decode cX9_carried 52 = .ok (.bipush 24, 2) := dX9_carried_k14.2.2.2.2.1
theorem dX9_carried_54 : decode cX9_carried 54 = .ok (.idiv, 1) := dX9_carried_k14.2.2.2.2.2
set_option maxRecDepth 100000 in
theorem dX9_carried_k15 : (decode cX9_carried 55 = .ok (.istore 6, 2)) ∧ (decode cX9_carried 57 = .ok (.iload 5, 2)) ∧ (decode cX9_carried 59 = .ok (.iconst 4, 1)) ∧ (decode cX9_carried 60 = .ok (.idiv, 1)) ∧ (decode cX9_carried 61 = .ok (.bipush 6, 2)) ∧ (decode cX9_carried 63 = .ok (.irem, 1)) := by decide +kernel
theorem dX9_carried_55 : decode cX9_carried 55 = .ok (.istore 6, 2) := dX9_carried_k15.1
theorem dX9_carried_57 : decode cX9_carried 57 = .ok (.iload 5, 2) := dX9_carried_k15.2.1
theorem dX9_carried_59 : decode cX9_carried 59 = .ok (.iconst 4, 1) := dX9_carried_k15.2.2.1
theorem dX9_carried_60 : decode cX9_carried 60 = .ok (.idiv, 1) := dX9_carried_k15.2.2.2.1
theorem dX9_carried_61 : decode cX9_carried 61 = .ok (.bipush 6, 2) := dX9_carried_k15.2.2.2.2.1
theorem dX9_carried_63 : decode cX9_carried 63 = .ok (.irem, 1) := dX9_carried_k15.2.2.2.2.2
set_option maxRecDepth 100000 in
theorem dX9_carried_k16 : (decode cX9_carried 64 = .ok (.istore 7, 2)) ∧ (decode cX9_carried 66 = .ok (.aload_n 0, 1)) ∧ (decode cX9_carried 67 = .ok (.invokevirtual 157, 3)) ∧ (decode cX9_carried 70 = .ok (.iload 6, 2)) ∧ (decode cX9_carried 72 = .ok (.aload_n 0, 1)) ∧ (decode cX9_carried 73 = .ok (.getfield 7, 3)) := by decide +kernel
theorem dX9_carried_64 : decode cX9_carried 64 = .ok (.istore 7, 2) := dX9_carried_k16.1
theorem dX9_carried_66 : decode cX9_carried 66 = .ok (.aload_n 0, 1) := dX9_carried_k16.2.1
theorem dX9_carried_67 : decode cX9_carried 67 = .ok (.invokevirtual 157, 3) := dX9_carried_k16.2.2.1
theorem dX9_carried_70 : decode cX9_carried 70 = .ok (.iload 6, 2) := dX9_carried_k16.2.2.2.1
theorem dX9_carried_72 : decode cX9_carried 72 = .ok (.aload_n 0, 1) := dX9_carried_k16.2.2.2.2.1
theorem dX9_carried_73 : decode cX9_carried 73 = .ok (.getfield 7, 3) := dX9_carried_k16.2.2.2.2.2
set_option maxRecDepth 100000 in
theorem dX9_carried_k17 : (decode cX9_carried 76 = .ok (.if_icmp .ge 94, 3)) ∧ (decode cX9_carried 79 = .ok (.iload 7, 2)) ∧ (decode cX9_carried 81 = .ok (.aload_n 0, 1)) ∧ (decode cX9_carried 82 = .ok (.getfield 7, 3)) ∧ (decode cX9_carried 85 = .ok (.if_icmp .ge 85, 3)) ∧ (decode cX9_carried 88 = .ok (.aload_n 0, 1)) := by decide +kernel
theorem dX9_carried_76 : decode cX9_carried 76 = .ok (.if_icmp .ge 94, 3) := dX9_carried_k17.1
theorem dX9_carried_79 : decode cX9_carried 79 = .ok (.iload 7, 2) := dX9_carried_k17.2.1
theorem dX9_carried_81 : decode cX9_carried 81 = .ok (.aload_n 0, 1) := dX9_carried_k17.2.2.1
theorem dX9_carried_82 : decode cX9_carried 82 = .ok (.getfield 7, 3) := dX9_carried_k17.2.2.2.1
theorem dX9_carried_85 : decode cX9_carried 85 = .ok (.if_icmp .ge 85, 3) := dX9_carried_k17.2.2.2.2.1
theorem dX9_carried_88 : decode cX9_carried 88 = .ok (.aload_n 0, 1) := dX9_carried_k17.2.2.2.2.2
set_option maxRecDepth 100000 in
theorem dX9_carried_k18 : (decode cX9_carried 89 = .ok (.iload 6, 2)) ∧ (decode cX9_carried 91 = .ok (.iload 7, 2)) ∧ (decode cX9_carried 93 = .ok (.iload 5, 2)) ∧ (decode cX9_carried 95 = .ok (.iconst 4, 1)) ∧ (decode cX9_carried 96 = .ok (.irem, 1)) ∧ (decode cX9_carried 97 = .ok (.invokevirtual 169, 3)) := by decide +kernel
theorem dX9_carried_89 : decode cX9_carried 89 = .ok (.iload 6, 2) := dX9_carried_k18.1
theorem dX9_carried_91 : decode cX9_carried 91 = .ok (.iload 7, 2) := dX9_carried_k18.2.1
theorem dX9_carried_93 : decode cX9_carried 93 = .ok (.iload 5, 2) := dX9_carried_k18.2.2.1
theorem dX9_carried_95 : decode cX9_carried 95 = .ok (.iconst 4, 1) := dX9_carried_k18.2.2.2.1
theorem dX9_carried_96 : decode cX9_carried 96 = .ok (.irem, 1) := dX9_carried_k18.2.2.2.2.1
theorem dX9_carried_97 : decode cX9_carried 97 = .ok (.invokevirtual 169, 3) := dX9_carried_k18.2.2.2.2.2
set_option maxRecDepth 100000 in
theorem dX9_carried_k19 : (decode cX9_carried 100 = .ok (.ifCond .ne 70, 3)) ∧ (decode cX9_carried 103 = .ok (.aload_n 0, 1)) ∧ (decode cX9_carried 104 = .ok (.iload 6, 2)) ∧ (decode cX9_carried 106 = .ok (.iload 7, 2)) ∧ (decode cX9_carried 108 = .ok (.iload 5, 2)) ∧ (decode cX9_carried 110 = .ok (.iconst 4, 1)) := by decide +kernel
theorem dX9_carried_100 : decode cX9_carried 100 = .ok (.ifCond .ne 70, 3) := dX9_carried_k19.1
theorem dX9_carried_103 : decode cX9_carried 103 = .ok (.aload_n 0, 1) := dX9_carried_k19.2.1
theorem dX9_carried_104 : decode cX9_carried 104 = .ok (.iload 6, 2) := dX9_carried_k19.2.2.1
theorem dX9_carried_106 : decode cX9_carried 106 = .ok (.iload 7, 2) := dX9_carried_k19.2.2.2.1
theorem dX9_carried_108 : decode cX9_carried 108 = .ok (.iload 5, 2) := dX9_carried_k19.2.2.2.2.1
theorem dX9_carried_110 : decode cX9_carried 110 = .ok (.iconst 4, 1) := dX9_carried_k19.2.2.2.2.2
set_option maxRecDepth 100000 in
theorem dX9_carried_k20 : (decode cX9_carried 111 = .ok (.irem, 1)) ∧ (decode cX9_carried 112 = .ok (.invokevirtual 172, 3)) ∧ (decode cX9_carried 115 = .ok (.aload_n 0, 1)) ∧ (decode cX9_carried 116 = .ok (.iload_n 1, 1)) ∧ (decode cX9_carried 117 = .ok (.invokevirtual 198, 3)) ∧ (decode cX9_carried 120 = .ok (.aload_n 0, 1)) := by decide +kernel
theorem dX9_carried_111 : decode cX9_carried 111 = .ok (.irem, 1) := dX9_carried_k20.1
theorem dX9_carried_112 : decode cX9_carried 112 = .ok (.invokevirtual 172, 3) := dX9_carried_k20.2.1
theorem dX9_carried_115 : decode cX9_carried 115 = .ok (.aload_n 0, 1) := dX9_carried_k20.2.2.1
theorem dX9_carried_116 : decode cX9_carried 116 = .ok (.iload_n 1, 1) := dX9_carried_k20.2.2.2.1
theorem dX9_carried_117 : decode cX9_carried 117 = .ok (.invokevirtual 198, 3) := dX9_carried_k20.2.2.2.2.1
theorem dX9_carried_120 : decode cX9_carried 120 = .ok (.aload_n 0, 1) := dX9_carried_k20.2.2.2.2.2
set_option maxRecDepth 100000 in
theorem dX9_carried_k21 : (decode cX9_carried 121 = .ok (.invokevirtual 214, 3)) ∧ (decode cX9_carried 124 = .ok (.istore 8, 2)) ∧ (decode cX9_carried 126 = .ok (.iload 8, 2)) ∧ (decode cX9_carried 128 = .ok (.iload_n 3, 1)) ∧ (decode cX9_carried 129 = .ok (.if_icmp .ge 24, 3)) ∧ (decode cX9_carried 132 = .ok (.bipush 100, 2)) := by decide +kernel
theorem dX9_carried_121 : decode cX9_carried 121 = .ok (.invokevirtual 214, 3) := dX9_carried_k21.1
theorem dX9_carried_124 : decode cX9_carried 124 = .ok (.istore 8, 2) := dX9_carried_k21.2.1
theorem dX9_carried_126 : decode cX9_carried 126 = .ok (.iload 8, 2) := dX9_carried_k21.2.2.1
theorem dX9_carried_128 : decode cX9_carried 128 = .ok (.iload_n 3, 1) := dX9_carried_k21.2.2.2.1
theorem dX9_carried_129 : decode cX9_carried 129 = .ok (.if_icmp .ge 24, 3) := dX9_carried_k21.2.2.2.2.1
theorem dX9_carried_132 : decode cX9_carried 132 = .ok (.bipush 100, 2) := dX9_carried_k21.2.2.2.2.2
set_option maxRecDepth 100000 in
theorem dX9_carried_k22 : (decode cX9_carried 134 = .ok (.iload 6, 2)) ∧ (decode cX9_carried 136 = .ok (.iconst 1, 1)) ∧ (decode cX9_carried 137 = .ok (.iadd, 1)) ∧ (decode cX9_carried 138 = .ok (.imul, 1)) ∧ (decode cX9_carried 139 = .ok (.bipush 10, 2)) ∧ (decode cX9_carried 141 = .ok (.iload 7, 2)) := by decide +kernel
theorem dX9_carried_134 : decode cX9_carried 134 = .ok (.iload 6, 2) := dX9_carried_k22.1
theorem dX9_carried_136 : decode cX9_carried 136 = .ok (.iconst 1, 1) := dX9_carried_k22.2.1
theorem dX9_carried_137 : decode cX9_carried 137 = .ok (.iadd, 1) := dX9_carried_k22.2.2.1
theorem dX9_carried_138 : decode cX9_carried 138 = .ok (.imul, 1) := dX9_carried_k22.2.2.2.1
theorem dX9_carried_139 : decode cX9_carried 139 = .ok (.bipush 10, 2) := dX9_carried_k22.2.2.2.2.1
theorem dX9_carried_141 : decode cX9_carried 141 = .ok (.iload 7, 2) := dX9_carried_k22.2.2.2.2.2
set_option maxRecDepth 100000 in
theorem dX9_carried_k23 : (decode cX9_carried 143 = .ok (.imul, 1)) ∧ (decode cX9_carried 144 = .ok (.iadd, 1)) ∧ (decode cX9_carried 145 = .ok (.iload 5, 2)) ∧ (decode cX9_carried 147 = .ok (.iconst 4, 1)) ∧ (decode cX9_carried 148 = .ok (.irem, 1)) ∧ (decode cX9_carried 149 = .ok (.iadd, 1)) := by decide +kernel
theorem dX9_carried_143 : decode cX9_carried 143 = .ok (.imul, 1) := dX9_carried_k23.1
theorem dX9_carried_144 : decode cX9_carried 144 = .ok (.iadd, 1) := dX9_carried_k23.2.1
theorem dX9_carried_145 : decode cX9_carried 145 = .ok (.iload 5, 2) := dX9_carried_k23.2.2.1
theorem dX9_carried_147 : decode cX9_carried 147 = .ok (.iconst 4, 1) := dX9_carried_k23.2.2.2.1
theorem dX9_carried_148 : decode cX9_carried 148 = .ok (.irem, 1) := dX9_carried_k23.2.2.2.2.1
theorem dX9_carried_149 : decode cX9_carried 149 = .ok (.iadd, 1) := dX9_carried_k23.2.2.2.2.2
set_option maxRecDepth 100000 in
theorem dX9_carried_k24 : (decode cX9_carried 150 = .ok (.goto 5, 3)) ∧ (decode cX9_carried 153 = .ok (.iload 4, 2)) ∧ (decode cX9_carried 155 = .ok (.istore 4, 2)) ∧ (decode cX9_carried 157 = .ok (.iload 8, 2)) ∧ (decode cX9_carried 159 = .ok (.iload_n 3, 1)) ∧ (decode cX9_carried 160 = .ok (.if_icmp .ge 8, 3)) := by decide +kernel
theorem dX9_carried_150 : decode cX9_carried 150 = .ok (.goto 5, 3) := dX9_carried_k24.1
theorem dX9_carried_153 : decode cX9_carried 153 = .ok (.iload 4, 2) := dX9_carried_k24.2.1
theorem dX9_carried_155 : decode cX9_carried 155 = .ok (.istore 4, 2) := dX9_carried_k24.2.2.1
theorem dX9_carried_157 : decode cX9_carried 157 = .ok (.iload 8, 2) := dX9_carried_k24.2.2.2.1
theorem dX9_carried_159 : decode cX9_carried 159 = .ok (.iload_n 3, 1) := dX9_carried_k24.2.2.2.2.1
theorem dX9_carried_160 : decode cX9_carried 160 = .ok (.if_icmp .ge 8, 3) := dX9_carried_k24.2.2.2.2.2
set_option maxRecDepth 100000 in
theorem dX9_carried_k25 : (decode cX9_carried 163 = .ok (.iload 8, 2)) ∧ (decode cX9_carried 165 = .ok (.goto 4, 3)) ∧ (decode cX9_carried 168 = .ok (.iload_n 3, 1)) ∧ (decode cX9_carried 169 = .ok (.istore_n 3, 1)) ∧ (decode cX9_carried 170 = .ok (.iinc 5 1, 3)) ∧ (decode cX9_carried 173 = .ok (.goto (-131), 3)) := by decide +kernel
theorem dX9_carried_163 : decode cX9_carried 163 = .ok (.iload 8, 2) := dX9_carried_k25.1
theorem dX9_carried_165 : decode cX9_carried 165 = .ok (.goto 4, 3) := dX9_carried_k25.2.1
theorem dX9_carried_168 : decode cX9_carried 168 = .ok (.iload_n 3, 1) := dX9_carried_k25.2.2.1
theorem dX9_carried_169 : decode cX9_carried 169 = .ok (.istore_n 3, 1) := dX9_carried_k25.2.2.2.1
theorem dX9_carried_170 : decode cX9_carried 170 = .ok (.iinc 5 1, 3) := dX9_carried_k25.2.2.2.2.1
theorem dX9_carried_173 : decode cX9_carried 173 = .ok (.goto (-131), 3) := dX9_carried_k25.2.2.2.2.2
set_option maxRecDepth 100000 in
theorem dX9_carried_k26 : (decode cX9_carried 176 = .ok (.iload_n 2, 1)) ∧ (decode cX9_carried 177 = .ok (.ifCond .ne 7, 3)) ∧ (decode cX9_carried 180 = .ok (.iload_n 3, 1)) ∧ (decode cX9_carried 181 = .ok (.goto 5, 3)) ∧ (decode cX9_carried 184 = .ok (.iload 4, 2)) ∧ (decode cX9_carried 186 = .ok (.ireturn, 1)) := by decide +kernel
theorem dX9_carried_176 : decode cX9_carried 176 = .ok (.iload_n 2, 1) := dX9_carried_k26.1
theorem dX9_carried_177 : decode cX9_carried 177 = .ok (.ifCond .ne 7, 3) := dX9_carried_k26.2.1
theorem dX9_carried_180 : decode cX9_carried 180 = .ok (.iload_n 3, 1) := dX9_carried_k26.2.2.1
theorem dX9_carried_181 : decode cX9_carried 181 = .ok (.goto 5, 3) := dX9_carried_k26.2.2.2.1
theorem dX9_carried_184 : decode cX9_carried 184 = .ok (.iload 4, 2) := dX9_carried_k26.2.2.2.2.1
theorem dX9_carried_186 : decode cX9_carried 186 = .ok (.ireturn, 1) := dX9_carried_k26.2.2.2.2.2
set_option maxRecDepth 100000 in
theorem dX9_hinges_k27 : (decode cX9_hinges 0 = .ok (.iload_n 1, 1)) ∧ (decode cX9_hinges 1 = .ok (.iconst 0, 1)) ∧ (decode cX9_hinges 2 = .ok (.bipush 20, 2)) ∧ (decode cX9_hinges 4 = .ok (.invokestatic 94, 3)) ∧ (decode cX9_hinges 7 = .ok (.ifCond .eq 12, 3)) ∧ (decode cX9_hinges 10 = .ok (.iload_n 2, 1)) := by decide +kernel
theorem dX9_hinges_0 : decode cX9_hinges 0 = .ok (.iload_n 1, 1) := dX9_hinges_k27.1
theorem dX9_hinges_1 : decode cX9_hinges 1 = .ok (.iconst 0, 1) := dX9_hinges_k27.2.1
theorem dX9_hinges_2 : decode cX9_hinges 2 = .ok (.bipush 20, 2) := dX9_hinges_k27.2.2.1
theorem dX9_hinges_4 : decode cX9_hinges 4 = .ok (.invokestatic 94, 3) := dX9_hinges_k27.2.2.2.1
theorem dX9_hinges_7 : decode cX9_hinges 7 = .ok (.ifCond .eq 12, 3) := dX9_hinges_k27.2.2.2.2.1
theorem dX9_hinges_10 : decode cX9_hinges 10 = .ok (.iload_n 2, 1) := dX9_hinges_k27.2.2.2.2.2
set_option maxRecDepth 100000 in
theorem dX9_hinges_k28 : (decode cX9_hinges 11 = .ok (.iconst 0, 1)) ∧ (decode cX9_hinges 12 = .ok (.iconst 1, 1)) ∧ (decode cX9_hinges 13 = .ok (.invokestatic 94, 3)) ∧ (decode cX9_hinges 16 = .ok (.ifCond .ne 6, 3)) ∧ (decode cX9_hinges 19 = .ok (.bipush (-2), 2)) ∧ (decode cX9_hinges 21 = .ok (.ireturn, 1)) := by decide +kernel
theorem dX9_hinges_11 : decode cX9_hinges 11 = .ok (.iconst 0, 1) := dX9_hinges_k28.1
theorem dX9_hinges_12 : decode cX9_hinges 12 = .ok (.iconst 1, 1) := dX9_hinges_k28.2.1
theorem dX9_hinges_13 : decode cX9_hinges 13 = .ok (.invokestatic 94, 3) := dX9_hinges_k28.2.2.1
theorem dX9_hinges_16 : decode cX9_hinges 16 = .ok (.ifCond .ne 6, 3) := dX9_hinges_k28.2.2.2.1
theorem dX9_hinges_19 : decode cX9_hinges 19 = .ok (.bipush (-2), 2) := dX9_hinges_k28.2.2.2.2.1
theorem dX9_hinges_21 : decode cX9_hinges 21 = .ok (.ireturn, 1) := dX9_hinges_k28.2.2.2.2.2
set_option maxRecDepth 100000 in
theorem dX9_hinges_k29 : (decode cX9_hinges 22 = .ok (.aload_n 0, 1)) ∧ (decode cX9_hinges 23 = .ok (.invokevirtual 157, 3)) ∧ (decode cX9_hinges 26 = .ok (.aload_n 0, 1)) ∧ (decode cX9_hinges 27 = .ok (.iload_n 1, 1)) ∧ (decode cX9_hinges 28 = .ok (.invokevirtual 198, 3)) ∧ (decode cX9_hinges 31 = .ok (.aload_n 0, 1)) := by decide +kernel
theorem dX9_hinges_22 : decode cX9_hinges 22 = .ok (.aload_n 0, 1) := dX9_hinges_k29.1
theorem dX9_hinges_23 : decode cX9_hinges 23 = .ok (.invokevirtual 157, 3) := dX9_hinges_k29.2.1
theorem dX9_hinges_26 : decode cX9_hinges 26 = .ok (.aload_n 0, 1) := dX9_hinges_k29.2.2.1
theorem dX9_hinges_27 : decode cX9_hinges 27 = .ok (.iload_n 1, 1) := dX9_hinges_k29.2.2.2.1
theorem dX9_hinges_28 : decode cX9_hinges 28 = .ok (.invokevirtual 198, 3) := dX9_hinges_k29.2.2.2.2.1
theorem dX9_hinges_31 : decode cX9_hinges 31 = .ok (.aload_n 0, 1) := dX9_hinges_k29.2.2.2.2.2
set_option maxRecDepth 100000 in
theorem dX9_hinges_k30 : (decode cX9_hinges 32 = .ok (.invokevirtual 214, 3)) ∧ (decode cX9_hinges 35 = .ok (.istore_n 3, 1)) ∧ (decode cX9_hinges 36 = .ok (.bipush (-6), 2)) ∧ (decode cX9_hinges 38 = .ok (.istore 4, 2)) ∧ (decode cX9_hinges 40 = .ok (.iconst 0, 1)) ∧ (decode cX9_hinges 41 = .ok (.istore 5, 2)) := by decide +kernel
theorem dX9_hinges_32 : decode cX9_hinges 32 = .ok (.invokevirtual 214, 3) := dX9_hinges_k30.1
theorem dX9_hinges_35 : decode cX9_hinges 35 = .ok (.istore_n 3, 1) := dX9_hinges_k30.2.1
theorem dX9_hinges_36 : decode cX9_hinges 36 = .ok (.bipush (-6), 2) := dX9_hinges_k30.2.2.1
theorem dX9_hinges_38 : decode cX9_hinges 38 = .ok (.istore 4, 2) := dX9_hinges_k30.2.2.2.1
theorem dX9_hinges_40 : decode cX9_hinges 40 = .ok (.iconst 0, 1) := dX9_hinges_k30.2.2.2.2.1
theorem dX9_hinges_41 : decode cX9_hinges 41 = .ok (.istore 5, 2) := dX9_hinges_k30.2.2.2.2.2
set_option maxRecDepth 100000 in
theorem dX9_hinges_k31 : (decode cX9_hinges 43 = .ok (.iload 5, 2)) ∧ (decode cX9_hinges 45 = .ok (.aload_n 0, 1)) ∧ (decode cX9_hinges 46 = .ok (.getfield 7, 3)) ∧ (decode cX9_hinges 49 = .ok (.if_icmp .ge 107, 3)) ∧ (decode cX9_hinges 52 = .ok (.iload 5, 2)) ∧ (decode cX9_hinges 54 = .ok (.iconst 1, 1)) := by decide +kernel
theorem dX9_hinges_43 : decode cX9_hinges 43 = .ok (.iload 5, 2) := dX9_hinges_k31.1
theorem dX9_hinges_45 : decode cX9_hinges 45 = .ok (.aload_n 0, 1) := dX9_hinges_k31.2.1
theorem dX9_hinges_46 : decode cX9_hinges 46 = .ok (.getfield 7, 3) := dX9_hinges_k31.2.2.1
theorem dX9_hinges_49 : decode cX9_hinges 49 = .ok (.if_icmp .ge 107, 3) := dX9_hinges_k31.2.2.2.1
theorem dX9_hinges_52 : decode cX9_hinges 52 = .ok (.iload 5, 2) := dX9_hinges_k31.2.2.2.2.1
theorem dX9_hinges_54 : decode cX9_hinges 54 = .ok (.iconst 1, 1) := dX9_hinges_k31.2.2.2.2.2
set_option maxRecDepth 100000 in
theorem dX9_hinges_k32 : (decode cX9_hinges 55 = .ok (.iadd, 1)) ∧ (decode cX9_hinges 56 = .ok (.istore 6, 2)) ∧ (decode cX9_hinges 58 = .ok (.iload 6, 2)) ∧ (decode cX9_hinges 60 = .ok (.aload_n 0, 1)) ∧ (decode cX9_hinges 61 = .ok (.getfield 7, 3)) ∧ (decode cX9_hinges 64 = .ok (.if_icmp .ge 86, 3)) := by decide +kernel
theorem dX9_hinges_55 : decode cX9_hinges 55 = .ok (.iadd, 1) := dX9_hinges_k32.1
theorem dX9_hinges_56 : decode cX9_hinges 56 = .ok (.istore 6, 2) := dX9_hinges_k32.2.1
theorem dX9_hinges_58 : decode cX9_hinges 58 = .ok (.iload 6, 2) := dX9_hinges_k32.2.2.1
theorem dX9_hinges_60 : decode cX9_hinges 60 = .ok (.aload_n 0, 1) := dX9_hinges_k32.2.2.2.1
theorem dX9_hinges_61 : decode cX9_hinges 61 = .ok (.getfield 7, 3) := dX9_hinges_k32.2.2.2.2.1
theorem dX9_hinges_64 : decode cX9_hinges 64 = .ok (.if_icmp .ge 86, 3) := dX9_hinges_k32.2.2.2.2.2
set_option maxRecDepth 100000 in
theorem dX9_hinges_k33 : (decode cX9_hinges 67 = .ok (.aload_n 0, 1)) ∧ (decode cX9_hinges 68 = .ok (.getfield 23, 3)) ∧ (decode cX9_hinges 71 = .ok (.bipush 6, 2)) ∧ (decode cX9_hinges 73 = .ok (.iload 5, 2)) ∧ (decode cX9_hinges 75 = .ok (.imul, 1)) ∧ (decode cX9_hinges 76 = .ok (.iload 6, 2)) := by decide +kernel
theorem dX9_hinges_67 : decode cX9_hinges 67 = .ok (.aload_n 0, 1) := dX9_hinges_k33.1
theorem dX9_hinges_68 : decode cX9_hinges 68 = .ok (.getfield 23, 3) := dX9_hinges_k33.2.1
theorem dX9_hinges_71 : decode cX9_hinges 71 = .ok (.bipush 6, 2) := dX9_hinges_k33.2.2.1
theorem dX9_hinges_73 : decode cX9_hinges 73 = .ok (.iload 5, 2) := dX9_hinges_k33.2.2.2.1
theorem dX9_hinges_75 : decode cX9_hinges 75 = .ok (.imul, 1) := dX9_hinges_k33.2.2.2.2.1
theorem dX9_hinges_76 : decode cX9_hinges 76 = .ok (.iload 6, 2) := dX9_hinges_k33.2.2.2.2.2
set_option maxRecDepth 100000 in
theorem dX9_hinges_k34 : (decode cX9_hinges 78 = .ok (.iadd, 1)) ∧ (decode cX9_hinges 79 = .ok (.iaload, 1)) ∧ (decode cX9_hinges 80 = .ok (.ifCond .le 64, 3)) ∧ (decode cX9_hinges 83 = .ok (.aload_n 0, 1)) ∧ (decode cX9_hinges 84 = .ok (.invokevirtual 157, 3)) ∧ (decode cX9_hinges 87 = .ok (.aload_n 0, 1)) := by decide +kernel
theorem dX9_hinges_78 : decode cX9_hinges 78 = .ok (.iadd, 1) := dX9_hinges_k34.1
theorem dX9_hinges_79 : decode cX9_hinges 79 = .ok (.iaload, 1) := dX9_hinges_k34.2.1
theorem dX9_hinges_80 : decode cX9_hinges 80 = .ok (.ifCond .le 64, 3) := dX9_hinges_k34.2.2.1
theorem dX9_hinges_83 : decode cX9_hinges 83 = .ok (.aload_n 0, 1) := dX9_hinges_k34.2.2.2.1
theorem dX9_hinges_84 : decode cX9_hinges 84 = .ok (.invokevirtual 157, 3) := dX9_hinges_k34.2.2.2.2.1
theorem dX9_hinges_87 : decode cX9_hinges 87 = .ok (.aload_n 0, 1) := dX9_hinges_k34.2.2.2.2.2
set_option maxRecDepth 100000 in
theorem dX9_hinges_k35 : (decode cX9_hinges 88 = .ok (.bipush 6, 2)) ∧ (decode cX9_hinges 90 = .ok (.iload 5, 2)) ∧ (decode cX9_hinges 92 = .ok (.imul, 1)) ∧ (decode cX9_hinges 93 = .ok (.iload 6, 2)) ∧ (decode cX9_hinges 95 = .ok (.iadd, 1)) ∧ (decode cX9_hinges 96 = .ok (.putfield 131, 3)) := by decide +kernel
theorem dX9_hinges_88 : decode cX9_hinges 88 = .ok (.bipush 6, 2) := dX9_hinges_k35.1
theorem dX9_hinges_90 : decode cX9_hinges 90 = .ok (.iload 5, 2) := dX9_hinges_k35.2.1
theorem dX9_hinges_92 : decode cX9_hinges 92 = .ok (.imul, 1) := dX9_hinges_k35.2.2.1
theorem dX9_hinges_93 : decode cX9_hinges 93 = .ok (.iload 6, 2) := dX9_hinges_k35.2.2.2.1
theorem dX9_hinges_95 : decode cX9_hinges 95 = .ok (.iadd, 1) := dX9_hinges_k35.2.2.2.2.1
theorem dX9_hinges_96 : decode cX9_hinges 96 = .ok (.putfield 131, 3) := dX9_hinges_k35.2.2.2.2.2
set_option maxRecDepth 100000 in
theorem dX9_hinges_k36 : (decode cX9_hinges 99 = .ok (.aload_n 0, 1)) ∧ (decode cX9_hinges 100 = .ok (.iload_n 1, 1)) ∧ (decode cX9_hinges 101 = .ok (.invokevirtual 198, 3)) ∧ (decode cX9_hinges 104 = .ok (.aload_n 0, 1)) ∧ (decode cX9_hinges 105 = .ok (.invokevirtual 214, 3)) ∧ (decode cX9_hinges 108 = .ok (.istore 7, 2)) := by decide +kernel
theorem dX9_hinges_99 : decode cX9_hinges 99 = .ok (.aload_n 0, 1) := dX9_hinges_k36.1
theorem dX9_hinges_100 : decode cX9_hinges 100 = .ok (.iload_n 1, 1) := dX9_hinges_k36.2.1
theorem dX9_hinges_101 : decode cX9_hinges 101 = .ok (.invokevirtual 198, 3) := dX9_hinges_k36.2.2.1
theorem dX9_hinges_104 : decode cX9_hinges 104 = .ok (.aload_n 0, 1) := dX9_hinges_k36.2.2.2.1
theorem dX9_hinges_105 : decode cX9_hinges 105 = .ok (.invokevirtual 214, 3) := dX9_hinges_k36.2.2.2.2.1
theorem dX9_hinges_108 : decode cX9_hinges 108 = .ok (.istore 7, 2) := dX9_hinges_k36.2.2.2.2.2
set_option maxRecDepth 100000 in
theorem dX9_hinges_k37 : (decode cX9_hinges 110 = .ok (.iload 7, 2)) ∧ (decode cX9_hinges 112 = .ok (.iload_n 3, 1)) ∧ (decode cX9_hinges 113 = .ok (.if_icmp .ge 14, 3)) ∧ (decode cX9_hinges 116 = .ok (.bipush 10, 2)) ∧ (decode cX9_hinges 118 = .ok (.iload 5, 2)) ∧ (decode cX9_hinges 120 = .ok (.imul, 1)) := by decide +kernel
theorem dX9_hinges_110 : decode cX9_hinges 110 = .ok (.iload 7, 2) := dX9_hinges_k37.1
theorem dX9_hinges_112 : decode cX9_hinges 112 = .ok (.iload_n 3, 1) := dX9_hinges_k37.2.1
theorem dX9_hinges_113 : decode cX9_hinges 113 = .ok (.if_icmp .ge 14, 3) := dX9_hinges_k37.2.2.1
theorem dX9_hinges_116 : decode cX9_hinges 116 = .ok (.bipush 10, 2) := dX9_hinges_k37.2.2.2.1
theorem dX9_hinges_118 : decode cX9_hinges 118 = .ok (.iload 5, 2) := dX9_hinges_k37.2.2.2.2.1
theorem dX9_hinges_120 : decode cX9_hinges 120 = .ok (.imul, 1) := dX9_hinges_k37.2.2.2.2.2
set_option maxRecDepth 100000 in
theorem dX9_hinges_k38 : (decode cX9_hinges 121 = .ok (.iload 6, 2)) ∧ (decode cX9_hinges 123 = .ok (.iadd, 1)) ∧ (decode cX9_hinges 124 = .ok (.goto 5, 3)) ∧ (decode cX9_hinges 127 = .ok (.iload 4, 2)) ∧ (decode cX9_hinges 129 = .ok (.istore 4, 2)) ∧ (decode cX9_hinges 131 = .ok (.iload 7, 2)) := by decide +kernel
theorem dX9_hinges_121 : decode cX9_hinges 121 = .ok (.iload 6, 2) := dX9_hinges_k38.1
theorem dX9_hinges_123 : decode cX9_hinges 123 = .ok (.iadd, 1) := dX9_hinges_k38.2.1
theorem dX9_hinges_124 : decode cX9_hinges 124 = .ok (.goto 5, 3) := dX9_hinges_k38.2.2.1
theorem dX9_hinges_127 : decode cX9_hinges 127 = .ok (.iload 4, 2) := dX9_hinges_k38.2.2.2.1
theorem dX9_hinges_129 : decode cX9_hinges 129 = .ok (.istore 4, 2) := dX9_hinges_k38.2.2.2.2.1
theorem dX9_hinges_131 : decode cX9_hinges 131 = .ok (.iload 7, 2) := dX9_hinges_k38.2.2.2.2.2
set_option maxRecDepth 100000 in
theorem dX9_hinges_k39 : (decode cX9_hinges 133 = .ok (.iload_n 3, 1)) ∧ (decode cX9_hinges 134 = .ok (.if_icmp .ge 8, 3)) ∧ (decode cX9_hinges 137 = .ok (.iload 7, 2)) ∧ (decode cX9_hinges 139 = .ok (.goto 4, 3)) ∧ (decode cX9_hinges 142 = .ok (.iload_n 3, 1)) ∧ (decode cX9_hinges 143 = .ok (.istore_n 3, 1)) := by decide +kernel
theorem dX9_hinges_133 : decode cX9_hinges 133 = .ok (.iload_n 3, 1) := dX9_hinges_k39.1
theorem dX9_hinges_134 : decode cX9_hinges 134 = .ok (.if_icmp .ge 8, 3) := dX9_hinges_k39.2.1
theorem dX9_hinges_137 : decode cX9_hinges 137 = .ok (.iload 7, 2) := dX9_hinges_k39.2.2.1
theorem dX9_hinges_139 : decode cX9_hinges 139 = .ok (.goto 4, 3) := dX9_hinges_k39.2.2.2.1
theorem dX9_hinges_142 : decode cX9_hinges 142 = .ok (.iload_n 3, 1) := dX9_hinges_k39.2.2.2.2.1
theorem dX9_hinges_143 : decode cX9_hinges 143 = .ok (.istore_n 3, 1) := dX9_hinges_k39.2.2.2.2.2
set_option maxRecDepth 100000 in
theorem dX9_hinges_k40 : (decode cX9_hinges 144 = .ok (.iinc 6 1, 3)) ∧ (decode cX9_hinges 147 = .ok (.goto (-89), 3)) ∧ (decode cX9_hinges 150 = .ok (.iinc 5 1, 3)) ∧ (decode cX9_hinges 153 = .ok (.goto (-110), 3)) ∧ (decode cX9_hinges 156 = .ok (.iload_n 2, 1)) ∧ (decode cX9_hinges 157 = .ok (.ifCond .ne 7, 3)) := by decide +kernel
theorem dX9_hinges_144 : decode cX9_hinges 144 = .ok (.iinc 6 1, 3) := dX9_hinges_k40.1
theorem dX9_hinges_147 : decode cX9_hinges 147 = .ok (.goto (-89), 3) := dX9_hinges_k40.2.1
theorem dX9_hinges_150 : decode cX9_hinges 150 = .ok (.iinc 5 1, 3) := dX9_hinges_k40.2.2.1
theorem dX9_hinges_153 : decode cX9_hinges 153 = .ok (.goto (-110), 3) := dX9_hinges_k40.2.2.2.1
theorem dX9_hinges_156 : decode cX9_hinges 156 = .ok (.iload_n 2, 1) := dX9_hinges_k40.2.2.2.2.1
theorem dX9_hinges_157 : decode cX9_hinges 157 = .ok (.ifCond .ne 7, 3) := dX9_hinges_k40.2.2.2.2.2
set_option maxRecDepth 100000 in
theorem dX9_hinges_k41 : (decode cX9_hinges 160 = .ok (.iload_n 3, 1)) ∧ (decode cX9_hinges 161 = .ok (.goto 5, 3)) ∧ (decode cX9_hinges 164 = .ok (.iload 4, 2)) ∧ (decode cX9_hinges 166 = .ok (.ireturn, 1)) := by decide +kernel
theorem dX9_hinges_160 : decode cX9_hinges 160 = .ok (.iload_n 3, 1) := dX9_hinges_k41.1
theorem dX9_hinges_161 : decode cX9_hinges 161 = .ok (.goto 5, 3) := dX9_hinges_k41.2.1
theorem dX9_hinges_164 : decode cX9_hinges 164 = .ok (.iload 4, 2) := dX9_hinges_k41.2.2.1
theorem dX9_hinges_166 : decode cX9_hinges 166 = .ok (.ireturn, 1) := dX9_hinges_k41.2.2.2
set_option maxRecDepth 100000 in
theorem dX9_best_k42 : (decode cX9_best 0 = .ok (.aload_n 0, 1)) ∧ (decode cX9_best 1 = .ok (.iload_n 1, 1)) ∧ (decode cX9_best 2 = .ok (.invokevirtual 121, 3)) ∧ (decode cX9_best 5 = .ok (.ifCond .ne 5, 3)) ∧ (decode cX9_best 8 = .ok (.iconst (-1), 1)) ∧ (decode cX9_best 9 = .ok (.ireturn, 1)) := by decide +kernel
theorem dX9_best_0 : decode cX9_best 0 = .ok (.aload_n 0, 1) := dX9_best_k42.1
theorem dX9_best_1 : decode cX9_best 1 = .ok (.iload_n 1, 1) := dX9_best_k42.2.1
theorem dX9_best_2 : decode cX9_best 2 = .ok (.invokevirtual 121, 3) := dX9_best_k42.2.2.1
theorem dX9_best_5 : decode cX9_best 5 = .ok (.ifCond .ne 5, 3) := dX9_best_k42.2.2.2.1
theorem dX9_best_8 : decode cX9_best 8 = .ok (.iconst (-1), 1) := dX9_best_k42.2.2.2.2.1
theorem dX9_best_9 : decode cX9_best 9 = .ok (.ireturn, 1) := dX9_best_k42.2.2.2.2.2
set_option maxRecDepth 100000 in
theorem dX9_best_k43 : (decode cX9_best 10 = .ok (.aload_n 0, 1)) ∧ (decode cX9_best 11 = .ok (.invokevirtual 157, 3)) ∧ (decode cX9_best 14 = .ok (.aload_n 0, 1)) ∧ (decode cX9_best 15 = .ok (.getfield 47, 3)) ∧ (decode cX9_best 18 = .ok (.iload_n 1, 1)) ∧ (decode cX9_best 19 = .ok (.iaload, 1)) := by decide +kernel
theorem dX9_best_10 : decode cX9_best 10 = .ok (.aload_n 0, 1) := dX9_best_k43.1
theorem dX9_best_11 : decode cX9_best 11 = .ok (.invokevirtual 157, 3) := dX9_best_k43.2.1
theorem dX9_best_14 : decode cX9_best 14 = .ok (.aload_n 0, 1) := dX9_best_k43.2.2.1
theorem dX9_best_15 : decode cX9_best 15 = .ok (.getfield 47, 3) := dX9_best_k43.2.2.2.1
theorem dX9_best_18 : decode cX9_best 18 = .ok (.iload_n 1, 1) := dX9_best_k43.2.2.2.2.1
theorem dX9_best_19 : decode cX9_best 19 = .ok (.iaload, 1) := dX9_best_k43.2.2.2.2.2
set_option maxRecDepth 100000 in
theorem dX9_best_k44 : (decode cX9_best 20 = .ok (.istore_n 2, 1)) ∧ (decode cX9_best 21 = .ok (.aload_n 0, 1)) ∧ (decode cX9_best 22 = .ok (.iload_n 1, 1)) ∧ (decode cX9_best 23 = .ok (.iload_n 2, 1)) ∧ (decode cX9_best 24 = .ok (.bipush (-6), 2)) ∧ (decode cX9_best 26 = .ok (.iconst 0, 1)) := by decide +kernel
theorem dX9_best_20 : decode cX9_best 20 = .ok (.istore_n 2, 1) := dX9_best_k44.1
theorem dX9_best_21 : decode cX9_best 21 = .ok (.aload_n 0, 1) := dX9_best_k44.2.1
theorem dX9_best_22 : decode cX9_best 22 = .ok (.iload_n 1, 1) := dX9_best_k44.2.2.1
theorem dX9_best_23 : decode cX9_best 23 = .ok (.iload_n 2, 1) := dX9_best_k44.2.2.2.1
theorem dX9_best_24 : decode cX9_best 24 = .ok (.bipush (-6), 2) := dX9_best_k44.2.2.2.2.1
theorem dX9_best_26 : decode cX9_best 26 = .ok (.iconst 0, 1) := dX9_best_k44.2.2.2.2.2
set_option maxRecDepth 100000 in
theorem dX9_best_k45 : (decode cX9_best 27 = .ok (.invokevirtual 138, 3)) ∧ (decode cX9_best 30 = .ok (.istore_n 3, 1)) ∧ (decode cX9_best 31 = .ok (.iconst 0, 1)) ∧ (decode cX9_best 32 = .ok (.istore 4, 2)) ∧ (decode cX9_best 34 = .ok (.iload 4, 2)) ∧ (decode cX9_best 36 = .ok (.aload_n 0, 1)) := by decide +kernel
theorem dX9_best_27 : decode cX9_best 27 = .ok (.invokevirtual 138, 3) := dX9_best_k45.1
theorem dX9_best_30 : decode cX9_best 30 = .ok (.istore_n 3, 1) := dX9_best_k45.2.1
theorem dX9_best_31 : decode cX9_best 31 = .ok (.iconst 0, 1) := dX9_best_k45.2.2.1
theorem dX9_best_32 : decode cX9_best 32 = .ok (.istore 4, 2) := dX9_best_k45.2.2.2.1
theorem dX9_best_34 : decode cX9_best 34 = .ok (.iload 4, 2) := dX9_best_k45.2.2.2.2.1
theorem dX9_best_36 : decode cX9_best 36 = .ok (.aload_n 0, 1) := dX9_best_k45.2.2.2.2.2
set_option maxRecDepth 100000 in
theorem dX9_best_k46 : (decode cX9_best 37 = .ok (.getfield 7, 3)) ∧ (decode cX9_best 40 = .ok (.if_icmp .ge 33, 3)) ∧ (decode cX9_best 43 = .ok (.aload_n 0, 1)) ∧ (decode cX9_best 44 = .ok (.iload_n 1, 1)) ∧ (decode cX9_best 45 = .ok (.iload 4, 2)) ∧ (decode cX9_best 47 = .ok (.bipush (-6), 2)) := by decide +kernel
theorem dX9_best_37 : decode cX9_best 37 = .ok (.getfield 7, 3) := dX9_best_k46.1
theorem dX9_best_40 : decode cX9_best 40 = .ok (.if_icmp .ge 33, 3) := dX9_best_k46.2.1
theorem dX9_best_43 : decode cX9_best 43 = .ok (.aload_n 0, 1) := dX9_best_k46.2.2.1
theorem dX9_best_44 : decode cX9_best 44 = .ok (.iload_n 1, 1) := dX9_best_k46.2.2.2.1
theorem dX9_best_45 : decode cX9_best 45 = .ok (.iload 4, 2) := dX9_best_k46.2.2.2.2.1
theorem dX9_best_47 : decode cX9_best 47 = .ok (.bipush (-6), 2) := dX9_best_k46.2.2.2.2.2
set_option maxRecDepth 100000 in
theorem dX9_best_k47 : (decode cX9_best 49 = .ok (.iconst 0, 1)) ∧ (decode cX9_best 50 = .ok (.invokevirtual 138, 3)) ∧ (decode cX9_best 53 = .ok (.istore 5, 2)) ∧ (decode cX9_best 55 = .ok (.iload 5, 2)) ∧ (decode cX9_best 57 = .ok (.iload_n 3, 1)) ∧ (decode cX9_best 58 = .ok (.if_icmp .le 9, 3)) := by decide +kernel
theorem dX9_best_49 : decode cX9_best 49 = .ok (.iconst 0, 1) := dX9_best_k47.1
theorem dX9_best_50 : decode cX9_best 50 = .ok (.invokevirtual 138, 3) := dX9_best_k47.2.1
theorem dX9_best_53 : decode cX9_best 53 = .ok (.istore 5, 2) := dX9_best_k47.2.2.1
theorem dX9_best_55 : decode cX9_best 55 = .ok (.iload 5, 2) := dX9_best_k47.2.2.2.1
theorem dX9_best_57 : decode cX9_best 57 = .ok (.iload_n 3, 1) := dX9_best_k47.2.2.2.2.1
theorem dX9_best_58 : decode cX9_best 58 = .ok (.if_icmp .le 9, 3) := dX9_best_k47.2.2.2.2.2
set_option maxRecDepth 100000 in
theorem dX9_best_k48 : (decode cX9_best 61 = .ok (.iload 4, 2)) ∧ (decode cX9_best 63 = .ok (.istore_n 2, 1)) ∧ (decode cX9_best 64 = .ok (.iload 5, 2)) ∧ (decode cX9_best 66 = .ok (.istore_n 3, 1)) ∧ (decode cX9_best 67 = .ok (.iinc 4 1, 3)) ∧ (decode cX9_best 70 = .ok (.goto (-36), 3)) := by decide +kernel
theorem dX9_best_61 : decode cX9_best 61 = .ok (.iload 4, 2) := dX9_best_k48.1
theorem dX9_best_63 : decode cX9_best 63 = .ok (.istore_n 2, 1) := dX9_best_k48.2.1
theorem dX9_best_64 : decode cX9_best 64 = .ok (.iload 5, 2) := dX9_best_k48.2.2.1
theorem dX9_best_66 : decode cX9_best 66 = .ok (.istore_n 3, 1) := dX9_best_k48.2.2.2.1
theorem dX9_best_67 : decode cX9_best 67 = .ok (.iinc 4 1, 3) := dX9_best_k48.2.2.2.2.1
theorem dX9_best_70 : decode cX9_best 70 = .ok (.goto (-36), 3) := dX9_best_k48.2.2.2.2.2
set_option maxRecDepth 100000 in
theorem dX9_best_k49 : (decode cX9_best 73 = .ok (.iload_n 2, 1)) ∧ (decode cX9_best 74 = .ok (.ireturn, 1)) := by decide +kernel
theorem dX9_best_73 : decode cX9_best 73 = .ok (.iload_n 2, 1) := dX9_best_k49.1
theorem dX9_best_74 : decode cX9_best 74 = .ok (.ireturn, 1) := dX9_best_k49.2
set_option maxRecDepth 100000 in
theorem dX9_areAtRest_k50 : (decode cX9_areAtRest 0 = .ok (.iconst 0, 1)) ∧ (decode cX9_areAtRest 1 = .ok (.istore_n 2, 1)) ∧ (decode cX9_areAtRest 2 = .ok (.iload_n 2, 1)) ∧ (decode cX9_areAtRest 3 = .ok (.aload_n 0, 1)) ∧ (decode cX9_areAtRest 4 = .ok (.getfield 7, 3)) ∧ (decode cX9_areAtRest 7 = .ok (.if_icmp .ge 27, 3)) := by decide +kernel
theorem dX9_areAtRest_0 : decode cX9_areAtRest 0 = .ok (.iconst 0, 1) := dX9_areAtRest_k50.1
theorem dX9_areAtRest_1 : decode cX9_areAtRest 1 = .ok (.istore_n 2, 1) := dX9_areAtRest_k50.2.1
theorem dX9_areAtRest_2 : decode cX9_areAtRest 2 = .ok (.iload_n 2, 1) := dX9_areAtRest_k50.2.2.1
theorem dX9_areAtRest_3 : decode cX9_areAtRest 3 = .ok (.aload_n 0, 1) := dX9_areAtRest_k50.2.2.2.1
theorem dX9_areAtRest_4 : decode cX9_areAtRest 4 = .ok (.getfield 7, 3) := dX9_areAtRest_k50.2.2.2.2.1
theorem dX9_areAtRest_7 : decode cX9_areAtRest 7 = .ok (.if_icmp .ge 27, 3) := dX9_areAtRest_k50.2.2.2.2.2
set_option maxRecDepth 100000 in
theorem dX9_areAtRest_k51 : (decode cX9_areAtRest 10 = .ok (.aload_n 0, 1)) ∧ (decode cX9_areAtRest 11 = .ok (.iload_n 2, 1)) ∧ (decode cX9_areAtRest 12 = .ok (.bipush (-6), 2)) ∧ (decode cX9_areAtRest 14 = .ok (.invokevirtual 134, 3)) ∧ (decode cX9_areAtRest 17 = .ok (.aload_n 0, 1)) ∧ (decode cX9_areAtRest 18 = .ok (.getfield 17, 3)) := by decide +kernel
theorem dX9_areAtRest_10 : decode cX9_areAtRest 10 = .ok (.aload_n 0, 1) := dX9_areAtRest_k51.1
theorem dX9_areAtRest_11 : decode cX9_areAtRest 11 = .ok (.iload_n 2, 1) := dX9_areAtRest_k51.2.1
theorem dX9_areAtRest_12 : decode cX9_areAtRest 12 = .ok (.bipush (-6), 2) := dX9_areAtRest_k51.2.2.1
theorem dX9_areAtRest_14 : decode cX9_areAtRest 14 = .ok (.invokevirtual 134, 3) := dX9_areAtRest_k51.2.2.2.1
theorem dX9_areAtRest_17 : decode cX9_areAtRest 17 = .ok (.aload_n 0, 1) := dX9_areAtRest_k51.2.2.2.2.1
theorem dX9_areAtRest_18 : decode cX9_areAtRest 18 = .ok (.getfield 17, 3) := dX9_areAtRest_k51.2.2.2.2.2
set_option maxRecDepth 100000 in
theorem dX9_areAtRest_k52 : (decode cX9_areAtRest 21 = .ok (.iload_n 2, 1)) ∧ (decode cX9_areAtRest 22 = .ok (.iaload, 1)) ∧ (decode cX9_areAtRest 23 = .ok (.if_icmp .le 5, 3)) ∧ (decode cX9_areAtRest 26 = .ok (.iconst 0, 1)) ∧ (decode cX9_areAtRest 27 = .ok (.ireturn, 1)) ∧ (decode cX9_areAtRest 28 = .ok (.iinc 2 1, 3)) := by decide +kernel
theorem dX9_areAtRest_21 : decode cX9_areAtRest 21 = .ok (.iload_n 2, 1) := dX9_areAtRest_k52.1
theorem dX9_areAtRest_22 : decode cX9_areAtRest 22 = .ok (.iaload, 1) := dX9_areAtRest_k52.2.1
theorem dX9_areAtRest_23 : decode cX9_areAtRest 23 = .ok (.if_icmp .le 5, 3) := dX9_areAtRest_k52.2.2.1
theorem dX9_areAtRest_26 : decode cX9_areAtRest 26 = .ok (.iconst 0, 1) := dX9_areAtRest_k52.2.2.2.1
theorem dX9_areAtRest_27 : decode cX9_areAtRest 27 = .ok (.ireturn, 1) := dX9_areAtRest_k52.2.2.2.2.1
theorem dX9_areAtRest_28 : decode cX9_areAtRest 28 = .ok (.iinc 2 1, 3) := dX9_areAtRest_k52.2.2.2.2.2
set_option maxRecDepth 100000 in
theorem dX9_areAtRest_k53 : (decode cX9_areAtRest 31 = .ok (.goto (-29), 3)) ∧ (decode cX9_areAtRest 34 = .ok (.iconst 0, 1)) ∧ (decode cX9_areAtRest 35 = .ok (.istore_n 2, 1)) ∧ (decode cX9_areAtRest 36 = .ok (.iload_n 2, 1)) ∧ (decode cX9_areAtRest 37 = .ok (.bipush 8, 2)) ∧ (decode cX9_areAtRest 39 = .ok (.if_icmp .ge 108, 3)) := by decide +kernel
theorem dX9_areAtRest_31 : decode cX9_areAtRest 31 = .ok (.goto (-29), 3) := dX9_areAtRest_k53.1
theorem dX9_areAtRest_34 : decode cX9_areAtRest 34 = .ok (.iconst 0, 1) := dX9_areAtRest_k53.2.1
theorem dX9_areAtRest_35 : decode cX9_areAtRest 35 = .ok (.istore_n 2, 1) := dX9_areAtRest_k53.2.2.1
theorem dX9_areAtRest_36 : decode cX9_areAtRest 36 = .ok (.iload_n 2, 1) := dX9_areAtRest_k53.2.2.2.1
theorem dX9_areAtRest_37 : decode cX9_areAtRest 37 = .ok (.bipush 8, 2) := dX9_areAtRest_k53.2.2.2.2.1
theorem dX9_areAtRest_39 : decode cX9_areAtRest 39 = .ok (.if_icmp .ge 108, 3) := dX9_areAtRest_k53.2.2.2.2.2
set_option maxRecDepth 100000 in
theorem dX9_areAtRest_k54 : (decode cX9_areAtRest 42 = .ok (.iload_n 1, 1)) ∧ (decode cX9_areAtRest 43 = .ok (.iload_n 2, 1)) ∧ (decode cX9_areAtRest 44 = .ok (.invokestatic 98, 3)) ∧ (decode cX9_areAtRest 47 = .ok (.ifCond .eq 20, 3)) ∧ (decode cX9_areAtRest 50 = .ok (.aload_n 0, 1)) ∧ (decode cX9_areAtRest 51 = .ok (.iload_n 2, 1)) := by decide +kernel
theorem dX9_areAtRest_42 : decode cX9_areAtRest 42 = .ok (.iload_n 1, 1) := dX9_areAtRest_k54.1
theorem dX9_areAtRest_43 : decode cX9_areAtRest 43 = .ok (.iload_n 2, 1) := dX9_areAtRest_k54.2.1
theorem dX9_areAtRest_44 : decode cX9_areAtRest 44 = .ok (.invokestatic 98, 3) := dX9_areAtRest_k54.2.2.1
theorem dX9_areAtRest_47 : decode cX9_areAtRest 47 = .ok (.ifCond .eq 20, 3) := dX9_areAtRest_k54.2.2.2.1
theorem dX9_areAtRest_50 : decode cX9_areAtRest 50 = .ok (.aload_n 0, 1) := dX9_areAtRest_k54.2.2.2.2.1
theorem dX9_areAtRest_51 : decode cX9_areAtRest 51 = .ok (.iload_n 2, 1) := dX9_areAtRest_k54.2.2.2.2.2
set_option maxRecDepth 100000 in
theorem dX9_areAtRest_k55 : (decode cX9_areAtRest 52 = .ok (.aload_n 0, 1)) ∧ (decode cX9_areAtRest 53 = .ok (.getfield 47, 3)) ∧ (decode cX9_areAtRest 56 = .ok (.iload_n 2, 1)) ∧ (decode cX9_areAtRest 57 = .ok (.iaload, 1)) ∧ (decode cX9_areAtRest 58 = .ok (.bipush (-6), 2)) ∧ (decode cX9_areAtRest 60 = .ok (.iconst 0, 1)) := by decide +kernel
theorem dX9_areAtRest_52 : decode cX9_areAtRest 52 = .ok (.aload_n 0, 1) := dX9_areAtRest_k55.1
theorem dX9_areAtRest_53 : decode cX9_areAtRest 53 = .ok (.getfield 47, 3) := dX9_areAtRest_k55.2.1
theorem dX9_areAtRest_56 : decode cX9_areAtRest 56 = .ok (.iload_n 2, 1) := dX9_areAtRest_k55.2.2.1
theorem dX9_areAtRest_57 : decode cX9_areAtRest 57 = .ok (.iaload, 1) := dX9_areAtRest_k55.2.2.2.1
theorem dX9_areAtRest_58 : decode cX9_areAtRest 58 = .ok (.bipush (-6), 2) := dX9_areAtRest_k55.2.2.2.2.1
theorem dX9_areAtRest_60 : decode cX9_areAtRest 60 = .ok (.iconst 0, 1) := dX9_areAtRest_k55.2.2.2.2.2
set_option maxRecDepth 100000 in
theorem dX9_areAtRest_k56 : (decode cX9_areAtRest 61 = .ok (.invokevirtual 138, 3)) ∧ (decode cX9_areAtRest 64 = .ok (.goto 5, 3)) ∧ (decode cX9_areAtRest 67 = .ok (.ldc 217, 2)) ∧ (decode cX9_areAtRest 69 = .ok (.istore_n 3, 1)) ∧ (decode cX9_areAtRest 70 = .ok (.iconst 0, 1)) ∧ (decode cX9_areAtRest 71 = .ok (.istore 4, 2)) := by decide +kernel
theorem dX9_areAtRest_61 : decode cX9_areAtRest 61 = .ok (.invokevirtual 138, 3) := dX9_areAtRest_k56.1
theorem dX9_areAtRest_64 : decode cX9_areAtRest 64 = .ok (.goto 5, 3) := dX9_areAtRest_k56.2.1
theorem dX9_areAtRest_67 : decode cX9_areAtRest 67 = .ok (.ldc 217, 2) := dX9_areAtRest_k56.2.2.1
theorem dX9_areAtRest_69 : decode cX9_areAtRest 69 = .ok (.istore_n 3, 1) := dX9_areAtRest_k56.2.2.2.1
theorem dX9_areAtRest_70 : decode cX9_areAtRest 70 = .ok (.iconst 0, 1) := dX9_areAtRest_k56.2.2.2.2.1
theorem dX9_areAtRest_71 : decode cX9_areAtRest 71 = .ok (.istore 4, 2) := dX9_areAtRest_k56.2.2.2.2.2
set_option maxRecDepth 100000 in
theorem dX9_areAtRest_k57 : (decode cX9_areAtRest 73 = .ok (.iload 4, 2)) ∧ (decode cX9_areAtRest 75 = .ok (.aload_n 0, 1)) ∧ (decode cX9_areAtRest 76 = .ok (.getfield 7, 3)) ∧ (decode cX9_areAtRest 79 = .ok (.if_icmp .ge 62, 3)) ∧ (decode cX9_areAtRest 82 = .ok (.iload_n 1, 1)) ∧ (decode cX9_areAtRest 83 = .ok (.iload_n 2, 1)) := by decide +kernel
theorem dX9_areAtRest_73 : decode cX9_areAtRest 73 = .ok (.iload 4, 2) := dX9_areAtRest_k57.1
theorem dX9_areAtRest_75 : decode cX9_areAtRest 75 = .ok (.aload_n 0, 1) := dX9_areAtRest_k57.2.1
theorem dX9_areAtRest_76 : decode cX9_areAtRest 76 = .ok (.getfield 7, 3) := dX9_areAtRest_k57.2.2.1
theorem dX9_areAtRest_79 : decode cX9_areAtRest 79 = .ok (.if_icmp .ge 62, 3) := dX9_areAtRest_k57.2.2.2.1
theorem dX9_areAtRest_82 : decode cX9_areAtRest 82 = .ok (.iload_n 1, 1) := dX9_areAtRest_k57.2.2.2.2.1
theorem dX9_areAtRest_83 : decode cX9_areAtRest 83 = .ok (.iload_n 2, 1) := dX9_areAtRest_k57.2.2.2.2.2
set_option maxRecDepth 100000 in
theorem dX9_areAtRest_k58 : (decode cX9_areAtRest 84 = .ok (.invokestatic 98, 3)) ∧ (decode cX9_areAtRest 87 = .ok (.ifCond .eq 54, 3)) ∧ (decode cX9_areAtRest 90 = .ok (.iload 4, 2)) ∧ (decode cX9_areAtRest 92 = .ok (.aload_n 0, 1)) ∧ (decode cX9_areAtRest 93 = .ok (.getfield 47, 3)) ∧ (decode cX9_areAtRest 96 = .ok (.iload_n 2, 1)) := by decide +kernel
theorem dX9_areAtRest_84 : decode cX9_areAtRest 84 = .ok (.invokestatic 98, 3) := dX9_areAtRest_k58.1
theorem dX9_areAtRest_87 : decode cX9_areAtRest 87 = .ok (.ifCond .eq 54, 3) := dX9_areAtRest_k58.2.1
theorem dX9_areAtRest_90 : decode cX9_areAtRest 90 = .ok (.iload 4, 2) := dX9_areAtRest_k58.2.2.1
theorem dX9_areAtRest_92 : decode cX9_areAtRest 92 = .ok (.aload_n 0, 1) := dX9_areAtRest_k58.2.2.2.1
theorem dX9_areAtRest_93 : decode cX9_areAtRest 93 = .ok (.getfield 47, 3) := dX9_areAtRest_k58.2.2.2.2.1
theorem dX9_areAtRest_96 : decode cX9_areAtRest 96 = .ok (.iload_n 2, 1) := dX9_areAtRest_k58.2.2.2.2.2
set_option maxRecDepth 100000 in
theorem dX9_areAtRest_k59 : (decode cX9_areAtRest 97 = .ok (.iaload, 1)) ∧ (decode cX9_areAtRest 98 = .ok (.if_icmp .eq 37, 3)) ∧ (decode cX9_areAtRest 101 = .ok (.aload_n 0, 1)) ∧ (decode cX9_areAtRest 102 = .ok (.iload 4, 2)) ∧ (decode cX9_areAtRest 104 = .ok (.bipush (-6), 2)) ∧ (decode cX9_areAtRest 106 = .ok (.invokevirtual 134, 3)) := by decide +kernel
theorem dX9_areAtRest_97 : decode cX9_areAtRest 97 = .ok (.iaload, 1) := dX9_areAtRest_k59.1
theorem dX9_areAtRest_98 : decode cX9_areAtRest 98 = .ok (.if_icmp .eq 37, 3) := dX9_areAtRest_k59.2.1
theorem dX9_areAtRest_101 : decode cX9_areAtRest 101 = .ok (.aload_n 0, 1) := dX9_areAtRest_k59.2.2.1
theorem dX9_areAtRest_102 : decode cX9_areAtRest 102 = .ok (.iload 4, 2) := dX9_areAtRest_k59.2.2.2.1
theorem dX9_areAtRest_104 : decode cX9_areAtRest 104 = .ok (.bipush (-6), 2) := dX9_areAtRest_k59.2.2.2.2.1
theorem dX9_areAtRest_106 : decode cX9_areAtRest 106 = .ok (.invokevirtual 134, 3) := dX9_areAtRest_k59.2.2.2.2.2
set_option maxRecDepth 100000 in
theorem dX9_areAtRest_k60 : (decode cX9_areAtRest 109 = .ok (.aload_n 0, 1)) ∧ (decode cX9_areAtRest 110 = .ok (.getfield 17, 3)) ∧ (decode cX9_areAtRest 113 = .ok (.iload 4, 2)) ∧ (decode cX9_areAtRest 115 = .ok (.iaload, 1)) ∧ (decode cX9_areAtRest 116 = .ok (.if_icmp .ge 19, 3)) ∧ (decode cX9_areAtRest 119 = .ok (.aload_n 0, 1)) := by decide +kernel
theorem dX9_areAtRest_109 : decode cX9_areAtRest 109 = .ok (.aload_n 0, 1) := dX9_areAtRest_k60.1
theorem dX9_areAtRest_110 : decode cX9_areAtRest 110 = .ok (.getfield 17, 3) := dX9_areAtRest_k60.2.1
theorem dX9_areAtRest_113 : decode cX9_areAtRest 113 = .ok (.iload 4, 2) := dX9_areAtRest_k60.2.2.1
theorem dX9_areAtRest_115 : decode cX9_areAtRest 115 = .ok (.iaload, 1) := dX9_areAtRest_k60.2.2.2.1
theorem dX9_areAtRest_116 : decode cX9_areAtRest 116 = .ok (.if_icmp .ge 19, 3) := dX9_areAtRest_k60.2.2.2.2.1
theorem dX9_areAtRest_119 : decode cX9_areAtRest 119 = .ok (.aload_n 0, 1) := dX9_areAtRest_k60.2.2.2.2.2
set_option maxRecDepth 100000 in
theorem dX9_areAtRest_k61 : (decode cX9_areAtRest 120 = .ok (.iload_n 2, 1)) ∧ (decode cX9_areAtRest 121 = .ok (.iload 4, 2)) ∧ (decode cX9_areAtRest 123 = .ok (.bipush (-6), 2)) ∧ (decode cX9_areAtRest 125 = .ok (.iconst 0, 1)) ∧ (decode cX9_areAtRest 126 = .ok (.invokevirtual 138, 3)) ∧ (decode cX9_areAtRest 129 = .ok (.iload_n 3, 1)) := by decide +kernel
theorem dX9_areAtRest_120 : decode cX9_areAtRest 120 = .ok (.iload_n 2, 1) := dX9_areAtRest_k61.1
theorem dX9_areAtRest_121 : decode cX9_areAtRest 121 = .ok (.iload 4, 2) := dX9_areAtRest_k61.2.1
theorem dX9_areAtRest_123 : decode cX9_areAtRest 123 = .ok (.bipush (-6), 2) := dX9_areAtRest_k61.2.2.1
theorem dX9_areAtRest_125 : decode cX9_areAtRest 125 = .ok (.iconst 0, 1) := dX9_areAtRest_k61.2.2.2.1
theorem dX9_areAtRest_126 : decode cX9_areAtRest 126 = .ok (.invokevirtual 138, 3) := dX9_areAtRest_k61.2.2.2.2.1
theorem dX9_areAtRest_129 : decode cX9_areAtRest 129 = .ok (.iload_n 3, 1) := dX9_areAtRest_k61.2.2.2.2.2
set_option maxRecDepth 100000 in
theorem dX9_areAtRest_k62 : (decode cX9_areAtRest 130 = .ok (.if_icmp .le 5, 3)) ∧ (decode cX9_areAtRest 133 = .ok (.iconst 0, 1)) ∧ (decode cX9_areAtRest 134 = .ok (.ireturn, 1)) ∧ (decode cX9_areAtRest 135 = .ok (.iinc 4 1, 3)) ∧ (decode cX9_areAtRest 138 = .ok (.goto (-65), 3)) ∧ (decode cX9_areAtRest 141 = .ok (.iinc 2 1, 3)) := by decide +kernel
theorem dX9_areAtRest_130 : decode cX9_areAtRest 130 = .ok (.if_icmp .le 5, 3) := dX9_areAtRest_k62.1
theorem dX9_areAtRest_133 : decode cX9_areAtRest 133 = .ok (.iconst 0, 1) := dX9_areAtRest_k62.2.1
theorem dX9_areAtRest_134 : decode cX9_areAtRest 134 = .ok (.ireturn, 1) := dX9_areAtRest_k62.2.2.1
theorem dX9_areAtRest_135 : decode cX9_areAtRest 135 = .ok (.iinc 4 1, 3) := dX9_areAtRest_k62.2.2.2.1
theorem dX9_areAtRest_138 : decode cX9_areAtRest 138 = .ok (.goto (-65), 3) := dX9_areAtRest_k62.2.2.2.2.1
theorem dX9_areAtRest_141 : decode cX9_areAtRest 141 = .ok (.iinc 2 1, 3) := dX9_areAtRest_k62.2.2.2.2.2
set_option maxRecDepth 100000 in
theorem dX9_areAtRest_k63 : (decode cX9_areAtRest 144 = .ok (.goto (-108), 3)) ∧ (decode cX9_areAtRest 147 = .ok (.iconst 1, 1)) ∧ (decode cX9_areAtRest 148 = .ok (.ireturn, 1)) := by decide +kernel
theorem dX9_areAtRest_144 : decode cX9_areAtRest 144 = .ok (.goto (-108), 3) := dX9_areAtRest_k63.1
theorem dX9_areAtRest_147 : decode cX9_areAtRest 147 = .ok (.iconst 1, 1) := dX9_areAtRest_k63.2.1
theorem dX9_areAtRest_148 : decode cX9_areAtRest 148 = .ok (.ireturn, 1) := dX9_areAtRest_k63.2.2
set_option maxRecDepth 100000 in
theorem dX9_rests_k64 : (decode cX9_rests 0 = .ok (.iload_n 1, 1)) ∧ (decode cX9_rests 1 = .ok (.iconst 0, 1)) ∧ (decode cX9_rests 2 = .ok (.sipush 255, 3)) ∧ (decode cX9_rests 5 = .ok (.invokestatic 94, 3)) ∧ (decode cX9_rests 8 = .ok (.ifCond .eq 14, 3)) ∧ (decode cX9_rests 11 = .ok (.iload_n 1, 1)) := by decide +kernel
theorem dX9_rests_0 : decode cX9_rests 0 = .ok (.iload_n 1, 1) := dX9_rests_k64.1
theorem dX9_rests_1 : decode cX9_rests 1 = .ok (.iconst 0, 1) := dX9_rests_k64.2.1
theorem dX9_rests_2 : decode cX9_rests 2 = .ok (.sipush 255, 3) := dX9_rests_k64.2.2.1
theorem dX9_rests_5 : decode cX9_rests 5 = .ok (.invokestatic 94, 3) := dX9_rests_k64.2.2.2.1
theorem dX9_rests_8 : decode cX9_rests 8 = .ok (.ifCond .eq 14, 3) := dX9_rests_k64.2.2.2.2.1
theorem dX9_rests_11 : decode cX9_rests 11 = .ok (.iload_n 1, 1) := dX9_rests_k64.2.2.2.2.2
set_option maxRecDepth 100000 in
theorem dX9_rests_k65 : (decode cX9_rests 12 = .ok (.aload_n 0, 1)) ∧ (decode cX9_rests 13 = .ok (.getfield 88, 3)) ∧ (decode cX9_rests 16 = .ok (.iconst (-1), 1)) ∧ (decode cX9_rests 17 = .ok (.ixor, 1)) ∧ (decode cX9_rests 18 = .ok (.iand, 1)) ∧ (decode cX9_rests 19 = .ok (.ifCond .eq 6, 3)) := by decide +kernel
theorem dX9_rests_12 : decode cX9_rests 12 = .ok (.aload_n 0, 1) := dX9_rests_k65.1
theorem dX9_rests_13 : decode cX9_rests 13 = .ok (.getfield 88, 3) := dX9_rests_k65.2.1
theorem dX9_rests_16 : decode cX9_rests 16 = .ok (.iconst (-1), 1) := dX9_rests_k65.2.2.1
theorem dX9_rests_17 : decode cX9_rests 17 = .ok (.ixor, 1) := dX9_rests_k65.2.2.2.1
theorem dX9_rests_18 : decode cX9_rests 18 = .ok (.iand, 1) := dX9_rests_k65.2.2.2.2.1
theorem dX9_rests_19 : decode cX9_rests 19 = .ok (.ifCond .eq 6, 3) := dX9_rests_k65.2.2.2.2.2
set_option maxRecDepth 100000 in
theorem dX9_rests_k66 : (decode cX9_rests 22 = .ok (.bipush (-2), 2)) ∧ (decode cX9_rests 24 = .ok (.ireturn, 1)) ∧ (decode cX9_rests 25 = .ok (.iload_n 1, 1)) ∧ (decode cX9_rests 26 = .ok (.invokestatic 117, 3)) ∧ (decode cX9_rests 29 = .ok (.bipush 6, 2)) ∧ (decode cX9_rests 31 = .ok (.if_icmp .le 6, 3)) := by decide +kernel
theorem dX9_rests_22 : decode cX9_rests 22 = .ok (.bipush (-2), 2) := dX9_rests_k66.1
theorem dX9_rests_24 : decode cX9_rests 24 = .ok (.ireturn, 1) := dX9_rests_k66.2.1
theorem dX9_rests_25 : decode cX9_rests 25 = .ok (.iload_n 1, 1) := dX9_rests_k66.2.2.1
theorem dX9_rests_26 : decode cX9_rests 26 = .ok (.invokestatic 117, 3) := dX9_rests_k66.2.2.2.1
theorem dX9_rests_29 : decode cX9_rests 29 = .ok (.bipush 6, 2) := dX9_rests_k66.2.2.2.2.1
theorem dX9_rests_31 : decode cX9_rests 31 = .ok (.if_icmp .le 6, 3) := dX9_rests_k66.2.2.2.2.2
set_option maxRecDepth 100000 in
theorem dX9_rests_k67 : (decode cX9_rests 34 = .ok (.bipush (-4), 2)) ∧ (decode cX9_rests 36 = .ok (.ireturn, 1)) ∧ (decode cX9_rests 37 = .ok (.iload_n 2, 1)) ∧ (decode cX9_rests 38 = .ok (.iconst (-1), 1)) ∧ (decode cX9_rests 39 = .ok (.if_icmp .eq 23, 3)) ∧ (decode cX9_rests 42 = .ok (.iload_n 2, 1)) := by decide +kernel
theorem dX9_rests_34 : decode cX9_rests 34 = .ok (.bipush (-4), 2) := dX9_rests_k67.1
theorem dX9_rests_36 : decode cX9_rests 36 = .ok (.ireturn, 1) := dX9_rests_k67.2.1
theorem dX9_rests_37 : decode cX9_rests 37 = .ok (.iload_n 2, 1) := dX9_rests_k67.2.2.1
theorem dX9_rests_38 : decode cX9_rests 38 = .ok (.iconst (-1), 1) := dX9_rests_k67.2.2.2.1
theorem dX9_rests_39 : decode cX9_rests 39 = .ok (.if_icmp .eq 23, 3) := dX9_rests_k67.2.2.2.2.1
theorem dX9_rests_42 : decode cX9_rests 42 = .ok (.iload_n 2, 1) := dX9_rests_k67.2.2.2.2.2
set_option maxRecDepth 100000 in
theorem dX9_rests_k68 : (decode cX9_rests 43 = .ok (.iconst 0, 1)) ∧ (decode cX9_rests 44 = .ok (.bipush 7, 2)) ∧ (decode cX9_rests 46 = .ok (.invokestatic 94, 3)) ∧ (decode cX9_rests 49 = .ok (.ifCond .eq 11, 3)) ∧ (decode cX9_rests 52 = .ok (.iload_n 1, 1)) ∧ (decode cX9_rests 53 = .ok (.iload_n 2, 1)) := by decide +kernel
theorem dX9_rests_43 : decode cX9_rests 43 = .ok (.iconst 0, 1) := dX9_rests_k68.1
theorem dX9_rests_44 : decode cX9_rests 44 = .ok (.bipush 7, 2) := dX9_rests_k68.2.1
theorem dX9_rests_46 : decode cX9_rests 46 = .ok (.invokestatic 94, 3) := dX9_rests_k68.2.2.1
theorem dX9_rests_49 : decode cX9_rests 49 = .ok (.ifCond .eq 11, 3) := dX9_rests_k68.2.2.2.1
theorem dX9_rests_52 : decode cX9_rests 52 = .ok (.iload_n 1, 1) := dX9_rests_k68.2.2.2.2.1
theorem dX9_rests_53 : decode cX9_rests 53 = .ok (.iload_n 2, 1) := dX9_rests_k68.2.2.2.2.2
set_option maxRecDepth 100000 in
theorem dX9_rests_k69 : (decode cX9_rests 54 = .ok (.invokestatic 98, 3)) ∧ (decode cX9_rests 57 = .ok (.ifCond .ne 5, 3)) ∧ (decode cX9_rests 60 = .ok (.iconst (-1), 1)) ∧ (decode cX9_rests 61 = .ok (.ireturn, 1)) ∧ (decode cX9_rests 62 = .ok (.iconst 1, 1)) ∧ (decode cX9_rests 63 = .ok (.istore_n 3, 1)) := by decide +kernel
theorem dX9_rests_54 : decode cX9_rests 54 = .ok (.invokestatic 98, 3) := dX9_rests_k69.1
theorem dX9_rests_57 : decode cX9_rests 57 = .ok (.ifCond .ne 5, 3) := dX9_rests_k69.2.1
theorem dX9_rests_60 : decode cX9_rests 60 = .ok (.iconst (-1), 1) := dX9_rests_k69.2.2.1
theorem dX9_rests_61 : decode cX9_rests 61 = .ok (.ireturn, 1) := dX9_rests_k69.2.2.2.1
theorem dX9_rests_62 : decode cX9_rests 62 = .ok (.iconst 1, 1) := dX9_rests_k69.2.2.2.2.1
theorem dX9_rests_63 : decode cX9_rests 63 = .ok (.istore_n 3, 1) := dX9_rests_k69.2.2.2.2.2
set_option maxRecDepth 100000 in
theorem dX9_rests_k70 : (decode cX9_rests 64 = .ok (.iconst 0, 1)) ∧ (decode cX9_rests 65 = .ok (.istore 4, 2)) ∧ (decode cX9_rests 67 = .ok (.iload 4, 2)) ∧ (decode cX9_rests 69 = .ok (.iload_n 1, 1)) ∧ (decode cX9_rests 70 = .ok (.invokestatic 117, 3)) ∧ (decode cX9_rests 73 = .ok (.if_icmp .ge 16, 3)) := by decide +kernel
theorem dX9_rests_64 : decode cX9_rests 64 = .ok (.iconst 0, 1) := dX9_rests_k70.1
theorem dX9_rests_65 : decode cX9_rests 65 = .ok (.istore 4, 2) := dX9_rests_k70.2.1
theorem dX9_rests_67 : decode cX9_rests 67 = .ok (.iload 4, 2) := dX9_rests_k70.2.2.1
theorem dX9_rests_69 : decode cX9_rests 69 = .ok (.iload_n 1, 1) := dX9_rests_k70.2.2.2.1
theorem dX9_rests_70 : decode cX9_rests 70 = .ok (.invokestatic 117, 3) := dX9_rests_k70.2.2.2.2.1
theorem dX9_rests_73 : decode cX9_rests 73 = .ok (.if_icmp .ge 16, 3) := dX9_rests_k70.2.2.2.2.2
set_option maxRecDepth 100000 in
theorem dX9_rests_k71 : (decode cX9_rests 76 = .ok (.iload_n 3, 1)) ∧ (decode cX9_rests 77 = .ok (.aload_n 0, 1)) ∧ (decode cX9_rests 78 = .ok (.getfield 7, 3)) ∧ (decode cX9_rests 81 = .ok (.imul, 1)) ∧ (decode cX9_rests 82 = .ok (.istore_n 3, 1)) ∧ (decode cX9_rests 83 = .ok (.iinc 4 1, 3)) := by decide +kernel
theorem dX9_rests_76 : decode cX9_rests 76 = .ok (.iload_n 3, 1) := dX9_rests_k71.1
theorem dX9_rests_77 : decode cX9_rests 77 = .ok (.aload_n 0, 1) := dX9_rests_k71.2.1
theorem dX9_rests_78 : decode cX9_rests 78 = .ok (.getfield 7, 3) := dX9_rests_k71.2.2.1
theorem dX9_rests_81 : decode cX9_rests 81 = .ok (.imul, 1) := dX9_rests_k71.2.2.2.1
theorem dX9_rests_82 : decode cX9_rests 82 = .ok (.istore_n 3, 1) := dX9_rests_k71.2.2.2.2.1
theorem dX9_rests_83 : decode cX9_rests 83 = .ok (.iinc 4 1, 3) := dX9_rests_k71.2.2.2.2.2
set_option maxRecDepth 100000 in
theorem dX9_rests_k72 : (decode cX9_rests 86 = .ok (.goto (-19), 3)) ∧ (decode cX9_rests 89 = .ok (.iconst 0, 1)) ∧ (decode cX9_rests 90 = .ok (.istore 4, 2)) ∧ (decode cX9_rests 92 = .ok (.bipush (-6), 2)) ∧ (decode cX9_rests 94 = .ok (.istore 5, 2)) ∧ (decode cX9_rests 96 = .ok (.iconst 0, 1)) := by decide +kernel
theorem dX9_rests_86 : decode cX9_rests 86 = .ok (.goto (-19), 3) := dX9_rests_k72.1
theorem dX9_rests_89 : decode cX9_rests 89 = .ok (.iconst 0, 1) := dX9_rests_k72.2.1
theorem dX9_rests_90 : decode cX9_rests 90 = .ok (.istore 4, 2) := dX9_rests_k72.2.2.1
theorem dX9_rests_92 : decode cX9_rests 92 = .ok (.bipush (-6), 2) := dX9_rests_k72.2.2.2.1
theorem dX9_rests_94 : decode cX9_rests 94 = .ok (.istore 5, 2) := dX9_rests_k72.2.2.2.2.1
theorem dX9_rests_96 : decode cX9_rests 96 = .ok (.iconst 0, 1) := dX9_rests_k72.2.2.2.2.2
set_option maxRecDepth 100000 in
theorem dX9_rests_k73 : (decode cX9_rests 97 = .ok (.istore 6, 2)) ∧ (decode cX9_rests 99 = .ok (.iload 6, 2)) ∧ (decode cX9_rests 101 = .ok (.iload_n 3, 1)) ∧ (decode cX9_rests 102 = .ok (.if_icmp .ge 100, 3)) ∧ (decode cX9_rests 105 = .ok (.aload_n 0, 1)) ∧ (decode cX9_rests 106 = .ok (.invokevirtual 157, 3)) := by decide +kernel
theorem dX9_rests_97 : decode cX9_rests 97 = .ok (.istore 6, 2) := dX9_rests_k73.1
theorem dX9_rests_99 : decode cX9_rests 99 = .ok (.iload 6, 2) := dX9_rests_k73.2.1
theorem dX9_rests_101 : decode cX9_rests 101 = .ok (.iload_n 3, 1) := dX9_rests_k73.2.2.1
theorem dX9_rests_102 : decode cX9_rests 102 = .ok (.if_icmp .ge 100, 3) := dX9_rests_k73.2.2.2.1
theorem dX9_rests_105 : decode cX9_rests 105 = .ok (.aload_n 0, 1) := dX9_rests_k73.2.2.2.2.1
theorem dX9_rests_106 : decode cX9_rests 106 = .ok (.invokevirtual 157, 3) := dX9_rests_k73.2.2.2.2.2
set_option maxRecDepth 100000 in
theorem dX9_rests_k74 : (decode cX9_rests 109 = .ok (.iload_n 3, 1)) ∧ (decode cX9_rests 110 = .ok (.istore 7, 2)) ∧ (decode cX9_rests 112 = .ok (.iconst 0, 1)) ∧ (decode cX9_rests 113 = .ok (.istore 8, 2)) ∧ (decode cX9_rests 115 = .ok (.iload 8, 2)) ∧ (decode cX9_rests 117 = .ok (.bipush 8, 2)) := by decide +kernel
theorem dX9_rests_109 : decode cX9_rests 109 = .ok (.iload_n 3, 1) := dX9_rests_k74.1
theorem dX9_rests_110 : decode cX9_rests 110 = .ok (.istore 7, 2) := dX9_rests_k74.2.1
theorem dX9_rests_112 : decode cX9_rests 112 = .ok (.iconst 0, 1) := dX9_rests_k74.2.2.1
theorem dX9_rests_113 : decode cX9_rests 113 = .ok (.istore 8, 2) := dX9_rests_k74.2.2.2.1
theorem dX9_rests_115 : decode cX9_rests 115 = .ok (.iload 8, 2) := dX9_rests_k74.2.2.2.2.1
theorem dX9_rests_117 : decode cX9_rests 117 = .ok (.bipush 8, 2) := dX9_rests_k74.2.2.2.2.2
set_option maxRecDepth 100000 in
theorem dX9_rests_k75 : (decode cX9_rests 119 = .ok (.if_icmp .ge 44, 3)) ∧ (decode cX9_rests 122 = .ok (.iload_n 1, 1)) ∧ (decode cX9_rests 123 = .ok (.iload 8, 2)) ∧ (decode cX9_rests 125 = .ok (.invokestatic 98, 3)) ∧ (decode cX9_rests 128 = .ok (.ifCond .eq 29, 3)) ∧ (decode cX9_rests 131 = .ok (.iload 7, 2)) := by decide +kernel
theorem dX9_rests_119 : decode cX9_rests 119 = .ok (.if_icmp .ge 44, 3) := dX9_rests_k75.1
theorem dX9_rests_122 : decode cX9_rests 122 = .ok (.iload_n 1, 1) := dX9_rests_k75.2.1
theorem dX9_rests_123 : decode cX9_rests 123 = .ok (.iload 8, 2) := dX9_rests_k75.2.2.1
theorem dX9_rests_125 : decode cX9_rests 125 = .ok (.invokestatic 98, 3) := dX9_rests_k75.2.2.2.1
theorem dX9_rests_128 : decode cX9_rests 128 = .ok (.ifCond .eq 29, 3) := dX9_rests_k75.2.2.2.2.1
theorem dX9_rests_131 : decode cX9_rests 131 = .ok (.iload 7, 2) := dX9_rests_k75.2.2.2.2.2
set_option maxRecDepth 100000 in
theorem dX9_rests_k76 : (decode cX9_rests 133 = .ok (.aload_n 0, 1)) ∧ (decode cX9_rests 134 = .ok (.getfield 7, 3)) ∧ (decode cX9_rests 137 = .ok (.idiv, 1)) ∧ (decode cX9_rests 138 = .ok (.istore 7, 2)) ∧ (decode cX9_rests 140 = .ok (.aload_n 0, 1)) ∧ (decode cX9_rests 141 = .ok (.getfield 47, 3)) := by decide +kernel
theorem dX9_rests_133 : decode cX9_rests 133 = .ok (.aload_n 0, 1) := dX9_rests_k76.1
theorem dX9_rests_134 : decode cX9_rests 134 = .ok (.getfield 7, 3) := dX9_rests_k76.2.1
theorem dX9_rests_137 : decode cX9_rests 137 = .ok (.idiv, 1) := dX9_rests_k76.2.2.1
theorem dX9_rests_138 : decode cX9_rests 138 = .ok (.istore 7, 2) := dX9_rests_k76.2.2.2.1
theorem dX9_rests_140 : decode cX9_rests 140 = .ok (.aload_n 0, 1) := dX9_rests_k76.2.2.2.2.1
theorem dX9_rests_141 : decode cX9_rests 141 = .ok (.getfield 47, 3) := dX9_rests_k76.2.2.2.2.2
set_option maxRecDepth 100000 in
theorem dX9_rests_k77 : (decode cX9_rests 144 = .ok (.iload 8, 2)) ∧ (decode cX9_rests 146 = .ok (.iload 6, 2)) ∧ (decode cX9_rests 148 = .ok (.iload 7, 2)) ∧ (decode cX9_rests 150 = .ok (.idiv, 1)) ∧ (decode cX9_rests 151 = .ok (.aload_n 0, 1)) ∧ (decode cX9_rests 152 = .ok (.getfield 7, 3)) := by decide +kernel
theorem dX9_rests_144 : decode cX9_rests 144 = .ok (.iload 8, 2) := dX9_rests_k77.1
theorem dX9_rests_146 : decode cX9_rests 146 = .ok (.iload 6, 2) := dX9_rests_k77.2.1
theorem dX9_rests_148 : decode cX9_rests 148 = .ok (.iload 7, 2) := dX9_rests_k77.2.2.1
theorem dX9_rests_150 : decode cX9_rests 150 = .ok (.idiv, 1) := dX9_rests_k77.2.2.2.1
theorem dX9_rests_151 : decode cX9_rests 151 = .ok (.aload_n 0, 1) := dX9_rests_k77.2.2.2.2.1
theorem dX9_rests_152 : decode cX9_rests 152 = .ok (.getfield 7, 3) := dX9_rests_k77.2.2.2.2.2
set_option maxRecDepth 100000 in
theorem dX9_rests_k78 : (decode cX9_rests 155 = .ok (.irem, 1)) ∧ (decode cX9_rests 156 = .ok (.iastore, 1)) ∧ (decode cX9_rests 157 = .ok (.iinc 8 1, 3)) ∧ (decode cX9_rests 160 = .ok (.goto (-45), 3)) ∧ (decode cX9_rests 163 = .ok (.aload_n 0, 1)) ∧ (decode cX9_rests 164 = .ok (.iload_n 1, 1)) := by decide +kernel
theorem dX9_rests_155 : decode cX9_rests 155 = .ok (.irem, 1) := dX9_rests_k78.1
theorem dX9_rests_156 : decode cX9_rests 156 = .ok (.iastore, 1) := dX9_rests_k78.2.1
theorem dX9_rests_157 : decode cX9_rests 157 = .ok (.iinc 8 1, 3) := dX9_rests_k78.2.2.1
theorem dX9_rests_160 : decode cX9_rests 160 = .ok (.goto (-45), 3) := dX9_rests_k78.2.2.2.1
theorem dX9_rests_163 : decode cX9_rests 163 = .ok (.aload_n 0, 1) := dX9_rests_k78.2.2.2.2.1
theorem dX9_rests_164 : decode cX9_rests 164 = .ok (.iload_n 1, 1) := dX9_rests_k78.2.2.2.2.2
set_option maxRecDepth 100000 in
theorem dX9_rests_k79 : (decode cX9_rests 165 = .ok (.invokevirtual 218, 3)) ∧ (decode cX9_rests 168 = .ok (.ifCond .eq 28, 3)) ∧ (decode cX9_rests 171 = .ok (.iload 4, 2)) ∧ (decode cX9_rests 173 = .ok (.ifCond .ne 16, 3)) ∧ (decode cX9_rests 176 = .ok (.iload_n 2, 1)) ∧ (decode cX9_rests 177 = .ok (.ifCond .lt 12, 3)) := by decide +kernel
theorem dX9_rests_165 : decode cX9_rests 165 = .ok (.invokevirtual 218, 3) := dX9_rests_k79.1
theorem dX9_rests_168 : decode cX9_rests 168 = .ok (.ifCond .eq 28, 3) := dX9_rests_k79.2.1
theorem dX9_rests_171 : decode cX9_rests 171 = .ok (.iload 4, 2) := dX9_rests_k79.2.2.1
theorem dX9_rests_173 : decode cX9_rests 173 = .ok (.ifCond .ne 16, 3) := dX9_rests_k79.2.2.2.1
theorem dX9_rests_176 : decode cX9_rests 176 = .ok (.iload_n 2, 1) := dX9_rests_k79.2.2.2.2.1
theorem dX9_rests_177 : decode cX9_rests 177 = .ok (.ifCond .lt 12, 3) := dX9_rests_k79.2.2.2.2.2
set_option maxRecDepth 100000 in
theorem dX9_rests_k80 : (decode cX9_rests 180 = .ok (.aload_n 0, 1)) ∧ (decode cX9_rests 181 = .ok (.getfield 47, 3)) ∧ (decode cX9_rests 184 = .ok (.iload_n 2, 1)) ∧ (decode cX9_rests 185 = .ok (.iaload, 1)) ∧ (decode cX9_rests 186 = .ok (.goto 5, 3)) ∧ (decode cX9_rests 189 = .ok (.iload 5, 2)) := by decide +kernel
theorem dX9_rests_180 : decode cX9_rests 180 = .ok (.aload_n 0, 1) := dX9_rests_k80.1
theorem dX9_rests_181 : decode cX9_rests 181 = .ok (.getfield 47, 3) := dX9_rests_k80.2.1
theorem dX9_rests_184 : decode cX9_rests 184 = .ok (.iload_n 2, 1) := dX9_rests_k80.2.2.1
theorem dX9_rests_185 : decode cX9_rests 185 = .ok (.iaload, 1) := dX9_rests_k80.2.2.2.1
theorem dX9_rests_186 : decode cX9_rests 186 = .ok (.goto 5, 3) := dX9_rests_k80.2.2.2.2.1
theorem dX9_rests_189 : decode cX9_rests 189 = .ok (.iload 5, 2) := dX9_rests_k80.2.2.2.2.2
set_option maxRecDepth 100000 in
theorem dX9_rests_k81 : (decode cX9_rests 191 = .ok (.istore 5, 2)) ∧ (decode cX9_rests 193 = .ok (.iinc 4 1, 3)) ∧ (decode cX9_rests 196 = .ok (.iinc 6 1, 3)) ∧ (decode cX9_rests 199 = .ok (.goto (-100), 3)) ∧ (decode cX9_rests 202 = .ok (.iload_n 2, 1)) ∧ (decode cX9_rests 203 = .ok (.ifCond .ge 8, 3)) := by decide +kernel
theorem dX9_rests_191 : decode cX9_rests 191 = .ok (.istore 5, 2) := dX9_rests_k81.1
theorem dX9_rests_193 : decode cX9_rests 193 = .ok (.iinc 4 1, 3) := dX9_rests_k81.2.1
theorem dX9_rests_196 : decode cX9_rests 196 = .ok (.iinc 6 1, 3) := dX9_rests_k81.2.2.1
theorem dX9_rests_199 : decode cX9_rests 199 = .ok (.goto (-100), 3) := dX9_rests_k81.2.2.2.1
theorem dX9_rests_202 : decode cX9_rests 202 = .ok (.iload_n 2, 1) := dX9_rests_k81.2.2.2.2.1
theorem dX9_rests_203 : decode cX9_rests 203 = .ok (.ifCond .ge 8, 3) := dX9_rests_k81.2.2.2.2.2
set_option maxRecDepth 100000 in
theorem dX9_rests_k82 : (decode cX9_rests 206 = .ok (.iload 4, 2)) ∧ (decode cX9_rests 208 = .ok (.goto 5, 3)) ∧ (decode cX9_rests 211 = .ok (.iload 5, 2)) ∧ (decode cX9_rests 213 = .ok (.ireturn, 1)) := by decide +kernel
theorem dX9_rests_206 : decode cX9_rests 206 = .ok (.iload 4, 2) := dX9_rests_k82.1
theorem dX9_rests_208 : decode cX9_rests 208 = .ok (.goto 5, 3) := dX9_rests_k82.2.1
theorem dX9_rests_211 : decode cX9_rests 211 = .ok (.iload 5, 2) := dX9_rests_k82.2.2.1
theorem dX9_rests_213 : decode cX9_rests 213 = .ok (.ireturn, 1) := dX9_rests_k82.2.2.2
set_option maxRecDepth 100000 in
theorem dX9_led_k83 : (decode cX9_led 0 = .ok (.aload_n 0, 1)) ∧ (decode cX9_led 1 = .ok (.iload_n 1, 1)) ∧ (decode cX9_led 2 = .ok (.invokevirtual 102, 3)) ∧ (decode cX9_led 5 = .ok (.ifCond .ne 5, 3)) ∧ (decode cX9_led 8 = .ok (.iconst (-1), 1)) ∧ (decode cX9_led 9 = .ok (.ireturn, 1)) := by decide +kernel
theorem dX9_led_0 : decode cX9_led 0 = .ok (.aload_n 0, 1) := dX9_led_k83.1
theorem dX9_led_1 : decode cX9_led 1 = .ok (.iload_n 1, 1) := dX9_led_k83.2.1
theorem dX9_led_2 : decode cX9_led 2 = .ok (.invokevirtual 102, 3) := dX9_led_k83.2.2.1
theorem dX9_led_5 : decode cX9_led 5 = .ok (.ifCond .ne 5, 3) := dX9_led_k83.2.2.2.1
theorem dX9_led_8 : decode cX9_led 8 = .ok (.iconst (-1), 1) := dX9_led_k83.2.2.2.2.1
theorem dX9_led_9 : decode cX9_led 9 = .ok (.ireturn, 1) := dX9_led_k83.2.2.2.2.2
set_option maxRecDepth 100000 in
theorem dX9_led_k84 : (decode cX9_led 10 = .ok (.iload_n 2, 1)) ∧ (decode cX9_led 11 = .ok (.iconst 1, 1)) ∧ (decode cX9_led 12 = .ok (.bipush 8, 2)) ∧ (decode cX9_led 14 = .ok (.invokestatic 94, 3)) ∧ (decode cX9_led 17 = .ok (.ifCond .eq 23, 3)) ∧ (decode cX9_led 20 = .ok (.iload_n 3, 1)) := by decide +kernel
theorem dX9_led_10 : decode cX9_led 10 = .ok (.iload_n 2, 1) := dX9_led_k84.1
theorem dX9_led_11 : decode cX9_led 11 = .ok (.iconst 1, 1) := dX9_led_k84.2.1
theorem dX9_led_12 : decode cX9_led 12 = .ok (.bipush 8, 2) := dX9_led_k84.2.2.1
theorem dX9_led_14 : decode cX9_led 14 = .ok (.invokestatic 94, 3) := dX9_led_k84.2.2.2.1
theorem dX9_led_17 : decode cX9_led 17 = .ok (.ifCond .eq 23, 3) := dX9_led_k84.2.2.2.2.1
theorem dX9_led_20 : decode cX9_led 20 = .ok (.iload_n 3, 1) := dX9_led_k84.2.2.2.2.2
set_option maxRecDepth 100000 in
theorem dX9_led_k85 : (decode cX9_led 21 = .ok (.iconst 0, 1)) ∧ (decode cX9_led 22 = .ok (.bipush 20, 2)) ∧ (decode cX9_led 24 = .ok (.invokestatic 94, 3)) ∧ (decode cX9_led 27 = .ok (.ifCond .eq 13, 3)) ∧ (decode cX9_led 30 = .ok (.iload 4, 2)) ∧ (decode cX9_led 32 = .ok (.iconst 0, 1)) := by decide +kernel
theorem dX9_led_21 : decode cX9_led 21 = .ok (.iconst 0, 1) := dX9_led_k85.1
theorem dX9_led_22 : decode cX9_led 22 = .ok (.bipush 20, 2) := dX9_led_k85.2.1
theorem dX9_led_24 : decode cX9_led 24 = .ok (.invokestatic 94, 3) := dX9_led_k85.2.2.1
theorem dX9_led_27 : decode cX9_led 27 = .ok (.ifCond .eq 13, 3) := dX9_led_k85.2.2.2.1
theorem dX9_led_30 : decode cX9_led 30 = .ok (.iload 4, 2) := dX9_led_k85.2.2.2.2.1
theorem dX9_led_32 : decode cX9_led 32 = .ok (.iconst 0, 1) := dX9_led_k85.2.2.2.2.2
set_option maxRecDepth 100000 in
theorem dX9_led_k86 : (decode cX9_led 33 = .ok (.iconst 1, 1)) ∧ (decode cX9_led 34 = .ok (.invokestatic 94, 3)) ∧ (decode cX9_led 37 = .ok (.ifCond .ne 6, 3)) ∧ (decode cX9_led 40 = .ok (.bipush (-2), 2)) ∧ (decode cX9_led 42 = .ok (.ireturn, 1)) ∧ (decode cX9_led 43 = .ok (.bipush (-6), 2)) := by decide +kernel
theorem dX9_led_33 : decode cX9_led 33 = .ok (.iconst 1, 1) := dX9_led_k86.1
theorem dX9_led_34 : decode cX9_led 34 = .ok (.invokestatic 94, 3) := dX9_led_k86.2.1
theorem dX9_led_37 : decode cX9_led 37 = .ok (.ifCond .ne 6, 3) := dX9_led_k86.2.2.1
theorem dX9_led_40 : decode cX9_led 40 = .ok (.bipush (-2), 2) := dX9_led_k86.2.2.2.1
theorem dX9_led_42 : decode cX9_led 42 = .ok (.ireturn, 1) := dX9_led_k86.2.2.2.2.1
theorem dX9_led_43 : decode cX9_led 43 = .ok (.bipush (-6), 2) := dX9_led_k86.2.2.2.2.2
set_option maxRecDepth 100000 in
theorem dX9_led_k87 : (decode cX9_led 45 = .ok (.istore 5, 2)) ∧ (decode cX9_led 47 = .ok (.iconst 0, 1)) ∧ (decode cX9_led 48 = .ok (.istore 6, 2)) ∧ (decode cX9_led 50 = .ok (.iload 6, 2)) ∧ (decode cX9_led 52 = .ok (.sipush 256, 3)) ∧ (decode cX9_led 55 = .ok (.if_icmp .ge 218, 3)) := by decide +kernel
theorem dX9_led_45 : decode cX9_led 45 = .ok (.istore 5, 2) := dX9_led_k87.1
theorem dX9_led_47 : decode cX9_led 47 = .ok (.iconst 0, 1) := dX9_led_k87.2.1
theorem dX9_led_48 : decode cX9_led 48 = .ok (.istore 6, 2) := dX9_led_k87.2.2.1
theorem dX9_led_50 : decode cX9_led 50 = .ok (.iload 6, 2) := dX9_led_k87.2.2.2.1
theorem dX9_led_52 : decode cX9_led 52 = .ok (.sipush 256, 3) := dX9_led_k87.2.2.2.2.1
theorem dX9_led_55 : decode cX9_led 55 = .ok (.if_icmp .ge 218, 3) := dX9_led_k87.2.2.2.2.2
set_option maxRecDepth 100000 in
theorem dX9_led_k88 : (decode cX9_led 58 = .ok (.iload 6, 2)) ∧ (decode cX9_led 60 = .ok (.aload_n 0, 1)) ∧ (decode cX9_led 61 = .ok (.getfield 88, 3)) ∧ (decode cX9_led 64 = .ok (.iconst (-1), 1)) ∧ (decode cX9_led 65 = .ok (.ixor, 1)) ∧ (decode cX9_led 66 = .ok (.iand, 1)) := by decide +kernel
theorem dX9_led_58 : decode cX9_led 58 = .ok (.iload 6, 2) := dX9_led_k88.1
theorem dX9_led_60 : decode cX9_led 60 = .ok (.aload_n 0, 1) := dX9_led_k88.2.1
theorem dX9_led_61 : decode cX9_led 61 = .ok (.getfield 88, 3) := dX9_led_k88.2.2.1
theorem dX9_led_64 : decode cX9_led 64 = .ok (.iconst (-1), 1) := dX9_led_k88.2.2.2.1
theorem dX9_led_65 : decode cX9_led 65 = .ok (.ixor, 1) := dX9_led_k88.2.2.2.2.1
theorem dX9_led_66 : decode cX9_led 66 = .ok (.iand, 1) := dX9_led_k88.2.2.2.2.2
set_option maxRecDepth 100000 in
theorem dX9_led_k89 : (decode cX9_led 67 = .ok (.ifCond .ne 25, 3)) ∧ (decode cX9_led 70 = .ok (.iload 5, 2)) ∧ (decode cX9_led 72 = .ok (.ifCond .lt 16, 3)) ∧ (decode cX9_led 75 = .ok (.iload 6, 2)) ∧ (decode cX9_led 77 = .ok (.invokestatic 117, 3)) ∧ (decode cX9_led 80 = .ok (.iload 5, 2)) := by decide +kernel
theorem dX9_led_67 : decode cX9_led 67 = .ok (.ifCond .ne 25, 3) := dX9_led_k89.1
theorem dX9_led_70 : decode cX9_led 70 = .ok (.iload 5, 2) := dX9_led_k89.2.1
theorem dX9_led_72 : decode cX9_led 72 = .ok (.ifCond .lt 16, 3) := dX9_led_k89.2.2.1
theorem dX9_led_75 : decode cX9_led 75 = .ok (.iload 6, 2) := dX9_led_k89.2.2.2.1
theorem dX9_led_77 : decode cX9_led 77 = .ok (.invokestatic 117, 3) := dX9_led_k89.2.2.2.2.1
theorem dX9_led_80 : decode cX9_led 80 = .ok (.iload 5, 2) := dX9_led_k89.2.2.2.2.2
set_option maxRecDepth 100000 in
theorem dX9_led_k90 : (decode cX9_led 82 = .ok (.invokestatic 117, 3)) ∧ (decode cX9_led 85 = .ok (.if_icmp .ge 7, 3)) ∧ (decode cX9_led 88 = .ok (.iconst 1, 1)) ∧ (decode cX9_led 89 = .ok (.goto 4, 3)) ∧ (decode cX9_led 92 = .ok (.iconst 0, 1)) ∧ (decode cX9_led 93 = .ok (.istore 7, 2)) := by decide +kernel
theorem dX9_led_82 : decode cX9_led 82 = .ok (.invokestatic 117, 3) := dX9_led_k90.1
theorem dX9_led_85 : decode cX9_led 85 = .ok (.if_icmp .ge 7, 3) := dX9_led_k90.2.1
theorem dX9_led_88 : decode cX9_led 88 = .ok (.iconst 1, 1) := dX9_led_k90.2.2.1
theorem dX9_led_89 : decode cX9_led 89 = .ok (.goto 4, 3) := dX9_led_k90.2.2.2.1
theorem dX9_led_92 : decode cX9_led 92 = .ok (.iconst 0, 1) := dX9_led_k90.2.2.2.2.1
theorem dX9_led_93 : decode cX9_led 93 = .ok (.istore 7, 2) := dX9_led_k90.2.2.2.2.2
set_option maxRecDepth 100000 in
theorem dX9_led_k91 : (decode cX9_led 95 = .ok (.aload_n 0, 1)) ∧ (decode cX9_led 96 = .ok (.invokevirtual 157, 3)) ∧ (decode cX9_led 99 = .ok (.iconst 0, 1)) ∧ (decode cX9_led 100 = .ok (.istore 8, 2)) ∧ (decode cX9_led 102 = .ok (.iload 8, 2)) ∧ (decode cX9_led 104 = .ok (.bipush 8, 2)) := by decide +kernel
theorem dX9_led_95 : decode cX9_led 95 = .ok (.aload_n 0, 1) := dX9_led_k91.1
theorem dX9_led_96 : decode cX9_led 96 = .ok (.invokevirtual 157, 3) := dX9_led_k91.2.1
theorem dX9_led_99 : decode cX9_led 99 = .ok (.iconst 0, 1) := dX9_led_k91.2.2.1
theorem dX9_led_100 : decode cX9_led 100 = .ok (.istore 8, 2) := dX9_led_k91.2.2.2.1
theorem dX9_led_102 : decode cX9_led 102 = .ok (.iload 8, 2) := dX9_led_k91.2.2.2.2.1
theorem dX9_led_104 : decode cX9_led 104 = .ok (.bipush 8, 2) := dX9_led_k91.2.2.2.2.2
set_option maxRecDepth 100000 in
theorem dX9_led_k92 : (decode cX9_led 106 = .ok (.if_icmp .ge 97, 3)) ∧ (decode cX9_led 109 = .ok (.iload 7, 2)) ∧ (decode cX9_led 111 = .ok (.ifCond .eq 92, 3)) ∧ (decode cX9_led 114 = .ok (.iload 6, 2)) ∧ (decode cX9_led 116 = .ok (.iload 8, 2)) ∧ (decode cX9_led 118 = .ok (.invokestatic 98, 3)) := by decide +kernel
theorem dX9_led_106 : decode cX9_led 106 = .ok (.if_icmp .ge 97, 3) := dX9_led_k92.1
theorem dX9_led_109 : decode cX9_led 109 = .ok (.iload 7, 2) := dX9_led_k92.2.1
theorem dX9_led_111 : decode cX9_led 111 = .ok (.ifCond .eq 92, 3) := dX9_led_k92.2.2.1
theorem dX9_led_114 : decode cX9_led 114 = .ok (.iload 6, 2) := dX9_led_k92.2.2.2.1
theorem dX9_led_116 : decode cX9_led 116 = .ok (.iload 8, 2) := dX9_led_k92.2.2.2.2.1
theorem dX9_led_118 : decode cX9_led 118 = .ok (.invokestatic 98, 3) := dX9_led_k92.2.2.2.2.2
set_option maxRecDepth 100000 in
theorem dX9_led_k93 : (decode cX9_led 121 = .ok (.ifCond .eq 13, 3)) ∧ (decode cX9_led 124 = .ok (.aload_n 0, 1)) ∧ (decode cX9_led 125 = .ok (.getfield 50, 3)) ∧ (decode cX9_led 128 = .ok (.iload 8, 2)) ∧ (decode cX9_led 130 = .ok (.iaload, 1)) ∧ (decode cX9_led 131 = .ok (.ifCond .ne 7, 3)) := by decide +kernel
theorem dX9_led_121 : decode cX9_led 121 = .ok (.ifCond .eq 13, 3) := dX9_led_k93.1
theorem dX9_led_124 : decode cX9_led 124 = .ok (.aload_n 0, 1) := dX9_led_k93.2.1
theorem dX9_led_125 : decode cX9_led 125 = .ok (.getfield 50, 3) := dX9_led_k93.2.2.1
theorem dX9_led_128 : decode cX9_led 128 = .ok (.iload 8, 2) := dX9_led_k93.2.2.2.1
theorem dX9_led_130 : decode cX9_led 130 = .ok (.iaload, 1) := dX9_led_k93.2.2.2.2.1
theorem dX9_led_131 : decode cX9_led 131 = .ok (.ifCond .ne 7, 3) := dX9_led_k93.2.2.2.2.2
set_option maxRecDepth 100000 in
theorem dX9_led_k94 : (decode cX9_led 134 = .ok (.iconst 1, 1)) ∧ (decode cX9_led 135 = .ok (.goto 4, 3)) ∧ (decode cX9_led 138 = .ok (.iconst 0, 1)) ∧ (decode cX9_led 139 = .ok (.istore 7, 2)) ∧ (decode cX9_led 141 = .ok (.aload_n 0, 1)) ∧ (decode cX9_led 142 = .ok (.getfield 47, 3)) := by decide +kernel
theorem dX9_led_134 : decode cX9_led 134 = .ok (.iconst 1, 1) := dX9_led_k94.1
theorem dX9_led_135 : decode cX9_led 135 = .ok (.goto 4, 3) := dX9_led_k94.2.1
theorem dX9_led_138 : decode cX9_led 138 = .ok (.iconst 0, 1) := dX9_led_k94.2.2.1
theorem dX9_led_139 : decode cX9_led 139 = .ok (.istore 7, 2) := dX9_led_k94.2.2.2.1
theorem dX9_led_141 : decode cX9_led 141 = .ok (.aload_n 0, 1) := dX9_led_k94.2.2.2.2.1
theorem dX9_led_142 : decode cX9_led 142 = .ok (.getfield 47, 3) := dX9_led_k94.2.2.2.2.2
set_option maxRecDepth 100000 in
theorem dX9_led_k95 : (decode cX9_led 145 = .ok (.iload 8, 2)) ∧ (decode cX9_led 147 = .ok (.iload 6, 2)) ∧ (decode cX9_led 149 = .ok (.iload 8, 2)) ∧ (decode cX9_led 151 = .ok (.invokestatic 98, 3)) ∧ (decode cX9_led 154 = .ok (.ifCond .eq 7, 3)) ∧ (decode cX9_led 157 = .ok (.iload_n 1, 1)) := by decide +kernel
theorem dX9_led_145 : decode cX9_led 145 = .ok (.iload 8, 2) := dX9_led_k95.1
theorem dX9_led_147 : decode cX9_led 147 = .ok (.iload 6, 2) := dX9_led_k95.2.1
theorem dX9_led_149 : decode cX9_led 149 = .ok (.iload 8, 2) := dX9_led_k95.2.2.1
theorem dX9_led_151 : decode cX9_led 151 = .ok (.invokestatic 98, 3) := dX9_led_k95.2.2.2.1
theorem dX9_led_154 : decode cX9_led 154 = .ok (.ifCond .eq 7, 3) := dX9_led_k95.2.2.2.2.1
theorem dX9_led_157 : decode cX9_led 157 = .ok (.iload_n 1, 1) := dX9_led_k95.2.2.2.2.2
set_option maxRecDepth 100000 in
theorem dX9_led_k96 : (decode cX9_led 158 = .ok (.goto 10, 3)) ∧ (decode cX9_led 161 = .ok (.aload_n 0, 1)) ∧ (decode cX9_led 162 = .ok (.getfield 47, 3)) ∧ (decode cX9_led 165 = .ok (.iload 8, 2)) ∧ (decode cX9_led 167 = .ok (.iaload, 1)) ∧ (decode cX9_led 168 = .ok (.iastore, 1)) := by decide +kernel
theorem dX9_led_158 : decode cX9_led 158 = .ok (.goto 10, 3) := dX9_led_k96.1
theorem dX9_led_161 : decode cX9_led 161 = .ok (.aload_n 0, 1) := dX9_led_k96.2.1
theorem dX9_led_162 : decode cX9_led 162 = .ok (.getfield 47, 3) := dX9_led_k96.2.2.1
theorem dX9_led_165 : decode cX9_led 165 = .ok (.iload 8, 2) := dX9_led_k96.2.2.2.1
theorem dX9_led_167 : decode cX9_led 167 = .ok (.iaload, 1) := dX9_led_k96.2.2.2.2.1
theorem dX9_led_168 : decode cX9_led 168 = .ok (.iastore, 1) := dX9_led_k96.2.2.2.2.2
set_option maxRecDepth 100000 in
theorem dX9_led_k97 : (decode cX9_led 169 = .ok (.aload_n 0, 1)) ∧ (decode cX9_led 170 = .ok (.getfield 50, 3)) ∧ (decode cX9_led 173 = .ok (.iload 8, 2)) ∧ (decode cX9_led 175 = .ok (.iload 6, 2)) ∧ (decode cX9_led 177 = .ok (.iload 8, 2)) ∧ (decode cX9_led 179 = .ok (.invokestatic 98, 3)) := by decide +kernel
theorem dX9_led_169 : decode cX9_led 169 = .ok (.aload_n 0, 1) := dX9_led_k97.1
theorem dX9_led_170 : decode cX9_led 170 = .ok (.getfield 50, 3) := dX9_led_k97.2.1
theorem dX9_led_173 : decode cX9_led 173 = .ok (.iload 8, 2) := dX9_led_k97.2.2.1
theorem dX9_led_175 : decode cX9_led 175 = .ok (.iload 6, 2) := dX9_led_k97.2.2.2.1
theorem dX9_led_177 : decode cX9_led 177 = .ok (.iload 8, 2) := dX9_led_k97.2.2.2.2.1
theorem dX9_led_179 : decode cX9_led 179 = .ok (.invokestatic 98, 3) := dX9_led_k97.2.2.2.2.2
set_option maxRecDepth 100000 in
theorem dX9_led_k98 : (decode cX9_led 182 = .ok (.ifCond .eq 7, 3)) ∧ (decode cX9_led 185 = .ok (.iconst 2, 1)) ∧ (decode cX9_led 186 = .ok (.goto 10, 3)) ∧ (decode cX9_led 189 = .ok (.aload_n 0, 1)) ∧ (decode cX9_led 190 = .ok (.getfield 50, 3)) ∧ (decode cX9_led 193 = .ok (.iload 8, 2)) := by decide +kernel
theorem dX9_led_182 : decode cX9_led 182 = .ok (.ifCond .eq 7, 3) := dX9_led_k98.1
theorem dX9_led_185 : decode cX9_led 185 = .ok (.iconst 2, 1) := dX9_led_k98.2.1
theorem dX9_led_186 : decode cX9_led 186 = .ok (.goto 10, 3) := dX9_led_k98.2.2.1
theorem dX9_led_189 : decode cX9_led 189 = .ok (.aload_n 0, 1) := dX9_led_k98.2.2.2.1
theorem dX9_led_190 : decode cX9_led 190 = .ok (.getfield 50, 3) := dX9_led_k98.2.2.2.2.1
theorem dX9_led_193 : decode cX9_led 193 = .ok (.iload 8, 2) := dX9_led_k98.2.2.2.2.2
set_option maxRecDepth 100000 in
theorem dX9_led_k99 : (decode cX9_led 195 = .ok (.iaload, 1)) ∧ (decode cX9_led 196 = .ok (.iastore, 1)) ∧ (decode cX9_led 197 = .ok (.iinc 8 1, 3)) ∧ (decode cX9_led 200 = .ok (.goto (-98), 3)) ∧ (decode cX9_led 203 = .ok (.iload 7, 2)) ∧ (decode cX9_led 205 = .ok (.ifCond .eq 28, 3)) := by decide +kernel
theorem dX9_led_195 : decode cX9_led 195 = .ok (.iaload, 1) := dX9_led_k99.1
theorem dX9_led_196 : decode cX9_led 196 = .ok (.iastore, 1) := dX9_led_k99.2.1
theorem dX9_led_197 : decode cX9_led 197 = .ok (.iinc 8 1, 3) := dX9_led_k99.2.2.1
theorem dX9_led_200 : decode cX9_led 200 = .ok (.goto (-98), 3) := dX9_led_k99.2.2.2.1
theorem dX9_led_203 : decode cX9_led 203 = .ok (.iload 7, 2) := dX9_led_k99.2.2.2.2.1
theorem dX9_led_205 : decode cX9_led 205 = .ok (.ifCond .eq 28, 3) := dX9_led_k99.2.2.2.2.2
set_option maxRecDepth 100000 in
theorem dX9_led_k100 : (decode cX9_led 208 = .ok (.iload 6, 2)) ∧ (decode cX9_led 210 = .ok (.ifCond .eq 19, 3)) ∧ (decode cX9_led 213 = .ok (.aload_n 0, 1)) ∧ (decode cX9_led 214 = .ok (.iload_n 1, 1)) ∧ (decode cX9_led 215 = .ok (.bipush (-6), 2)) ∧ (decode cX9_led 217 = .ok (.invokevirtual 134, 3)) := by decide +kernel
theorem dX9_led_208 : decode cX9_led 208 = .ok (.iload 6, 2) := dX9_led_k100.1
theorem dX9_led_210 : decode cX9_led 210 = .ok (.ifCond .eq 19, 3) := dX9_led_k100.2.1
theorem dX9_led_213 : decode cX9_led 213 = .ok (.aload_n 0, 1) := dX9_led_k100.2.2.1
theorem dX9_led_214 : decode cX9_led 214 = .ok (.iload_n 1, 1) := dX9_led_k100.2.2.2.1
theorem dX9_led_215 : decode cX9_led 215 = .ok (.bipush (-6), 2) := dX9_led_k100.2.2.2.2.1
theorem dX9_led_217 : decode cX9_led 217 = .ok (.invokevirtual 134, 3) := dX9_led_k100.2.2.2.2.2
set_option maxRecDepth 100000 in
theorem dX9_led_k101 : (decode cX9_led 220 = .ok (.aload_n 0, 1)) ∧ (decode cX9_led 221 = .ok (.getfield 17, 3)) ∧ (decode cX9_led 224 = .ok (.iload_n 1, 1)) ∧ (decode cX9_led 225 = .ok (.iaload, 1)) ∧ (decode cX9_led 226 = .ok (.if_icmp .gt 7, 3)) ∧ (decode cX9_led 229 = .ok (.iconst 1, 1)) := by decide +kernel
theorem dX9_led_220 : decode cX9_led 220 = .ok (.aload_n 0, 1) := dX9_led_k101.1
theorem dX9_led_221 : decode cX9_led 221 = .ok (.getfield 17, 3) := dX9_led_k101.2.1
theorem dX9_led_224 : decode cX9_led 224 = .ok (.iload_n 1, 1) := dX9_led_k101.2.2.1
theorem dX9_led_225 : decode cX9_led 225 = .ok (.iaload, 1) := dX9_led_k101.2.2.2.1
theorem dX9_led_226 : decode cX9_led 226 = .ok (.if_icmp .gt 7, 3) := dX9_led_k101.2.2.2.2.1
theorem dX9_led_229 : decode cX9_led 229 = .ok (.iconst 1, 1) := dX9_led_k101.2.2.2.2.2
set_option maxRecDepth 100000 in
theorem dX9_led_k102 : (decode cX9_led 230 = .ok (.goto 4, 3)) ∧ (decode cX9_led 233 = .ok (.iconst 0, 1)) ∧ (decode cX9_led 234 = .ok (.istore 7, 2)) ∧ (decode cX9_led 236 = .ok (.iload 7, 2)) ∧ (decode cX9_led 238 = .ok (.ifCond .eq 29, 3)) ∧ (decode cX9_led 241 = .ok (.aload_n 0, 1)) := by decide +kernel
theorem dX9_led_230 : decode cX9_led 230 = .ok (.goto 4, 3) := dX9_led_k102.1
theorem dX9_led_233 : decode cX9_led 233 = .ok (.iconst 0, 1) := dX9_led_k102.2.1
theorem dX9_led_234 : decode cX9_led 234 = .ok (.istore 7, 2) := dX9_led_k102.2.2.1
theorem dX9_led_236 : decode cX9_led 236 = .ok (.iload 7, 2) := dX9_led_k102.2.2.2.1
theorem dX9_led_238 : decode cX9_led 238 = .ok (.ifCond .eq 29, 3) := dX9_led_k102.2.2.2.2.1
theorem dX9_led_241 : decode cX9_led 241 = .ok (.aload_n 0, 1) := dX9_led_k102.2.2.2.2.2
set_option maxRecDepth 100000 in
theorem dX9_led_k103 : (decode cX9_led 242 = .ok (.iload_n 3, 1)) ∧ (decode cX9_led 243 = .ok (.invokevirtual 198, 3)) ∧ (decode cX9_led 246 = .ok (.aload_n 0, 1)) ∧ (decode cX9_led 247 = .ok (.iload_n 1, 1)) ∧ (decode cX9_led 248 = .ok (.invokevirtual 201, 3)) ∧ (decode cX9_led 251 = .ok (.invokestatic 117, 3)) := by decide +kernel
theorem dX9_led_242 : decode cX9_led 242 = .ok (.iload_n 3, 1) := dX9_led_k103.1
theorem dX9_led_243 : decode cX9_led 243 = .ok (.invokevirtual 198, 3) := dX9_led_k103.2.1
theorem dX9_led_246 : decode cX9_led 246 = .ok (.aload_n 0, 1) := dX9_led_k103.2.2.1
theorem dX9_led_247 : decode cX9_led 247 = .ok (.iload_n 1, 1) := dX9_led_k103.2.2.2.1
theorem dX9_led_248 : decode cX9_led 248 = .ok (.invokevirtual 201, 3) := dX9_led_k103.2.2.2.2.1
theorem dX9_led_251 : decode cX9_led 251 = .ok (.invokestatic 117, 3) := dX9_led_k103.2.2.2.2.2
set_option maxRecDepth 100000 in
theorem dX9_led_k104 : (decode cX9_led 254 = .ok (.iload_n 2, 1)) ∧ (decode cX9_led 255 = .ok (.if_icmp .lt 8, 3)) ∧ (decode cX9_led 258 = .ok (.iload 6, 2)) ∧ (decode cX9_led 260 = .ok (.goto 5, 3)) ∧ (decode cX9_led 263 = .ok (.iload 5, 2)) ∧ (decode cX9_led 265 = .ok (.istore 5, 2)) := by decide +kernel
theorem dX9_led_254 : decode cX9_led 254 = .ok (.iload_n 2, 1) := dX9_led_k104.1
theorem dX9_led_255 : decode cX9_led 255 = .ok (.if_icmp .lt 8, 3) := dX9_led_k104.2.1
theorem dX9_led_258 : decode cX9_led 258 = .ok (.iload 6, 2) := dX9_led_k104.2.2.1
theorem dX9_led_260 : decode cX9_led 260 = .ok (.goto 5, 3) := dX9_led_k104.2.2.2.1
theorem dX9_led_263 : decode cX9_led 263 = .ok (.iload 5, 2) := dX9_led_k104.2.2.2.2.1
theorem dX9_led_265 : decode cX9_led 265 = .ok (.istore 5, 2) := dX9_led_k104.2.2.2.2.2
set_option maxRecDepth 100000 in
theorem dX9_led_k105 : (decode cX9_led 267 = .ok (.iinc 6 1, 3)) ∧ (decode cX9_led 270 = .ok (.goto (-220), 3)) ∧ (decode cX9_led 273 = .ok (.iload 5, 2)) ∧ (decode cX9_led 275 = .ok (.ifCond .lt 9, 3)) ∧ (decode cX9_led 278 = .ok (.iload 4, 2)) ∧ (decode cX9_led 280 = .ok (.iconst 1, 1)) := by decide +kernel
theorem dX9_led_267 : decode cX9_led 267 = .ok (.iinc 6 1, 3) := dX9_led_k105.1
theorem dX9_led_270 : decode cX9_led 270 = .ok (.goto (-220), 3) := dX9_led_k105.2.1
theorem dX9_led_273 : decode cX9_led 273 = .ok (.iload 5, 2) := dX9_led_k105.2.2.1
theorem dX9_led_275 : decode cX9_led 275 = .ok (.ifCond .lt 9, 3) := dX9_led_k105.2.2.2.1
theorem dX9_led_278 : decode cX9_led 278 = .ok (.iload 4, 2) := dX9_led_k105.2.2.2.2.1
theorem dX9_led_280 : decode cX9_led 280 = .ok (.iconst 1, 1) := dX9_led_k105.2.2.2.2.2
set_option maxRecDepth 100000 in
theorem dX9_led_k106 : (decode cX9_led 281 = .ok (.if_icmp .ne 8, 3)) ∧ (decode cX9_led 284 = .ok (.iload 5, 2)) ∧ (decode cX9_led 286 = .ok (.goto 8, 3)) ∧ (decode cX9_led 289 = .ok (.iload 5, 2)) ∧ (decode cX9_led 291 = .ok (.invokestatic 117, 3)) ∧ (decode cX9_led 294 = .ok (.ireturn, 1)) := by decide +kernel
theorem dX9_led_281 : decode cX9_led 281 = .ok (.if_icmp .ne 8, 3) := dX9_led_k106.1
theorem dX9_led_284 : decode cX9_led 284 = .ok (.iload 5, 2) := dX9_led_k106.2.1
theorem dX9_led_286 : decode cX9_led 286 = .ok (.goto 8, 3) := dX9_led_k106.2.2.1
theorem dX9_led_289 : decode cX9_led 289 = .ok (.iload 5, 2) := dX9_led_k106.2.2.2.1
theorem dX9_led_291 : decode cX9_led 291 = .ok (.invokestatic 117, 3) := dX9_led_k106.2.2.2.2.1
theorem dX9_led_294 : decode cX9_led 294 = .ok (.ireturn, 1) := dX9_led_k106.2.2.2.2.2
set_option maxRecDepth 100000 in
theorem dX9_excuses_k107 : (decode cX9_excuses 0 = .ok (.aload_n 0, 1)) ∧ (decode cX9_excuses 1 = .ok (.iload_n 1, 1)) ∧ (decode cX9_excuses 2 = .ok (.invokevirtual 121, 3)) ∧ (decode cX9_excuses 5 = .ok (.ifCond .eq 11, 3)) ∧ (decode cX9_excuses 8 = .ok (.aload_n 0, 1)) ∧ (decode cX9_excuses 9 = .ok (.iload_n 2, 1)) := by decide +kernel
theorem dX9_excuses_0 : decode cX9_excuses 0 = .ok (.aload_n 0, 1) := dX9_excuses_k107.1
theorem dX9_excuses_1 : decode cX9_excuses 1 = .ok (.iload_n 1, 1) := dX9_excuses_k107.2.1
theorem dX9_excuses_2 : decode cX9_excuses 2 = .ok (.invokevirtual 121, 3) := dX9_excuses_k107.2.2.1
theorem dX9_excuses_5 : decode cX9_excuses 5 = .ok (.ifCond .eq 11, 3) := dX9_excuses_k107.2.2.2.1
theorem dX9_excuses_8 : decode cX9_excuses 8 = .ok (.aload_n 0, 1) := dX9_excuses_k107.2.2.2.2.1
theorem dX9_excuses_9 : decode cX9_excuses 9 = .ok (.iload_n 2, 1) := dX9_excuses_k107.2.2.2.2.2
set_option maxRecDepth 100000 in
theorem dX9_excuses_k108 : (decode cX9_excuses 10 = .ok (.invokevirtual 102, 3)) ∧ (decode cX9_excuses 13 = .ok (.ifCond .ne 5, 3)) ∧ (decode cX9_excuses 16 = .ok (.iconst (-1), 1)) ∧ (decode cX9_excuses 17 = .ok (.ireturn, 1)) ∧ (decode cX9_excuses 18 = .ok (.aload_n 0, 1)) ∧ (decode cX9_excuses 19 = .ok (.invokevirtual 157, 3)) := by decide +kernel
theorem dX9_excuses_10 : decode cX9_excuses 10 = .ok (.invokevirtual 102, 3) := dX9_excuses_k108.1
theorem dX9_excuses_13 : decode cX9_excuses 13 = .ok (.ifCond .ne 5, 3) := dX9_excuses_k108.2.1
theorem dX9_excuses_16 : decode cX9_excuses 16 = .ok (.iconst (-1), 1) := dX9_excuses_k108.2.2.1
theorem dX9_excuses_17 : decode cX9_excuses 17 = .ok (.ireturn, 1) := dX9_excuses_k108.2.2.2.1
theorem dX9_excuses_18 : decode cX9_excuses 18 = .ok (.aload_n 0, 1) := dX9_excuses_k108.2.2.2.2.1
theorem dX9_excuses_19 : decode cX9_excuses 19 = .ok (.invokevirtual 157, 3) := dX9_excuses_k108.2.2.2.2.2
set_option maxRecDepth 100000 in
theorem dX9_excuses_k109 : (decode cX9_excuses 22 = .ok (.iconst 0, 1)) ∧ (decode cX9_excuses 23 = .ok (.istore 4, 2)) ∧ (decode cX9_excuses 25 = .ok (.iload 4, 2)) ∧ (decode cX9_excuses 27 = .ok (.bipush 6, 2)) ∧ (decode cX9_excuses 29 = .ok (.if_icmp .ge 28, 3)) ∧ (decode cX9_excuses 32 = .ok (.aload_n 0, 1)) := by decide +kernel
theorem dX9_excuses_22 : decode cX9_excuses 22 = .ok (.iconst 0, 1) := dX9_excuses_k109.1
theorem dX9_excuses_23 : decode cX9_excuses 23 = .ok (.istore 4, 2) := dX9_excuses_k109.2.1
theorem dX9_excuses_25 : decode cX9_excuses 25 = .ok (.iload 4, 2) := dX9_excuses_k109.2.2.1
theorem dX9_excuses_27 : decode cX9_excuses 27 = .ok (.bipush 6, 2) := dX9_excuses_k109.2.2.2.1
theorem dX9_excuses_29 : decode cX9_excuses 29 = .ok (.if_icmp .ge 28, 3) := dX9_excuses_k109.2.2.2.2.1
theorem dX9_excuses_32 : decode cX9_excuses 32 = .ok (.aload_n 0, 1) := dX9_excuses_k109.2.2.2.2.2
set_option maxRecDepth 100000 in
theorem dX9_excuses_k110 : (decode cX9_excuses 33 = .ok (.getfield 69, 3)) ∧ (decode cX9_excuses 36 = .ok (.iload 4, 2)) ∧ (decode cX9_excuses 38 = .ok (.iload 4, 2)) ∧ (decode cX9_excuses 40 = .ok (.iload_n 2, 1)) ∧ (decode cX9_excuses 41 = .ok (.if_icmp .ne 7, 3)) ∧ (decode cX9_excuses 44 = .ok (.iconst 0, 1)) := by decide +kernel
theorem dX9_excuses_33 : decode cX9_excuses 33 = .ok (.getfield 69, 3) := dX9_excuses_k110.1
theorem dX9_excuses_36 : decode cX9_excuses 36 = .ok (.iload 4, 2) := dX9_excuses_k110.2.1
theorem dX9_excuses_38 : decode cX9_excuses 38 = .ok (.iload 4, 2) := dX9_excuses_k110.2.2.1
theorem dX9_excuses_40 : decode cX9_excuses 40 = .ok (.iload_n 2, 1) := dX9_excuses_k110.2.2.2.1
theorem dX9_excuses_41 : decode cX9_excuses 41 = .ok (.if_icmp .ne 7, 3) := dX9_excuses_k110.2.2.2.2.1
theorem dX9_excuses_44 : decode cX9_excuses 44 = .ok (.iconst 0, 1) := dX9_excuses_k110.2.2.2.2.2
set_option maxRecDepth 100000 in
theorem dX9_excuses_k111 : (decode cX9_excuses 45 = .ok (.goto 5, 3)) ∧ (decode cX9_excuses 48 = .ok (.ldc 217, 2)) ∧ (decode cX9_excuses 50 = .ok (.iastore, 1)) ∧ (decode cX9_excuses 51 = .ok (.iinc 4 1, 3)) ∧ (decode cX9_excuses 54 = .ok (.goto (-29), 3)) ∧ (decode cX9_excuses 57 = .ok (.iconst 1, 1)) := by decide +kernel
theorem dX9_excuses_45 : decode cX9_excuses 45 = .ok (.goto 5, 3) := dX9_excuses_k111.1
theorem dX9_excuses_48 : decode cX9_excuses 48 = .ok (.ldc 217, 2) := dX9_excuses_k111.2.1
theorem dX9_excuses_50 : decode cX9_excuses 50 = .ok (.iastore, 1) := dX9_excuses_k111.2.2.1
theorem dX9_excuses_51 : decode cX9_excuses 51 = .ok (.iinc 4 1, 3) := dX9_excuses_k111.2.2.2.1
theorem dX9_excuses_54 : decode cX9_excuses 54 = .ok (.goto (-29), 3) := dX9_excuses_k111.2.2.2.2.1
theorem dX9_excuses_57 : decode cX9_excuses 57 = .ok (.iconst 1, 1) := dX9_excuses_k111.2.2.2.2.2
set_option maxRecDepth 100000 in
theorem dX9_excuses_k112 : (decode cX9_excuses 58 = .ok (.istore 4, 2)) ∧ (decode cX9_excuses 60 = .ok (.iload 4, 2)) ∧ (decode cX9_excuses 62 = .ok (.bipush 6, 2)) ∧ (decode cX9_excuses 64 = .ok (.if_icmp .ge 124, 3)) ∧ (decode cX9_excuses 67 = .ok (.iconst 0, 1)) ∧ (decode cX9_excuses 68 = .ok (.istore 5, 2)) := by decide +kernel
theorem dX9_excuses_58 : decode cX9_excuses 58 = .ok (.istore 4, 2) := dX9_excuses_k112.1
theorem dX9_excuses_60 : decode cX9_excuses 60 = .ok (.iload 4, 2) := dX9_excuses_k112.2.1
theorem dX9_excuses_62 : decode cX9_excuses 62 = .ok (.bipush 6, 2) := dX9_excuses_k112.2.2.1
theorem dX9_excuses_64 : decode cX9_excuses 64 = .ok (.if_icmp .ge 124, 3) := dX9_excuses_k112.2.2.2.1
theorem dX9_excuses_67 : decode cX9_excuses 67 = .ok (.iconst 0, 1) := dX9_excuses_k112.2.2.2.2.1
theorem dX9_excuses_68 : decode cX9_excuses 68 = .ok (.istore 5, 2) := dX9_excuses_k112.2.2.2.2.2
set_option maxRecDepth 100000 in
theorem dX9_excuses_k113 : (decode cX9_excuses 70 = .ok (.iload 5, 2)) ∧ (decode cX9_excuses 72 = .ok (.bipush 6, 2)) ∧ (decode cX9_excuses 74 = .ok (.if_icmp .ge 108, 3)) ∧ (decode cX9_excuses 77 = .ok (.ldc 217, 2)) ∧ (decode cX9_excuses 79 = .ok (.istore 6, 2)) ∧ (decode cX9_excuses 81 = .ok (.iconst 0, 1)) := by decide +kernel
theorem dX9_excuses_70 : decode cX9_excuses 70 = .ok (.iload 5, 2) := dX9_excuses_k113.1
theorem dX9_excuses_72 : decode cX9_excuses 72 = .ok (.bipush 6, 2) := dX9_excuses_k113.2.1
theorem dX9_excuses_74 : decode cX9_excuses 74 = .ok (.if_icmp .ge 108, 3) := dX9_excuses_k113.2.2.1
theorem dX9_excuses_77 : decode cX9_excuses 77 = .ok (.ldc 217, 2) := dX9_excuses_k113.2.2.2.1
theorem dX9_excuses_79 : decode cX9_excuses 79 = .ok (.istore 6, 2) := dX9_excuses_k113.2.2.2.2.1
theorem dX9_excuses_81 : decode cX9_excuses 81 = .ok (.iconst 0, 1) := dX9_excuses_k113.2.2.2.2.2
set_option maxRecDepth 100000 in
theorem dX9_excuses_k114 : (decode cX9_excuses 82 = .ok (.istore 7, 2)) ∧ (decode cX9_excuses 84 = .ok (.iload 7, 2)) ∧ (decode cX9_excuses 86 = .ok (.bipush 6, 2)) ∧ (decode cX9_excuses 88 = .ok (.if_icmp .ge 73, 3)) ∧ (decode cX9_excuses 91 = .ok (.aload_n 0, 1)) ∧ (decode cX9_excuses 92 = .ok (.getfield 23, 3)) := by decide +kernel
theorem dX9_excuses_82 : decode cX9_excuses 82 = .ok (.istore 7, 2) := dX9_excuses_k114.1
theorem dX9_excuses_84 : decode cX9_excuses 84 = .ok (.iload 7, 2) := dX9_excuses_k114.2.1
theorem dX9_excuses_86 : decode cX9_excuses 86 = .ok (.bipush 6, 2) := dX9_excuses_k114.2.2.1
theorem dX9_excuses_88 : decode cX9_excuses 88 = .ok (.if_icmp .ge 73, 3) := dX9_excuses_k114.2.2.2.1
theorem dX9_excuses_91 : decode cX9_excuses 91 = .ok (.aload_n 0, 1) := dX9_excuses_k114.2.2.2.2.1
theorem dX9_excuses_92 : decode cX9_excuses 92 = .ok (.getfield 23, 3) := dX9_excuses_k114.2.2.2.2.2
set_option maxRecDepth 100000 in
theorem dX9_excuses_k115 : (decode cX9_excuses 95 = .ok (.bipush 6, 2)) ∧ (decode cX9_excuses 97 = .ok (.iload 5, 2)) ∧ (decode cX9_excuses 99 = .ok (.imul, 1)) ∧ (decode cX9_excuses 100 = .ok (.iload 7, 2)) ∧ (decode cX9_excuses 102 = .ok (.iadd, 1)) ∧ (decode cX9_excuses 103 = .ok (.iaload, 1)) := by decide +kernel
theorem dX9_excuses_95 : decode cX9_excuses 95 = .ok (.bipush 6, 2) := dX9_excuses_k115.1
theorem dX9_excuses_97 : decode cX9_excuses 97 = .ok (.iload 5, 2) := dX9_excuses_k115.2.1
theorem dX9_excuses_99 : decode cX9_excuses 99 = .ok (.imul, 1) := dX9_excuses_k115.2.2.1
theorem dX9_excuses_100 : decode cX9_excuses 100 = .ok (.iload 7, 2) := dX9_excuses_k115.2.2.2.1
theorem dX9_excuses_102 : decode cX9_excuses 102 = .ok (.iadd, 1) := dX9_excuses_k115.2.2.2.2.1
theorem dX9_excuses_103 : decode cX9_excuses 103 = .ok (.iaload, 1) := dX9_excuses_k115.2.2.2.2.2
set_option maxRecDepth 100000 in
theorem dX9_excuses_k116 : (decode cX9_excuses 104 = .ok (.ifCond .le 31, 3)) ∧ (decode cX9_excuses 107 = .ok (.aload_n 0, 1)) ∧ (decode cX9_excuses 108 = .ok (.iload 7, 2)) ∧ (decode cX9_excuses 110 = .ok (.bipush (-6), 2)) ∧ (decode cX9_excuses 112 = .ok (.invokevirtual 134, 3)) ∧ (decode cX9_excuses 115 = .ok (.aload_n 0, 1)) := by decide +kernel
theorem dX9_excuses_104 : decode cX9_excuses 104 = .ok (.ifCond .le 31, 3) := dX9_excuses_k116.1
theorem dX9_excuses_107 : decode cX9_excuses 107 = .ok (.aload_n 0, 1) := dX9_excuses_k116.2.1
theorem dX9_excuses_108 : decode cX9_excuses 108 = .ok (.iload 7, 2) := dX9_excuses_k116.2.2.1
theorem dX9_excuses_110 : decode cX9_excuses 110 = .ok (.bipush (-6), 2) := dX9_excuses_k116.2.2.2.1
theorem dX9_excuses_112 : decode cX9_excuses 112 = .ok (.invokevirtual 134, 3) := dX9_excuses_k116.2.2.2.2.1
theorem dX9_excuses_115 : decode cX9_excuses 115 = .ok (.aload_n 0, 1) := dX9_excuses_k116.2.2.2.2.2
set_option maxRecDepth 100000 in
theorem dX9_excuses_k117 : (decode cX9_excuses 116 = .ok (.getfield 69, 3)) ∧ (decode cX9_excuses 119 = .ok (.bipush 6, 2)) ∧ (decode cX9_excuses 121 = .ok (.iload 4, 2)) ∧ (decode cX9_excuses 123 = .ok (.imul, 1)) ∧ (decode cX9_excuses 124 = .ok (.bipush 6, 2)) ∧ (decode cX9_excuses 126 = .ok (.isub, 1)) := by decide +kernel
theorem dX9_excuses_116 : decode cX9_excuses 116 = .ok (.getfield 69, 3) := dX9_excuses_k117.1
theorem dX9_excuses_119 : decode cX9_excuses 119 = .ok (.bipush 6, 2) := dX9_excuses_k117.2.1
theorem dX9_excuses_121 : decode cX9_excuses 121 = .ok (.iload 4, 2) := dX9_excuses_k117.2.2.1
theorem dX9_excuses_123 : decode cX9_excuses 123 = .ok (.imul, 1) := dX9_excuses_k117.2.2.2.1
theorem dX9_excuses_124 : decode cX9_excuses 124 = .ok (.bipush 6, 2) := dX9_excuses_k117.2.2.2.2.1
theorem dX9_excuses_126 : decode cX9_excuses 126 = .ok (.isub, 1) := dX9_excuses_k117.2.2.2.2.2
set_option maxRecDepth 100000 in
theorem dX9_excuses_k118 : (decode cX9_excuses 127 = .ok (.iload 7, 2)) ∧ (decode cX9_excuses 129 = .ok (.iadd, 1)) ∧ (decode cX9_excuses 130 = .ok (.iaload, 1)) ∧ (decode cX9_excuses 131 = .ok (.iadd, 1)) ∧ (decode cX9_excuses 132 = .ok (.goto 5, 3)) ∧ (decode cX9_excuses 135 = .ok (.ldc 217, 2)) := by decide +kernel
theorem dX9_excuses_127 : decode cX9_excuses 127 = .ok (.iload 7, 2) := dX9_excuses_k118.1
theorem dX9_excuses_129 : decode cX9_excuses 129 = .ok (.iadd, 1) := dX9_excuses_k118.2.1
theorem dX9_excuses_130 : decode cX9_excuses 130 = .ok (.iaload, 1) := dX9_excuses_k118.2.2.1
theorem dX9_excuses_131 : decode cX9_excuses 131 = .ok (.iadd, 1) := dX9_excuses_k118.2.2.2.1
theorem dX9_excuses_132 : decode cX9_excuses 132 = .ok (.goto 5, 3) := dX9_excuses_k118.2.2.2.2.1
theorem dX9_excuses_135 : decode cX9_excuses 135 = .ok (.ldc 217, 2) := dX9_excuses_k118.2.2.2.2.2
set_option maxRecDepth 100000 in
theorem dX9_excuses_k119 : (decode cX9_excuses 137 = .ok (.istore 8, 2)) ∧ (decode cX9_excuses 139 = .ok (.iload 8, 2)) ∧ (decode cX9_excuses 141 = .ok (.iload 6, 2)) ∧ (decode cX9_excuses 143 = .ok (.if_icmp .ge 8, 3)) ∧ (decode cX9_excuses 146 = .ok (.iload 8, 2)) ∧ (decode cX9_excuses 148 = .ok (.goto 5, 3)) := by decide +kernel
theorem dX9_excuses_137 : decode cX9_excuses 137 = .ok (.istore 8, 2) := dX9_excuses_k119.1
theorem dX9_excuses_139 : decode cX9_excuses 139 = .ok (.iload 8, 2) := dX9_excuses_k119.2.1
theorem dX9_excuses_141 : decode cX9_excuses 141 = .ok (.iload 6, 2) := dX9_excuses_k119.2.2.1
theorem dX9_excuses_143 : decode cX9_excuses 143 = .ok (.if_icmp .ge 8, 3) := dX9_excuses_k119.2.2.2.1
theorem dX9_excuses_146 : decode cX9_excuses 146 = .ok (.iload 8, 2) := dX9_excuses_k119.2.2.2.2.1
theorem dX9_excuses_148 : decode cX9_excuses 148 = .ok (.goto 5, 3) := dX9_excuses_k119.2.2.2.2.2
set_option maxRecDepth 100000 in
theorem dX9_excuses_k120 : (decode cX9_excuses 151 = .ok (.iload 6, 2)) ∧ (decode cX9_excuses 153 = .ok (.istore 6, 2)) ∧ (decode cX9_excuses 155 = .ok (.iinc 7 1, 3)) ∧ (decode cX9_excuses 158 = .ok (.goto (-74), 3)) ∧ (decode cX9_excuses 161 = .ok (.aload_n 0, 1)) ∧ (decode cX9_excuses 162 = .ok (.getfield 69, 3)) := by decide +kernel
theorem dX9_excuses_151 : decode cX9_excuses 151 = .ok (.iload 6, 2) := dX9_excuses_k120.1
theorem dX9_excuses_153 : decode cX9_excuses 153 = .ok (.istore 6, 2) := dX9_excuses_k120.2.1
theorem dX9_excuses_155 : decode cX9_excuses 155 = .ok (.iinc 7 1, 3) := dX9_excuses_k120.2.2.1
theorem dX9_excuses_158 : decode cX9_excuses 158 = .ok (.goto (-74), 3) := dX9_excuses_k120.2.2.2.1
theorem dX9_excuses_161 : decode cX9_excuses 161 = .ok (.aload_n 0, 1) := dX9_excuses_k120.2.2.2.2.1
theorem dX9_excuses_162 : decode cX9_excuses 162 = .ok (.getfield 69, 3) := dX9_excuses_k120.2.2.2.2.2
set_option maxRecDepth 100000 in
theorem dX9_excuses_k121 : (decode cX9_excuses 165 = .ok (.bipush 6, 2)) ∧ (decode cX9_excuses 167 = .ok (.iload 4, 2)) ∧ (decode cX9_excuses 169 = .ok (.imul, 1)) ∧ (decode cX9_excuses 170 = .ok (.iload 5, 2)) ∧ (decode cX9_excuses 172 = .ok (.iadd, 1)) ∧ (decode cX9_excuses 173 = .ok (.iload 6, 2)) := by decide +kernel
theorem dX9_excuses_165 : decode cX9_excuses 165 = .ok (.bipush 6, 2) := dX9_excuses_k121.1
theorem dX9_excuses_167 : decode cX9_excuses 167 = .ok (.iload 4, 2) := dX9_excuses_k121.2.1
theorem dX9_excuses_169 : decode cX9_excuses 169 = .ok (.imul, 1) := dX9_excuses_k121.2.2.1
theorem dX9_excuses_170 : decode cX9_excuses 170 = .ok (.iload 5, 2) := dX9_excuses_k121.2.2.2.1
theorem dX9_excuses_172 : decode cX9_excuses 172 = .ok (.iadd, 1) := dX9_excuses_k121.2.2.2.2.1
theorem dX9_excuses_173 : decode cX9_excuses 173 = .ok (.iload 6, 2) := dX9_excuses_k121.2.2.2.2.2
set_option maxRecDepth 100000 in
theorem dX9_excuses_k122 : (decode cX9_excuses 175 = .ok (.iastore, 1)) ∧ (decode cX9_excuses 176 = .ok (.iinc 5 1, 3)) ∧ (decode cX9_excuses 179 = .ok (.goto (-109), 3)) ∧ (decode cX9_excuses 182 = .ok (.iinc 4 1, 3)) ∧ (decode cX9_excuses 185 = .ok (.goto (-125), 3)) ∧ (decode cX9_excuses 188 = .ok (.aload_n 0, 1)) := by decide +kernel
theorem dX9_excuses_175 : decode cX9_excuses 175 = .ok (.iastore, 1) := dX9_excuses_k122.1
theorem dX9_excuses_176 : decode cX9_excuses 176 = .ok (.iinc 5 1, 3) := dX9_excuses_k122.2.1
theorem dX9_excuses_179 : decode cX9_excuses 179 = .ok (.goto (-109), 3) := dX9_excuses_k122.2.2.1
theorem dX9_excuses_182 : decode cX9_excuses 182 = .ok (.iinc 4 1, 3) := dX9_excuses_k122.2.2.2.1
theorem dX9_excuses_185 : decode cX9_excuses 185 = .ok (.goto (-125), 3) := dX9_excuses_k122.2.2.2.2.1
theorem dX9_excuses_188 : decode cX9_excuses 188 = .ok (.aload_n 0, 1) := dX9_excuses_k122.2.2.2.2.2
set_option maxRecDepth 100000 in
theorem dX9_excuses_k123 : (decode cX9_excuses 189 = .ok (.getfield 47, 3)) ∧ (decode cX9_excuses 192 = .ok (.iload_n 1, 1)) ∧ (decode cX9_excuses 193 = .ok (.iaload, 1)) ∧ (decode cX9_excuses 194 = .ok (.istore 4, 2)) ∧ (decode cX9_excuses 196 = .ok (.iconst 0, 1)) ∧ (decode cX9_excuses 197 = .ok (.istore 5, 2)) := by decide +kernel
theorem dX9_excuses_189 : decode cX9_excuses 189 = .ok (.getfield 47, 3) := dX9_excuses_k123.1
theorem dX9_excuses_192 : decode cX9_excuses 192 = .ok (.iload_n 1, 1) := dX9_excuses_k123.2.1
theorem dX9_excuses_193 : decode cX9_excuses 193 = .ok (.iaload, 1) := dX9_excuses_k123.2.2.1
theorem dX9_excuses_194 : decode cX9_excuses 194 = .ok (.istore 4, 2) := dX9_excuses_k123.2.2.2.1
theorem dX9_excuses_196 : decode cX9_excuses 196 = .ok (.iconst 0, 1) := dX9_excuses_k123.2.2.2.2.1
theorem dX9_excuses_197 : decode cX9_excuses 197 = .ok (.istore 5, 2) := dX9_excuses_k123.2.2.2.2.2
set_option maxRecDepth 100000 in
theorem dX9_excuses_k124 : (decode cX9_excuses 199 = .ok (.iconst 1, 1)) ∧ (decode cX9_excuses 200 = .ok (.istore 6, 2)) ∧ (decode cX9_excuses 202 = .ok (.iload 6, 2)) ∧ (decode cX9_excuses 204 = .ok (.bipush 6, 2)) ∧ (decode cX9_excuses 206 = .ok (.if_icmp .ge 47, 3)) ∧ (decode cX9_excuses 209 = .ok (.aload_n 0, 1)) := by decide +kernel
theorem dX9_excuses_199 : decode cX9_excuses 199 = .ok (.iconst 1, 1) := dX9_excuses_k124.1
theorem dX9_excuses_200 : decode cX9_excuses 200 = .ok (.istore 6, 2) := dX9_excuses_k124.2.1
theorem dX9_excuses_202 : decode cX9_excuses 202 = .ok (.iload 6, 2) := dX9_excuses_k124.2.2.1
theorem dX9_excuses_204 : decode cX9_excuses 204 = .ok (.bipush 6, 2) := dX9_excuses_k124.2.2.2.1
theorem dX9_excuses_206 : decode cX9_excuses 206 = .ok (.if_icmp .ge 47, 3) := dX9_excuses_k124.2.2.2.2.1
theorem dX9_excuses_209 : decode cX9_excuses 209 = .ok (.aload_n 0, 1) := dX9_excuses_k124.2.2.2.2.2
set_option maxRecDepth 100000 in
theorem dX9_excuses_k125 : (decode cX9_excuses 210 = .ok (.getfield 69, 3)) ∧ (decode cX9_excuses 213 = .ok (.bipush 6, 2)) ∧ (decode cX9_excuses 215 = .ok (.iload 6, 2)) ∧ (decode cX9_excuses 217 = .ok (.imul, 1)) ∧ (decode cX9_excuses 218 = .ok (.iload 4, 2)) ∧ (decode cX9_excuses 220 = .ok (.iadd, 1)) := by decide +kernel
theorem dX9_excuses_210 : decode cX9_excuses 210 = .ok (.getfield 69, 3) := dX9_excuses_k125.1
theorem dX9_excuses_213 : decode cX9_excuses 213 = .ok (.bipush 6, 2) := dX9_excuses_k125.2.1
theorem dX9_excuses_215 : decode cX9_excuses 215 = .ok (.iload 6, 2) := dX9_excuses_k125.2.2.1
theorem dX9_excuses_217 : decode cX9_excuses 217 = .ok (.imul, 1) := dX9_excuses_k125.2.2.2.1
theorem dX9_excuses_218 : decode cX9_excuses 218 = .ok (.iload 4, 2) := dX9_excuses_k125.2.2.2.2.1
theorem dX9_excuses_220 : decode cX9_excuses 220 = .ok (.iadd, 1) := dX9_excuses_k125.2.2.2.2.2
set_option maxRecDepth 100000 in
theorem dX9_excuses_k126 : (decode cX9_excuses 221 = .ok (.iaload, 1)) ∧ (decode cX9_excuses 222 = .ok (.aload_n 0, 1)) ∧ (decode cX9_excuses 223 = .ok (.getfield 69, 3)) ∧ (decode cX9_excuses 226 = .ok (.bipush 6, 2)) ∧ (decode cX9_excuses 228 = .ok (.iload 5, 2)) ∧ (decode cX9_excuses 230 = .ok (.imul, 1)) := by decide +kernel
theorem dX9_excuses_221 : decode cX9_excuses 221 = .ok (.iaload, 1) := dX9_excuses_k126.1
theorem dX9_excuses_222 : decode cX9_excuses 222 = .ok (.aload_n 0, 1) := dX9_excuses_k126.2.1
theorem dX9_excuses_223 : decode cX9_excuses 223 = .ok (.getfield 69, 3) := dX9_excuses_k126.2.2.1
theorem dX9_excuses_226 : decode cX9_excuses 226 = .ok (.bipush 6, 2) := dX9_excuses_k126.2.2.2.1
theorem dX9_excuses_228 : decode cX9_excuses 228 = .ok (.iload 5, 2) := dX9_excuses_k126.2.2.2.2.1
theorem dX9_excuses_230 : decode cX9_excuses 230 = .ok (.imul, 1) := dX9_excuses_k126.2.2.2.2.2
set_option maxRecDepth 100000 in
theorem dX9_excuses_k127 : (decode cX9_excuses 231 = .ok (.iload 4, 2)) ∧ (decode cX9_excuses 233 = .ok (.iadd, 1)) ∧ (decode cX9_excuses 234 = .ok (.iaload, 1)) ∧ (decode cX9_excuses 235 = .ok (.if_icmp .ge 8, 3)) ∧ (decode cX9_excuses 238 = .ok (.iload 6, 2)) ∧ (decode cX9_excuses 240 = .ok (.goto 5, 3)) := by decide +kernel
theorem dX9_excuses_231 : decode cX9_excuses 231 = .ok (.iload 4, 2) := dX9_excuses_k127.1
theorem dX9_excuses_233 : decode cX9_excuses 233 = .ok (.iadd, 1) := dX9_excuses_k127.2.1
theorem dX9_excuses_234 : decode cX9_excuses 234 = .ok (.iaload, 1) := dX9_excuses_k127.2.2.1
theorem dX9_excuses_235 : decode cX9_excuses 235 = .ok (.if_icmp .ge 8, 3) := dX9_excuses_k127.2.2.2.1
theorem dX9_excuses_238 : decode cX9_excuses 238 = .ok (.iload 6, 2) := dX9_excuses_k127.2.2.2.2.1
theorem dX9_excuses_240 : decode cX9_excuses 240 = .ok (.goto 5, 3) := dX9_excuses_k127.2.2.2.2.2
set_option maxRecDepth 100000 in
theorem dX9_excuses_k128 : (decode cX9_excuses 243 = .ok (.iload 5, 2)) ∧ (decode cX9_excuses 245 = .ok (.istore 5, 2)) ∧ (decode cX9_excuses 247 = .ok (.iinc 6 1, 3)) ∧ (decode cX9_excuses 250 = .ok (.goto (-48), 3)) ∧ (decode cX9_excuses 253 = .ok (.aload_n 0, 1)) ∧ (decode cX9_excuses 254 = .ok (.getfield 69, 3)) := by decide +kernel
theorem dX9_excuses_243 : decode cX9_excuses 243 = .ok (.iload 5, 2) := dX9_excuses_k128.1
theorem dX9_excuses_245 : decode cX9_excuses 245 = .ok (.istore 5, 2) := dX9_excuses_k128.2.1
theorem dX9_excuses_247 : decode cX9_excuses 247 = .ok (.iinc 6 1, 3) := dX9_excuses_k128.2.2.1
theorem dX9_excuses_250 : decode cX9_excuses 250 = .ok (.goto (-48), 3) := dX9_excuses_k128.2.2.2.1
theorem dX9_excuses_253 : decode cX9_excuses 253 = .ok (.aload_n 0, 1) := dX9_excuses_k128.2.2.2.2.1
theorem dX9_excuses_254 : decode cX9_excuses 254 = .ok (.getfield 69, 3) := dX9_excuses_k128.2.2.2.2.2
set_option maxRecDepth 100000 in
theorem dX9_excuses_k129 : (decode cX9_excuses 257 = .ok (.bipush 6, 2)) ∧ (decode cX9_excuses 259 = .ok (.iload 5, 2)) ∧ (decode cX9_excuses 261 = .ok (.imul, 1)) ∧ (decode cX9_excuses 262 = .ok (.iload 4, 2)) ∧ (decode cX9_excuses 264 = .ok (.iadd, 1)) ∧ (decode cX9_excuses 265 = .ok (.iaload, 1)) := by decide +kernel
theorem dX9_excuses_257 : decode cX9_excuses 257 = .ok (.bipush 6, 2) := dX9_excuses_k129.1
theorem dX9_excuses_259 : decode cX9_excuses 259 = .ok (.iload 5, 2) := dX9_excuses_k129.2.1
theorem dX9_excuses_261 : decode cX9_excuses 261 = .ok (.imul, 1) := dX9_excuses_k129.2.2.1
theorem dX9_excuses_262 : decode cX9_excuses 262 = .ok (.iload 4, 2) := dX9_excuses_k129.2.2.2.1
theorem dX9_excuses_264 : decode cX9_excuses 264 = .ok (.iadd, 1) := dX9_excuses_k129.2.2.2.2.1
theorem dX9_excuses_265 : decode cX9_excuses 265 = .ok (.iaload, 1) := dX9_excuses_k129.2.2.2.2.2
set_option maxRecDepth 100000 in
theorem dX9_excuses_k130 : (decode cX9_excuses 266 = .ok (.istore 6, 2)) ∧ (decode cX9_excuses 268 = .ok (.iload 6, 2)) ∧ (decode cX9_excuses 270 = .ok (.ldc 217, 2)) ∧ (decode cX9_excuses 272 = .ok (.if_icmp .ge 8, 3)) ∧ (decode cX9_excuses 275 = .ok (.iload_n 3, 1)) ∧ (decode cX9_excuses 276 = .ok (.iconst (-1), 1)) := by decide +kernel
theorem dX9_excuses_266 : decode cX9_excuses 266 = .ok (.istore 6, 2) := dX9_excuses_k130.1
theorem dX9_excuses_268 : decode cX9_excuses 268 = .ok (.iload 6, 2) := dX9_excuses_k130.2.1
theorem dX9_excuses_270 : decode cX9_excuses 270 = .ok (.ldc 217, 2) := dX9_excuses_k130.2.2.1
theorem dX9_excuses_272 : decode cX9_excuses 272 = .ok (.if_icmp .ge 8, 3) := dX9_excuses_k130.2.2.2.1
theorem dX9_excuses_275 : decode cX9_excuses 275 = .ok (.iload_n 3, 1) := dX9_excuses_k130.2.2.2.2.1
theorem dX9_excuses_276 : decode cX9_excuses 276 = .ok (.iconst (-1), 1) := dX9_excuses_k130.2.2.2.2.2
set_option maxRecDepth 100000 in
theorem dX9_excuses_k131 : (decode cX9_excuses 277 = .ok (.if_icmp .ne 18, 3)) ∧ (decode cX9_excuses 280 = .ok (.iload 6, 2)) ∧ (decode cX9_excuses 282 = .ok (.ldc 217, 2)) ∧ (decode cX9_excuses 284 = .ok (.if_icmp .lt 8, 3)) ∧ (decode cX9_excuses 287 = .ok (.bipush (-6), 2)) ∧ (decode cX9_excuses 289 = .ok (.goto 5, 3)) := by decide +kernel
theorem dX9_excuses_277 : decode cX9_excuses 277 = .ok (.if_icmp .ne 18, 3) := dX9_excuses_k131.1
theorem dX9_excuses_280 : decode cX9_excuses 280 = .ok (.iload 6, 2) := dX9_excuses_k131.2.1
theorem dX9_excuses_282 : decode cX9_excuses 282 = .ok (.ldc 217, 2) := dX9_excuses_k131.2.2.1
theorem dX9_excuses_284 : decode cX9_excuses 284 = .ok (.if_icmp .lt 8, 3) := dX9_excuses_k131.2.2.2.1
theorem dX9_excuses_287 : decode cX9_excuses 287 = .ok (.bipush (-6), 2) := dX9_excuses_k131.2.2.2.2.1
theorem dX9_excuses_289 : decode cX9_excuses 289 = .ok (.goto 5, 3) := dX9_excuses_k131.2.2.2.2.2
set_option maxRecDepth 100000 in
theorem dX9_excuses_k132 : (decode cX9_excuses 292 = .ok (.iload 6, 2)) ∧ (decode cX9_excuses 294 = .ok (.ireturn, 1)) ∧ (decode cX9_excuses 295 = .ok (.iload_n 3, 1)) ∧ (decode cX9_excuses 296 = .ok (.iconst 0, 1)) ∧ (decode cX9_excuses 297 = .ok (.iload 5, 2)) ∧ (decode cX9_excuses 299 = .ok (.invokestatic 94, 3)) := by decide +kernel
theorem dX9_excuses_292 : decode cX9_excuses 292 = .ok (.iload 6, 2) := dX9_excuses_k132.1
theorem dX9_excuses_294 : decode cX9_excuses 294 = .ok (.ireturn, 1) := dX9_excuses_k132.2.1
theorem dX9_excuses_295 : decode cX9_excuses 295 = .ok (.iload_n 3, 1) := dX9_excuses_k132.2.2.1
theorem dX9_excuses_296 : decode cX9_excuses 296 = .ok (.iconst 0, 1) := dX9_excuses_k132.2.2.2.1
theorem dX9_excuses_297 : decode cX9_excuses 297 = .ok (.iload 5, 2) := dX9_excuses_k132.2.2.2.2.1
theorem dX9_excuses_299 : decode cX9_excuses 299 = .ok (.invokestatic 94, 3) := dX9_excuses_k132.2.2.2.2.2
set_option maxRecDepth 100000 in
theorem dX9_excuses_k133 : (decode cX9_excuses 302 = .ok (.ifCond .ne 6, 3)) ∧ (decode cX9_excuses 305 = .ok (.bipush (-6), 2)) ∧ (decode cX9_excuses 307 = .ok (.ireturn, 1)) ∧ (decode cX9_excuses 308 = .ok (.iload 4, 2)) ∧ (decode cX9_excuses 310 = .ok (.istore 7, 2)) ∧ (decode cX9_excuses 312 = .ok (.iload 5, 2)) := by decide +kernel
theorem dX9_excuses_302 : decode cX9_excuses 302 = .ok (.ifCond .ne 6, 3) := dX9_excuses_k133.1
theorem dX9_excuses_305 : decode cX9_excuses 305 = .ok (.bipush (-6), 2) := dX9_excuses_k133.2.1
theorem dX9_excuses_307 : decode cX9_excuses 307 = .ok (.ireturn, 1) := dX9_excuses_k133.2.2.1
theorem dX9_excuses_308 : decode cX9_excuses 308 = .ok (.iload 4, 2) := dX9_excuses_k133.2.2.2.1
theorem dX9_excuses_310 : decode cX9_excuses 310 = .ok (.istore 7, 2) := dX9_excuses_k133.2.2.2.2.1
theorem dX9_excuses_312 : decode cX9_excuses 312 = .ok (.iload 5, 2) := dX9_excuses_k133.2.2.2.2.2
set_option maxRecDepth 100000 in
theorem dX9_excuses_k134 : (decode cX9_excuses 314 = .ok (.istore 8, 2)) ∧ (decode cX9_excuses 316 = .ok (.iload 8, 2)) ∧ (decode cX9_excuses 318 = .ok (.iload 5, 2)) ∧ (decode cX9_excuses 320 = .ok (.iload_n 3, 1)) ∧ (decode cX9_excuses 321 = .ok (.isub, 1)) ∧ (decode cX9_excuses 322 = .ok (.if_icmp .le 79, 3)) := by decide +kernel
theorem dX9_excuses_314 : decode cX9_excuses 314 = .ok (.istore 8, 2) := dX9_excuses_k134.1
theorem dX9_excuses_316 : decode cX9_excuses 316 = .ok (.iload 8, 2) := dX9_excuses_k134.2.1
theorem dX9_excuses_318 : decode cX9_excuses 318 = .ok (.iload 5, 2) := dX9_excuses_k134.2.2.1
theorem dX9_excuses_320 : decode cX9_excuses 320 = .ok (.iload_n 3, 1) := dX9_excuses_k134.2.2.2.1
theorem dX9_excuses_321 : decode cX9_excuses 321 = .ok (.isub, 1) := dX9_excuses_k134.2.2.2.2.1
theorem dX9_excuses_322 : decode cX9_excuses 322 = .ok (.if_icmp .le 79, 3) := dX9_excuses_k134.2.2.2.2.2
set_option maxRecDepth 100000 in
theorem dX9_excuses_k135 : (decode cX9_excuses 325 = .ok (.iconst 0, 1)) ∧ (decode cX9_excuses 326 = .ok (.istore 9, 2)) ∧ (decode cX9_excuses 328 = .ok (.aload_n 0, 1)) ∧ (decode cX9_excuses 329 = .ok (.getfield 23, 3)) ∧ (decode cX9_excuses 332 = .ok (.bipush 6, 2)) ∧ (decode cX9_excuses 334 = .ok (.iload 7, 2)) := by decide +kernel
theorem dX9_excuses_325 : decode cX9_excuses 325 = .ok (.iconst 0, 1) := dX9_excuses_k135.1
theorem dX9_excuses_326 : decode cX9_excuses 326 = .ok (.istore 9, 2) := dX9_excuses_k135.2.1
theorem dX9_excuses_328 : decode cX9_excuses 328 = .ok (.aload_n 0, 1) := dX9_excuses_k135.2.2.1
theorem dX9_excuses_329 : decode cX9_excuses 329 = .ok (.getfield 23, 3) := dX9_excuses_k135.2.2.2.1
theorem dX9_excuses_332 : decode cX9_excuses 332 = .ok (.bipush 6, 2) := dX9_excuses_k135.2.2.2.2.1
theorem dX9_excuses_334 : decode cX9_excuses 334 = .ok (.iload 7, 2) := dX9_excuses_k135.2.2.2.2.2
set_option maxRecDepth 100000 in
theorem dX9_excuses_k136 : (decode cX9_excuses 336 = .ok (.imul, 1)) ∧ (decode cX9_excuses 337 = .ok (.iload 9, 2)) ∧ (decode cX9_excuses 339 = .ok (.iadd, 1)) ∧ (decode cX9_excuses 340 = .ok (.iaload, 1)) ∧ (decode cX9_excuses 341 = .ok (.ifCond .eq 44, 3)) ∧ (decode cX9_excuses 344 = .ok (.aload_n 0, 1)) := by decide +kernel
theorem dX9_excuses_336 : decode cX9_excuses 336 = .ok (.imul, 1) := dX9_excuses_k136.1
theorem dX9_excuses_337 : decode cX9_excuses 337 = .ok (.iload 9, 2) := dX9_excuses_k136.2.1
theorem dX9_excuses_339 : decode cX9_excuses 339 = .ok (.iadd, 1) := dX9_excuses_k136.2.2.1
theorem dX9_excuses_340 : decode cX9_excuses 340 = .ok (.iaload, 1) := dX9_excuses_k136.2.2.2.1
theorem dX9_excuses_341 : decode cX9_excuses 341 = .ok (.ifCond .eq 44, 3) := dX9_excuses_k136.2.2.2.2.1
theorem dX9_excuses_344 : decode cX9_excuses 344 = .ok (.aload_n 0, 1) := dX9_excuses_k136.2.2.2.2.2
set_option maxRecDepth 100000 in
theorem dX9_excuses_k137 : (decode cX9_excuses 345 = .ok (.iload 9, 2)) ∧ (decode cX9_excuses 347 = .ok (.bipush (-6), 2)) ∧ (decode cX9_excuses 349 = .ok (.invokevirtual 134, 3)) ∧ (decode cX9_excuses 352 = .ok (.aload_n 0, 1)) ∧ (decode cX9_excuses 353 = .ok (.getfield 69, 3)) ∧ (decode cX9_excuses 356 = .ok (.bipush 6, 2)) := by decide +kernel
theorem dX9_excuses_345 : decode cX9_excuses 345 = .ok (.iload 9, 2) := dX9_excuses_k137.1
theorem dX9_excuses_347 : decode cX9_excuses 347 = .ok (.bipush (-6), 2) := dX9_excuses_k137.2.1
theorem dX9_excuses_349 : decode cX9_excuses 349 = .ok (.invokevirtual 134, 3) := dX9_excuses_k137.2.2.1
theorem dX9_excuses_352 : decode cX9_excuses 352 = .ok (.aload_n 0, 1) := dX9_excuses_k137.2.2.2.1
theorem dX9_excuses_353 : decode cX9_excuses 353 = .ok (.getfield 69, 3) := dX9_excuses_k137.2.2.2.2.1
theorem dX9_excuses_356 : decode cX9_excuses 356 = .ok (.bipush 6, 2) := dX9_excuses_k137.2.2.2.2.2
set_option maxRecDepth 100000 in
theorem dX9_excuses_k138 : (decode cX9_excuses 358 = .ok (.iload 8, 2)) ∧ (decode cX9_excuses 360 = .ok (.imul, 1)) ∧ (decode cX9_excuses 361 = .ok (.bipush 6, 2)) ∧ (decode cX9_excuses 363 = .ok (.isub, 1)) ∧ (decode cX9_excuses 364 = .ok (.iload 9, 2)) ∧ (decode cX9_excuses 366 = .ok (.iadd, 1)) := by decide +kernel
theorem dX9_excuses_358 : decode cX9_excuses 358 = .ok (.iload 8, 2) := dX9_excuses_k138.1
theorem dX9_excuses_360 : decode cX9_excuses 360 = .ok (.imul, 1) := dX9_excuses_k138.2.1
theorem dX9_excuses_361 : decode cX9_excuses 361 = .ok (.bipush 6, 2) := dX9_excuses_k138.2.2.1
theorem dX9_excuses_363 : decode cX9_excuses 363 = .ok (.isub, 1) := dX9_excuses_k138.2.2.2.1
theorem dX9_excuses_364 : decode cX9_excuses 364 = .ok (.iload 9, 2) := dX9_excuses_k138.2.2.2.2.1
theorem dX9_excuses_366 : decode cX9_excuses 366 = .ok (.iadd, 1) := dX9_excuses_k138.2.2.2.2.2
set_option maxRecDepth 100000 in
theorem dX9_excuses_k139 : (decode cX9_excuses 367 = .ok (.iaload, 1)) ∧ (decode cX9_excuses 368 = .ok (.iadd, 1)) ∧ (decode cX9_excuses 369 = .ok (.aload_n 0, 1)) ∧ (decode cX9_excuses 370 = .ok (.getfield 69, 3)) ∧ (decode cX9_excuses 373 = .ok (.bipush 6, 2)) ∧ (decode cX9_excuses 375 = .ok (.iload 8, 2)) := by decide +kernel
theorem dX9_excuses_367 : decode cX9_excuses 367 = .ok (.iaload, 1) := dX9_excuses_k139.1
theorem dX9_excuses_368 : decode cX9_excuses 368 = .ok (.iadd, 1) := dX9_excuses_k139.2.1
theorem dX9_excuses_369 : decode cX9_excuses 369 = .ok (.aload_n 0, 1) := dX9_excuses_k139.2.2.1
theorem dX9_excuses_370 : decode cX9_excuses 370 = .ok (.getfield 69, 3) := dX9_excuses_k139.2.2.2.1
theorem dX9_excuses_373 : decode cX9_excuses 373 = .ok (.bipush 6, 2) := dX9_excuses_k139.2.2.2.2.1
theorem dX9_excuses_375 : decode cX9_excuses 375 = .ok (.iload 8, 2) := dX9_excuses_k139.2.2.2.2.2
set_option maxRecDepth 100000 in
theorem dX9_excuses_k140 : (decode cX9_excuses 377 = .ok (.imul, 1)) ∧ (decode cX9_excuses 378 = .ok (.iload 7, 2)) ∧ (decode cX9_excuses 380 = .ok (.iadd, 1)) ∧ (decode cX9_excuses 381 = .ok (.iaload, 1)) ∧ (decode cX9_excuses 382 = .ok (.if_icmp .eq 9, 3)) ∧ (decode cX9_excuses 385 = .ok (.iinc 9 1, 3)) := by decide +kernel
theorem dX9_excuses_377 : decode cX9_excuses 377 = .ok (.imul, 1) := dX9_excuses_k140.1
theorem dX9_excuses_378 : decode cX9_excuses 378 = .ok (.iload 7, 2) := dX9_excuses_k140.2.1
theorem dX9_excuses_380 : decode cX9_excuses 380 = .ok (.iadd, 1) := dX9_excuses_k140.2.2.1
theorem dX9_excuses_381 : decode cX9_excuses 381 = .ok (.iaload, 1) := dX9_excuses_k140.2.2.2.1
theorem dX9_excuses_382 : decode cX9_excuses 382 = .ok (.if_icmp .eq 9, 3) := dX9_excuses_k140.2.2.2.2.1
theorem dX9_excuses_385 : decode cX9_excuses 385 = .ok (.iinc 9 1, 3) := dX9_excuses_k140.2.2.2.2.2
set_option maxRecDepth 100000 in
theorem dX9_excuses_k141 : (decode cX9_excuses 388 = .ok (.goto (-60), 3)) ∧ (decode cX9_excuses 391 = .ok (.iload 9, 2)) ∧ (decode cX9_excuses 393 = .ok (.istore 7, 2)) ∧ (decode cX9_excuses 395 = .ok (.iinc 8 (-1), 3)) ∧ (decode cX9_excuses 398 = .ok (.goto (-82), 3)) ∧ (decode cX9_excuses 401 = .ok (.iload 7, 2)) := by decide +kernel
theorem dX9_excuses_388 : decode cX9_excuses 388 = .ok (.goto (-60), 3) := dX9_excuses_k141.1
theorem dX9_excuses_391 : decode cX9_excuses 391 = .ok (.iload 9, 2) := dX9_excuses_k141.2.1
theorem dX9_excuses_393 : decode cX9_excuses 393 = .ok (.istore 7, 2) := dX9_excuses_k141.2.2.1
theorem dX9_excuses_395 : decode cX9_excuses 395 = .ok (.iinc 8 (-1), 3) := dX9_excuses_k141.2.2.2.1
theorem dX9_excuses_398 : decode cX9_excuses 398 = .ok (.goto (-82), 3) := dX9_excuses_k141.2.2.2.2.1
theorem dX9_excuses_401 : decode cX9_excuses 401 = .ok (.iload 7, 2) := dX9_excuses_k141.2.2.2.2.2
theorem dX9_excuses_403 : decode cX9_excuses 403 = .ok (.ireturn, 1) := by decide +kernel
set_option maxRecDepth 100000 in
theorem dX9_seen_k142 : (decode cX9_seen 0 = .ok (.iload_n 1, 1)) ∧ (decode cX9_seen 1 = .ok (.iconst 0, 1)) ∧ (decode cX9_seen 2 = .ok (.bipush 7, 2)) ∧ (decode cX9_seen 4 = .ok (.invokestatic 94, 3)) ∧ (decode cX9_seen 7 = .ok (.ifCond .eq 11, 3)) ∧ (decode cX9_seen 10 = .ok (.aload_n 0, 1)) := by decide +kernel
theorem dX9_seen_0 : decode cX9_seen 0 = .ok (.iload_n 1, 1) := dX9_seen_k142.1
theorem dX9_seen_1 : decode cX9_seen 1 = .ok (.iconst 0, 1) := dX9_seen_k142.2.1
theorem dX9_seen_2 : decode cX9_seen 2 = .ok (.bipush 7, 2) := dX9_seen_k142.2.2.1
theorem dX9_seen_4 : decode cX9_seen 4 = .ok (.invokestatic 94, 3) := dX9_seen_k142.2.2.2.1
theorem dX9_seen_7 : decode cX9_seen 7 = .ok (.ifCond .eq 11, 3) := dX9_seen_k142.2.2.2.2.1
theorem dX9_seen_10 : decode cX9_seen 10 = .ok (.aload_n 0, 1) := dX9_seen_k142.2.2.2.2.2
set_option maxRecDepth 100000 in
theorem dX9_seen_k143 : (decode cX9_seen 11 = .ok (.iload_n 2, 1)) ∧ (decode cX9_seen 12 = .ok (.invokevirtual 102, 3)) ∧ (decode cX9_seen 15 = .ok (.ifCond .ne 5, 3)) ∧ (decode cX9_seen 18 = .ok (.iconst (-1), 1)) ∧ (decode cX9_seen 19 = .ok (.ireturn, 1)) ∧ (decode cX9_seen 20 = .ok (.aload_n 0, 1)) := by decide +kernel
theorem dX9_seen_11 : decode cX9_seen 11 = .ok (.iload_n 2, 1) := dX9_seen_k143.1
theorem dX9_seen_12 : decode cX9_seen 12 = .ok (.invokevirtual 102, 3) := dX9_seen_k143.2.1
theorem dX9_seen_15 : decode cX9_seen 15 = .ok (.ifCond .ne 5, 3) := dX9_seen_k143.2.2.1
theorem dX9_seen_18 : decode cX9_seen 18 = .ok (.iconst (-1), 1) := dX9_seen_k143.2.2.2.1
theorem dX9_seen_19 : decode cX9_seen 19 = .ok (.ireturn, 1) := dX9_seen_k143.2.2.2.2.1
theorem dX9_seen_20 : decode cX9_seen 20 = .ok (.aload_n 0, 1) := dX9_seen_k143.2.2.2.2.2
set_option maxRecDepth 100000 in
theorem dX9_seen_k144 : (decode cX9_seen 21 = .ok (.getfield 91, 3)) ∧ (decode cX9_seen 24 = .ok (.bipush 6, 2)) ∧ (decode cX9_seen 26 = .ok (.if_icmp .ne 6, 3)) ∧ (decode cX9_seen 29 = .ok (.bipush (-4), 2)) ∧ (decode cX9_seen 31 = .ok (.ireturn, 1)) ∧ (decode cX9_seen 32 = .ok (.aload_n 0, 1)) := by decide +kernel
theorem dX9_seen_21 : decode cX9_seen 21 = .ok (.getfield 91, 3) := dX9_seen_k144.1
theorem dX9_seen_24 : decode cX9_seen 24 = .ok (.bipush 6, 2) := dX9_seen_k144.2.1
theorem dX9_seen_26 : decode cX9_seen 26 = .ok (.if_icmp .ne 6, 3) := dX9_seen_k144.2.2.1
theorem dX9_seen_29 : decode cX9_seen 29 = .ok (.bipush (-4), 2) := dX9_seen_k144.2.2.2.1
theorem dX9_seen_31 : decode cX9_seen 31 = .ok (.ireturn, 1) := dX9_seen_k144.2.2.2.2.1
theorem dX9_seen_32 : decode cX9_seen 32 = .ok (.aload_n 0, 1) := dX9_seen_k144.2.2.2.2.2
set_option maxRecDepth 100000 in
theorem dX9_seen_k145 : (decode cX9_seen 33 = .ok (.getfield 41, 3)) ∧ (decode cX9_seen 36 = .ok (.iconst 2, 1)) ∧ (decode cX9_seen 37 = .ok (.aload_n 0, 1)) ∧ (decode cX9_seen 38 = .ok (.getfield 91, 3)) ∧ (decode cX9_seen 41 = .ok (.imul, 1)) ∧ (decode cX9_seen 42 = .ok (.iload_n 1, 1)) := by decide +kernel
theorem dX9_seen_33 : decode cX9_seen 33 = .ok (.getfield 41, 3) := dX9_seen_k145.1
theorem dX9_seen_36 : decode cX9_seen 36 = .ok (.iconst 2, 1) := dX9_seen_k145.2.1
theorem dX9_seen_37 : decode cX9_seen 37 = .ok (.aload_n 0, 1) := dX9_seen_k145.2.2.1
theorem dX9_seen_38 : decode cX9_seen 38 = .ok (.getfield 91, 3) := dX9_seen_k145.2.2.2.1
theorem dX9_seen_41 : decode cX9_seen 41 = .ok (.imul, 1) := dX9_seen_k145.2.2.2.2.1
theorem dX9_seen_42 : decode cX9_seen 42 = .ok (.iload_n 1, 1) := dX9_seen_k145.2.2.2.2.2
set_option maxRecDepth 100000 in
theorem dX9_seen_k146 : (decode cX9_seen 43 = .ok (.iastore, 1)) ∧ (decode cX9_seen 44 = .ok (.aload_n 0, 1)) ∧ (decode cX9_seen 45 = .ok (.getfield 41, 3)) ∧ (decode cX9_seen 48 = .ok (.iconst 2, 1)) ∧ (decode cX9_seen 49 = .ok (.aload_n 0, 1)) ∧ (decode cX9_seen 50 = .ok (.getfield 91, 3)) := by decide +kernel
theorem dX9_seen_43 : decode cX9_seen 43 = .ok (.iastore, 1) := dX9_seen_k146.1
theorem dX9_seen_44 : decode cX9_seen 44 = .ok (.aload_n 0, 1) := dX9_seen_k146.2.1
theorem dX9_seen_45 : decode cX9_seen 45 = .ok (.getfield 41, 3) := dX9_seen_k146.2.2.1
theorem dX9_seen_48 : decode cX9_seen 48 = .ok (.iconst 2, 1) := dX9_seen_k146.2.2.2.1
theorem dX9_seen_49 : decode cX9_seen 49 = .ok (.aload_n 0, 1) := dX9_seen_k146.2.2.2.2.1
theorem dX9_seen_50 : decode cX9_seen 50 = .ok (.getfield 91, 3) := dX9_seen_k146.2.2.2.2.2
set_option maxRecDepth 100000 in
theorem dX9_seen_k147 : (decode cX9_seen 53 = .ok (.imul, 1)) ∧ (decode cX9_seen 54 = .ok (.iconst 1, 1)) ∧ (decode cX9_seen 55 = .ok (.iadd, 1)) ∧ (decode cX9_seen 56 = .ok (.iload_n 2, 1)) ∧ (decode cX9_seen 57 = .ok (.iastore, 1)) ∧ (decode cX9_seen 58 = .ok (.aload_n 0, 1)) := by decide +kernel
theorem dX9_seen_53 : decode cX9_seen 53 = .ok (.imul, 1) := dX9_seen_k147.1
theorem dX9_seen_54 : decode cX9_seen 54 = .ok (.iconst 1, 1) := dX9_seen_k147.2.1
theorem dX9_seen_55 : decode cX9_seen 55 = .ok (.iadd, 1) := dX9_seen_k147.2.2.1
theorem dX9_seen_56 : decode cX9_seen 56 = .ok (.iload_n 2, 1) := dX9_seen_k147.2.2.2.1
theorem dX9_seen_57 : decode cX9_seen 57 = .ok (.iastore, 1) := dX9_seen_k147.2.2.2.2.1
theorem dX9_seen_58 : decode cX9_seen 58 = .ok (.aload_n 0, 1) := dX9_seen_k147.2.2.2.2.2
set_option maxRecDepth 100000 in
theorem dX9_seen_k148 : (decode cX9_seen 59 = .ok (.dup, 1)) ∧ (decode cX9_seen 60 = .ok (.getfield 91, 3)) ∧ (decode cX9_seen 63 = .ok (.iconst 1, 1)) ∧ (decode cX9_seen 64 = .ok (.iadd, 1)) ∧ (decode cX9_seen 65 = .ok (.putfield 91, 3)) ∧ (decode cX9_seen 68 = .ok (.aload_n 0, 1)) := by decide +kernel
theorem dX9_seen_59 : decode cX9_seen 59 = .ok (.dup, 1) := dX9_seen_k148.1
theorem dX9_seen_60 : decode cX9_seen 60 = .ok (.getfield 91, 3) := dX9_seen_k148.2.1
theorem dX9_seen_63 : decode cX9_seen 63 = .ok (.iconst 1, 1) := dX9_seen_k148.2.2.1
theorem dX9_seen_64 : decode cX9_seen 64 = .ok (.iadd, 1) := dX9_seen_k148.2.2.2.1
theorem dX9_seen_65 : decode cX9_seen 65 = .ok (.putfield 91, 3) := dX9_seen_k148.2.2.2.2.1
theorem dX9_seen_68 : decode cX9_seen 68 = .ok (.aload_n 0, 1) := dX9_seen_k148.2.2.2.2.2
set_option maxRecDepth 100000 in
theorem dX9_seen_k149 : (decode cX9_seen 69 = .ok (.getfield 91, 3)) ∧ (decode cX9_seen 72 = .ok (.ireturn, 1)) := by decide +kernel
theorem dX9_seen_69 : decode cX9_seen 69 = .ok (.getfield 91, 3) := dX9_seen_k149.1
theorem dX9_seen_72 : decode cX9_seen 72 = .ok (.ireturn, 1) := dX9_seen_k149.2
set_option maxRecDepth 100000 in
theorem dX9_forget_k150 : (decode cX9_forget 0 = .ok (.aload_n 0, 1)) ∧ (decode cX9_forget 1 = .ok (.getfield 91, 3)) ∧ (decode cX9_forget 4 = .ok (.istore_n 1, 1)) ∧ (decode cX9_forget 5 = .ok (.aload_n 0, 1)) ∧ (decode cX9_forget 6 = .ok (.iconst 0, 1)) ∧ (decode cX9_forget 7 = .ok (.putfield 91, 3)) := by decide +kernel
theorem dX9_forget_0 : decode cX9_forget 0 = .ok (.aload_n 0, 1) := dX9_forget_k150.1
theorem dX9_forget_1 : decode cX9_forget 1 = .ok (.getfield 91, 3) := dX9_forget_k150.2.1
theorem dX9_forget_4 : decode cX9_forget 4 = .ok (.istore_n 1, 1) := dX9_forget_k150.2.2.1
theorem dX9_forget_5 : decode cX9_forget 5 = .ok (.aload_n 0, 1) := dX9_forget_k150.2.2.2.1
theorem dX9_forget_6 : decode cX9_forget 6 = .ok (.iconst 0, 1) := dX9_forget_k150.2.2.2.2.1
theorem dX9_forget_7 : decode cX9_forget 7 = .ok (.putfield 91, 3) := dX9_forget_k150.2.2.2.2.2
set_option maxRecDepth 100000 in
theorem dX9_forget_k151 : (decode cX9_forget 10 = .ok (.iload_n 1, 1)) ∧ (decode cX9_forget 11 = .ok (.ireturn, 1)) := by decide +kernel
theorem dX9_forget_10 : decode cX9_forget 10 = .ok (.iload_n 1, 1) := dX9_forget_k151.1
theorem dX9_forget_11 : decode cX9_forget 11 = .ok (.ireturn, 1) := dX9_forget_k151.2
set_option maxRecDepth 100000 in
theorem dX9_tastes_k152 : (decode cX9_tastes 0 = .ok (.aload_n 0, 1)) ∧ (decode cX9_tastes 1 = .ok (.iload_n 1, 1)) ∧ (decode cX9_tastes 2 = .ok (.invokevirtual 121, 3)) ∧ (decode cX9_tastes 5 = .ok (.ifCond .ne 5, 3)) ∧ (decode cX9_tastes 8 = .ok (.iconst (-1), 1)) ∧ (decode cX9_tastes 9 = .ok (.ireturn, 1)) := by decide +kernel
theorem dX9_tastes_0 : decode cX9_tastes 0 = .ok (.aload_n 0, 1) := dX9_tastes_k152.1
theorem dX9_tastes_1 : decode cX9_tastes 1 = .ok (.iload_n 1, 1) := dX9_tastes_k152.2.1
theorem dX9_tastes_2 : decode cX9_tastes 2 = .ok (.invokevirtual 121, 3) := dX9_tastes_k152.2.2.1
theorem dX9_tastes_5 : decode cX9_tastes 5 = .ok (.ifCond .ne 5, 3) := dX9_tastes_k152.2.2.2.1
theorem dX9_tastes_8 : decode cX9_tastes 8 = .ok (.iconst (-1), 1) := dX9_tastes_k152.2.2.2.2.1
theorem dX9_tastes_9 : decode cX9_tastes 9 = .ok (.ireturn, 1) := dX9_tastes_k152.2.2.2.2.2
set_option maxRecDepth 100000 in
theorem dX9_tastes_k153 : (decode cX9_tastes 10 = .ok (.iload_n 2, 1)) ∧ (decode cX9_tastes 11 = .ok (.iconst 0, 1)) ∧ (decode cX9_tastes 12 = .ok (.iconst 4, 1)) ∧ (decode cX9_tastes 13 = .ok (.invokestatic 94, 3)) ∧ (decode cX9_tastes 16 = .ok (.ifCond .ne 6, 3)) ∧ (decode cX9_tastes 19 = .ok (.bipush (-2), 2)) := by decide +kernel
theorem dX9_tastes_10 : decode cX9_tastes 10 = .ok (.iload_n 2, 1) := dX9_tastes_k153.1
theorem dX9_tastes_11 : decode cX9_tastes 11 = .ok (.iconst 0, 1) := dX9_tastes_k153.2.1
theorem dX9_tastes_12 : decode cX9_tastes 12 = .ok (.iconst 4, 1) := dX9_tastes_k153.2.2.1
theorem dX9_tastes_13 : decode cX9_tastes 13 = .ok (.invokestatic 94, 3) := dX9_tastes_k153.2.2.2.1
theorem dX9_tastes_16 : decode cX9_tastes 16 = .ok (.ifCond .ne 6, 3) := dX9_tastes_k153.2.2.2.2.1
theorem dX9_tastes_19 : decode cX9_tastes 19 = .ok (.bipush (-2), 2) := dX9_tastes_k153.2.2.2.2.2
set_option maxRecDepth 100000 in
theorem dX9_tastes_k154 : (decode cX9_tastes 21 = .ok (.ireturn, 1)) ∧ (decode cX9_tastes 22 = .ok (.aload_n 0, 1)) ∧ (decode cX9_tastes 23 = .ok (.invokevirtual 157, 3)) ∧ (decode cX9_tastes 26 = .ok (.aload_n 0, 1)) ∧ (decode cX9_tastes 27 = .ok (.invokevirtual 145, 3)) ∧ (decode cX9_tastes 30 = .ok (.iconst 0, 1)) := by decide +kernel
theorem dX9_tastes_21 : decode cX9_tastes 21 = .ok (.ireturn, 1) := dX9_tastes_k154.1
theorem dX9_tastes_22 : decode cX9_tastes 22 = .ok (.aload_n 0, 1) := dX9_tastes_k154.2.1
theorem dX9_tastes_23 : decode cX9_tastes 23 = .ok (.invokevirtual 157, 3) := dX9_tastes_k154.2.2.1
theorem dX9_tastes_26 : decode cX9_tastes 26 = .ok (.aload_n 0, 1) := dX9_tastes_k154.2.2.2.1
theorem dX9_tastes_27 : decode cX9_tastes 27 = .ok (.invokevirtual 145, 3) := dX9_tastes_k154.2.2.2.2.1
theorem dX9_tastes_30 : decode cX9_tastes 30 = .ok (.iconst 0, 1) := dX9_tastes_k154.2.2.2.2.2
set_option maxRecDepth 100000 in
theorem dX9_tastes_k155 : (decode cX9_tastes 31 = .ok (.istore_n 3, 1)) ∧ (decode cX9_tastes 32 = .ok (.bipush (-3), 2)) ∧ (decode cX9_tastes 34 = .ok (.istore 4, 2)) ∧ (decode cX9_tastes 36 = .ok (.iload 4, 2)) ∧ (decode cX9_tastes 38 = .ok (.iconst 4, 1)) ∧ (decode cX9_tastes 39 = .ok (.if_icmp .ge 95, 3)) := by decide +kernel
theorem dX9_tastes_31 : decode cX9_tastes 31 = .ok (.istore_n 3, 1) := dX9_tastes_k155.1
theorem dX9_tastes_32 : decode cX9_tastes 32 = .ok (.bipush (-3), 2) := dX9_tastes_k155.2.1
theorem dX9_tastes_34 : decode cX9_tastes 34 = .ok (.istore 4, 2) := dX9_tastes_k155.2.2.1
theorem dX9_tastes_36 : decode cX9_tastes 36 = .ok (.iload 4, 2) := dX9_tastes_k155.2.2.2.1
theorem dX9_tastes_38 : decode cX9_tastes 38 = .ok (.iconst 4, 1) := dX9_tastes_k155.2.2.2.2.1
theorem dX9_tastes_39 : decode cX9_tastes 39 = .ok (.if_icmp .ge 95, 3) := dX9_tastes_k155.2.2.2.2.2
set_option maxRecDepth 100000 in
theorem dX9_tastes_k156 : (decode cX9_tastes 42 = .ok (.iconst 1, 1)) ∧ (decode cX9_tastes 43 = .ok (.istore 5, 2)) ∧ (decode cX9_tastes 45 = .ok (.iconst 0, 1)) ∧ (decode cX9_tastes 46 = .ok (.istore 6, 2)) ∧ (decode cX9_tastes 48 = .ok (.iload 6, 2)) ∧ (decode cX9_tastes 50 = .ok (.aload_n 0, 1)) := by decide +kernel
theorem dX9_tastes_42 : decode cX9_tastes 42 = .ok (.iconst 1, 1) := dX9_tastes_k156.1
theorem dX9_tastes_43 : decode cX9_tastes 43 = .ok (.istore 5, 2) := dX9_tastes_k156.2.1
theorem dX9_tastes_45 : decode cX9_tastes 45 = .ok (.iconst 0, 1) := dX9_tastes_k156.2.2.1
theorem dX9_tastes_46 : decode cX9_tastes 46 = .ok (.istore 6, 2) := dX9_tastes_k156.2.2.2.1
theorem dX9_tastes_48 : decode cX9_tastes 48 = .ok (.iload 6, 2) := dX9_tastes_k156.2.2.2.2.1
theorem dX9_tastes_50 : decode cX9_tastes 50 = .ok (.aload_n 0, 1) := dX9_tastes_k156.2.2.2.2.2
set_option maxRecDepth 100000 in
theorem dX9_tastes_k157 : (decode cX9_tastes 51 = .ok (.getfield 91, 3)) ∧ (decode cX9_tastes 54 = .ok (.if_icmp .ge 56, 3)) ∧ (decode cX9_tastes 57 = .ok (.iload 5, 2)) ∧ (decode cX9_tastes 59 = .ok (.ifCond .eq 42, 3)) ∧ (decode cX9_tastes 62 = .ok (.aload_n 0, 1)) ∧ (decode cX9_tastes 63 = .ok (.getfield 41, 3)) := by decide +kernel
theorem dX9_tastes_51 : decode cX9_tastes 51 = .ok (.getfield 91, 3) := dX9_tastes_k157.1
theorem dX9_tastes_54 : decode cX9_tastes 54 = .ok (.if_icmp .ge 56, 3) := dX9_tastes_k157.2.1
theorem dX9_tastes_57 : decode cX9_tastes 57 = .ok (.iload 5, 2) := dX9_tastes_k157.2.2.1
theorem dX9_tastes_59 : decode cX9_tastes 59 = .ok (.ifCond .eq 42, 3) := dX9_tastes_k157.2.2.2.1
theorem dX9_tastes_62 : decode cX9_tastes 62 = .ok (.aload_n 0, 1) := dX9_tastes_k157.2.2.2.2.1
theorem dX9_tastes_63 : decode cX9_tastes 63 = .ok (.getfield 41, 3) := dX9_tastes_k157.2.2.2.2.2
set_option maxRecDepth 100000 in
theorem dX9_tastes_k158 : (decode cX9_tastes 66 = .ok (.iconst 2, 1)) ∧ (decode cX9_tastes 67 = .ok (.iload 6, 2)) ∧ (decode cX9_tastes 69 = .ok (.imul, 1)) ∧ (decode cX9_tastes 70 = .ok (.iaload, 1)) ∧ (decode cX9_tastes 71 = .ok (.iload_n 1, 1)) ∧ (decode cX9_tastes 72 = .ok (.if_icmp .ne 25, 3)) := by decide +kernel
theorem dX9_tastes_66 : decode cX9_tastes 66 = .ok (.iconst 2, 1) := dX9_tastes_k158.1
theorem dX9_tastes_67 : decode cX9_tastes 67 = .ok (.iload 6, 2) := dX9_tastes_k158.2.1
theorem dX9_tastes_69 : decode cX9_tastes 69 = .ok (.imul, 1) := dX9_tastes_k158.2.2.1
theorem dX9_tastes_70 : decode cX9_tastes 70 = .ok (.iaload, 1) := dX9_tastes_k158.2.2.2.1
theorem dX9_tastes_71 : decode cX9_tastes 71 = .ok (.iload_n 1, 1) := dX9_tastes_k158.2.2.2.2.1
theorem dX9_tastes_72 : decode cX9_tastes 72 = .ok (.if_icmp .ne 25, 3) := dX9_tastes_k158.2.2.2.2.2
set_option maxRecDepth 100000 in
theorem dX9_tastes_k159 : (decode cX9_tastes 75 = .ok (.aload_n 0, 1)) ∧ (decode cX9_tastes 76 = .ok (.iload_n 1, 1)) ∧ (decode cX9_tastes 77 = .ok (.iload_n 2, 1)) ∧ (decode cX9_tastes 78 = .ok (.iload 4, 2)) ∧ (decode cX9_tastes 80 = .ok (.invokevirtual 148, 3)) ∧ (decode cX9_tastes 83 = .ok (.aload_n 0, 1)) := by decide +kernel
theorem dX9_tastes_75 : decode cX9_tastes 75 = .ok (.aload_n 0, 1) := dX9_tastes_k159.1
theorem dX9_tastes_76 : decode cX9_tastes 76 = .ok (.iload_n 1, 1) := dX9_tastes_k159.2.1
theorem dX9_tastes_77 : decode cX9_tastes 77 = .ok (.iload_n 2, 1) := dX9_tastes_k159.2.2.1
theorem dX9_tastes_78 : decode cX9_tastes 78 = .ok (.iload 4, 2) := dX9_tastes_k159.2.2.2.1
theorem dX9_tastes_80 : decode cX9_tastes 80 = .ok (.invokevirtual 148, 3) := dX9_tastes_k159.2.2.2.2.1
theorem dX9_tastes_83 : decode cX9_tastes 83 = .ok (.aload_n 0, 1) := dX9_tastes_k159.2.2.2.2.2
set_option maxRecDepth 100000 in
theorem dX9_tastes_k160 : (decode cX9_tastes 84 = .ok (.getfield 41, 3)) ∧ (decode cX9_tastes 87 = .ok (.iconst 2, 1)) ∧ (decode cX9_tastes 88 = .ok (.iload 6, 2)) ∧ (decode cX9_tastes 90 = .ok (.imul, 1)) ∧ (decode cX9_tastes 91 = .ok (.iconst 1, 1)) ∧ (decode cX9_tastes 92 = .ok (.iadd, 1)) := by decide +kernel
theorem dX9_tastes_84 : decode cX9_tastes 84 = .ok (.getfield 41, 3) := dX9_tastes_k160.1
theorem dX9_tastes_87 : decode cX9_tastes 87 = .ok (.iconst 2, 1) := dX9_tastes_k160.2.1
theorem dX9_tastes_88 : decode cX9_tastes 88 = .ok (.iload 6, 2) := dX9_tastes_k160.2.2.1
theorem dX9_tastes_90 : decode cX9_tastes 90 = .ok (.imul, 1) := dX9_tastes_k160.2.2.2.1
theorem dX9_tastes_91 : decode cX9_tastes 91 = .ok (.iconst 1, 1) := dX9_tastes_k160.2.2.2.2.1
theorem dX9_tastes_92 : decode cX9_tastes 92 = .ok (.iadd, 1) := dX9_tastes_k160.2.2.2.2.2
set_option maxRecDepth 100000 in
theorem dX9_tastes_k161 : (decode cX9_tastes 93 = .ok (.iaload, 1)) ∧ (decode cX9_tastes 94 = .ok (.if_icmp .ne 7, 3)) ∧ (decode cX9_tastes 97 = .ok (.iconst 1, 1)) ∧ (decode cX9_tastes 98 = .ok (.goto 4, 3)) ∧ (decode cX9_tastes 101 = .ok (.iconst 0, 1)) ∧ (decode cX9_tastes 102 = .ok (.istore 5, 2)) := by decide +kernel
theorem dX9_tastes_93 : decode cX9_tastes 93 = .ok (.iaload, 1) := dX9_tastes_k161.1
theorem dX9_tastes_94 : decode cX9_tastes 94 = .ok (.if_icmp .ne 7, 3) := dX9_tastes_k161.2.1
theorem dX9_tastes_97 : decode cX9_tastes 97 = .ok (.iconst 1, 1) := dX9_tastes_k161.2.2.1
theorem dX9_tastes_98 : decode cX9_tastes 98 = .ok (.goto 4, 3) := dX9_tastes_k161.2.2.2.1
theorem dX9_tastes_101 : decode cX9_tastes 101 = .ok (.iconst 0, 1) := dX9_tastes_k161.2.2.2.2.1
theorem dX9_tastes_102 : decode cX9_tastes 102 = .ok (.istore 5, 2) := dX9_tastes_k161.2.2.2.2.2
set_option maxRecDepth 100000 in
theorem dX9_tastes_k162 : (decode cX9_tastes 104 = .ok (.iinc 6 1, 3)) ∧ (decode cX9_tastes 107 = .ok (.goto (-59), 3)) ∧ (decode cX9_tastes 110 = .ok (.iload_n 3, 1)) ∧ (decode cX9_tastes 111 = .ok (.iload 5, 2)) ∧ (decode cX9_tastes 113 = .ok (.ifCond .eq 12, 3)) ∧ (decode cX9_tastes 116 = .ok (.iconst 1, 1)) := by decide +kernel
theorem dX9_tastes_104 : decode cX9_tastes 104 = .ok (.iinc 6 1, 3) := dX9_tastes_k162.1
theorem dX9_tastes_107 : decode cX9_tastes 107 = .ok (.goto (-59), 3) := dX9_tastes_k162.2.1
theorem dX9_tastes_110 : decode cX9_tastes 110 = .ok (.iload_n 3, 1) := dX9_tastes_k162.2.2.1
theorem dX9_tastes_111 : decode cX9_tastes 111 = .ok (.iload 5, 2) := dX9_tastes_k162.2.2.2.1
theorem dX9_tastes_113 : decode cX9_tastes 113 = .ok (.ifCond .eq 12, 3) := dX9_tastes_k162.2.2.2.2.1
theorem dX9_tastes_116 : decode cX9_tastes 116 = .ok (.iconst 1, 1) := dX9_tastes_k162.2.2.2.2.2
set_option maxRecDepth 100000 in
theorem dX9_tastes_k163 : (decode cX9_tastes 117 = .ok (.iload 4, 2)) ∧ (decode cX9_tastes 119 = .ok (.iconst 3, 1)) ∧ (decode cX9_tastes 120 = .ok (.iadd, 1)) ∧ (decode cX9_tastes 121 = .ok (.ishl, 1)) ∧ (decode cX9_tastes 122 = .ok (.goto 4, 3)) ∧ (decode cX9_tastes 125 = .ok (.iconst 0, 1)) := by decide +kernel
theorem dX9_tastes_117 : decode cX9_tastes 117 = .ok (.iload 4, 2) := dX9_tastes_k163.1
theorem dX9_tastes_119 : decode cX9_tastes 119 = .ok (.iconst 3, 1) := dX9_tastes_k163.2.1
theorem dX9_tastes_120 : decode cX9_tastes 120 = .ok (.iadd, 1) := dX9_tastes_k163.2.2.1
theorem dX9_tastes_121 : decode cX9_tastes 121 = .ok (.ishl, 1) := dX9_tastes_k163.2.2.2.1
theorem dX9_tastes_122 : decode cX9_tastes 122 = .ok (.goto 4, 3) := dX9_tastes_k163.2.2.2.2.1
theorem dX9_tastes_125 : decode cX9_tastes 125 = .ok (.iconst 0, 1) := dX9_tastes_k163.2.2.2.2.2
set_option maxRecDepth 100000 in
theorem dX9_tastes_k164 : (decode cX9_tastes 126 = .ok (.ior, 1)) ∧ (decode cX9_tastes 127 = .ok (.istore_n 3, 1)) ∧ (decode cX9_tastes 128 = .ok (.iinc 4 1, 3)) ∧ (decode cX9_tastes 131 = .ok (.goto (-95), 3)) ∧ (decode cX9_tastes 134 = .ok (.iload_n 3, 1)) ∧ (decode cX9_tastes 135 = .ok (.ireturn, 1)) := by decide +kernel
theorem dX9_tastes_126 : decode cX9_tastes 126 = .ok (.ior, 1) := dX9_tastes_k164.1
theorem dX9_tastes_127 : decode cX9_tastes 127 = .ok (.istore_n 3, 1) := dX9_tastes_k164.2.1
theorem dX9_tastes_128 : decode cX9_tastes 128 = .ok (.iinc 4 1, 3) := dX9_tastes_k164.2.2.1
theorem dX9_tastes_131 : decode cX9_tastes 131 = .ok (.goto (-95), 3) := dX9_tastes_k164.2.2.2.1
theorem dX9_tastes_134 : decode cX9_tastes 134 = .ok (.iload_n 3, 1) := dX9_tastes_k164.2.2.2.2.1
theorem dX9_tastes_135 : decode cX9_tastes 135 = .ok (.ireturn, 1) := dX9_tastes_k164.2.2.2.2.2
set_option maxRecDepth 100000 in
theorem dX9_drunk_k165 : (decode cX9_drunk 0 = .ok (.aload_n 0, 1)) ∧ (decode cX9_drunk 1 = .ok (.iload_n 1, 1)) ∧ (decode cX9_drunk 2 = .ok (.invokevirtual 121, 3)) ∧ (decode cX9_drunk 5 = .ok (.ifCond .eq 11, 3)) ∧ (decode cX9_drunk 8 = .ok (.aload_n 0, 1)) ∧ (decode cX9_drunk 9 = .ok (.iload_n 2, 1)) := by decide +kernel
theorem dX9_drunk_0 : decode cX9_drunk 0 = .ok (.aload_n 0, 1) := dX9_drunk_k165.1
theorem dX9_drunk_1 : decode cX9_drunk 1 = .ok (.iload_n 1, 1) := dX9_drunk_k165.2.1
theorem dX9_drunk_2 : decode cX9_drunk 2 = .ok (.invokevirtual 121, 3) := dX9_drunk_k165.2.2.1
theorem dX9_drunk_5 : decode cX9_drunk 5 = .ok (.ifCond .eq 11, 3) := dX9_drunk_k165.2.2.2.1
theorem dX9_drunk_8 : decode cX9_drunk 8 = .ok (.aload_n 0, 1) := dX9_drunk_k165.2.2.2.2.1
theorem dX9_drunk_9 : decode cX9_drunk 9 = .ok (.iload_n 2, 1) := dX9_drunk_k165.2.2.2.2.2
set_option maxRecDepth 100000 in
theorem dX9_drunk_k166 : (decode cX9_drunk 10 = .ok (.invokevirtual 102, 3)) ∧ (decode cX9_drunk 13 = .ok (.ifCond .ne 7, 3)) ∧ (decode cX9_drunk 16 = .ok (.ldc2_w 221, 3)) ∧ (decode cX9_drunk 19 = .ok (.lreturn, 1)) ∧ (decode cX9_drunk 20 = .ok (.iload_n 3, 1)) ∧ (decode cX9_drunk 21 = .ok (.iconst 0, 1)) := by decide +kernel
theorem dX9_drunk_10 : decode cX9_drunk 10 = .ok (.invokevirtual 102, 3) := dX9_drunk_k166.1
theorem dX9_drunk_13 : decode cX9_drunk 13 = .ok (.ifCond .ne 7, 3) := dX9_drunk_k166.2.1
theorem dX9_drunk_16 : decode cX9_drunk 16 = .ok (.ldc2_w 221, 3) := dX9_drunk_k166.2.2.1
theorem dX9_drunk_19 : decode cX9_drunk 19 = .ok (.lreturn, 1) := dX9_drunk_k166.2.2.2.1
theorem dX9_drunk_20 : decode cX9_drunk 20 = .ok (.iload_n 3, 1) := dX9_drunk_k166.2.2.2.2.1
theorem dX9_drunk_21 : decode cX9_drunk 21 = .ok (.iconst 0, 1) := dX9_drunk_k166.2.2.2.2.2
set_option maxRecDepth 100000 in
theorem dX9_drunk_k167 : (decode cX9_drunk 22 = .ok (.bipush 10, 2)) ∧ (decode cX9_drunk 24 = .ok (.invokestatic 94, 3)) ∧ (decode cX9_drunk 27 = .ok (.ifCond .eq 24, 3)) ∧ (decode cX9_drunk 30 = .ok (.iload 4, 2)) ∧ (decode cX9_drunk 32 = .ok (.iconst 0, 1)) ∧ (decode cX9_drunk 33 = .ok (.bipush 6, 2)) := by decide +kernel
theorem dX9_drunk_22 : decode cX9_drunk 22 = .ok (.bipush 10, 2) := dX9_drunk_k167.1
theorem dX9_drunk_24 : decode cX9_drunk 24 = .ok (.invokestatic 94, 3) := dX9_drunk_k167.2.1
theorem dX9_drunk_27 : decode cX9_drunk 27 = .ok (.ifCond .eq 24, 3) := dX9_drunk_k167.2.2.1
theorem dX9_drunk_30 : decode cX9_drunk 30 = .ok (.iload 4, 2) := dX9_drunk_k167.2.2.2.1
theorem dX9_drunk_32 : decode cX9_drunk 32 = .ok (.iconst 0, 1) := dX9_drunk_k167.2.2.2.2.1
theorem dX9_drunk_33 : decode cX9_drunk 33 = .ok (.bipush 6, 2) := dX9_drunk_k167.2.2.2.2.2
set_option maxRecDepth 100000 in
theorem dX9_drunk_k168 : (decode cX9_drunk 35 = .ok (.invokestatic 94, 3)) ∧ (decode cX9_drunk 38 = .ok (.ifCond .eq 13, 3)) ∧ (decode cX9_drunk 41 = .ok (.iload 5, 2)) ∧ (decode cX9_drunk 43 = .ok (.iconst 0, 1)) ∧ (decode cX9_drunk 44 = .ok (.iconst 1, 1)) ∧ (decode cX9_drunk 45 = .ok (.invokestatic 94, 3)) := by decide +kernel
theorem dX9_drunk_35 : decode cX9_drunk 35 = .ok (.invokestatic 94, 3) := dX9_drunk_k168.1
theorem dX9_drunk_38 : decode cX9_drunk 38 = .ok (.ifCond .eq 13, 3) := dX9_drunk_k168.2.1
theorem dX9_drunk_41 : decode cX9_drunk 41 = .ok (.iload 5, 2) := dX9_drunk_k168.2.2.1
theorem dX9_drunk_43 : decode cX9_drunk 43 = .ok (.iconst 0, 1) := dX9_drunk_k168.2.2.2.1
theorem dX9_drunk_44 : decode cX9_drunk 44 = .ok (.iconst 1, 1) := dX9_drunk_k168.2.2.2.2.1
theorem dX9_drunk_45 : decode cX9_drunk 45 = .ok (.invokestatic 94, 3) := dX9_drunk_k168.2.2.2.2.2
set_option maxRecDepth 100000 in
theorem dX9_drunk_k169 : (decode cX9_drunk 48 = .ok (.ifCond .ne 7, 3)) ∧ (decode cX9_drunk 51 = .ok (.ldc2_w 223, 3)) ∧ (decode cX9_drunk 54 = .ok (.lreturn, 1)) ∧ (decode cX9_drunk 55 = .ok (.iconst 0, 1)) ∧ (decode cX9_drunk 56 = .ok (.istore 6, 2)) ∧ (decode cX9_drunk 58 = .ok (.iload 6, 2)) := by decide +kernel
theorem dX9_drunk_48 : decode cX9_drunk 48 = .ok (.ifCond .ne 7, 3) := dX9_drunk_k169.1
theorem dX9_drunk_51 : decode cX9_drunk 51 = .ok (.ldc2_w 223, 3) := dX9_drunk_k169.2.1
theorem dX9_drunk_54 : decode cX9_drunk 54 = .ok (.lreturn, 1) := dX9_drunk_k169.2.2.1
theorem dX9_drunk_55 : decode cX9_drunk 55 = .ok (.iconst 0, 1) := dX9_drunk_k169.2.2.2.1
theorem dX9_drunk_56 : decode cX9_drunk 56 = .ok (.istore 6, 2) := dX9_drunk_k169.2.2.2.2.1
theorem dX9_drunk_58 : decode cX9_drunk 58 = .ok (.iload 6, 2) := dX9_drunk_k169.2.2.2.2.2
set_option maxRecDepth 100000 in
theorem dX9_drunk_k170 : (decode cX9_drunk 60 = .ok (.bipush 6, 2)) ∧ (decode cX9_drunk 62 = .ok (.if_icmp .ge 32, 3)) ∧ (decode cX9_drunk 65 = .ok (.aload_n 0, 1)) ∧ (decode cX9_drunk 66 = .ok (.getfield 72, 3)) ∧ (decode cX9_drunk 69 = .ok (.iload 6, 2)) ∧ (decode cX9_drunk 71 = .ok (.iload 6, 2)) := by decide +kernel
theorem dX9_drunk_60 : decode cX9_drunk 60 = .ok (.bipush 6, 2) := dX9_drunk_k170.1
theorem dX9_drunk_62 : decode cX9_drunk 62 = .ok (.if_icmp .ge 32, 3) := dX9_drunk_k170.2.1
theorem dX9_drunk_65 : decode cX9_drunk 65 = .ok (.aload_n 0, 1) := dX9_drunk_k170.2.2.1
theorem dX9_drunk_66 : decode cX9_drunk 66 = .ok (.getfield 72, 3) := dX9_drunk_k170.2.2.2.1
theorem dX9_drunk_69 : decode cX9_drunk 69 = .ok (.iload 6, 2) := dX9_drunk_k170.2.2.2.2.1
theorem dX9_drunk_71 : decode cX9_drunk 71 = .ok (.iload 6, 2) := dX9_drunk_k170.2.2.2.2.2
set_option maxRecDepth 100000 in
theorem dX9_drunk_k171 : (decode cX9_drunk 73 = .ok (.aload_n 0, 1)) ∧ (decode cX9_drunk 74 = .ok (.getfield 29, 3)) ∧ (decode cX9_drunk 77 = .ok (.iload_n 1, 1)) ∧ (decode cX9_drunk 78 = .ok (.iaload, 1)) ∧ (decode cX9_drunk 79 = .ok (.if_icmp .ne 7, 3)) ∧ (decode cX9_drunk 82 = .ok (.lconst 1, 1)) := by decide +kernel
theorem dX9_drunk_73 : decode cX9_drunk 73 = .ok (.aload_n 0, 1) := dX9_drunk_k171.1
theorem dX9_drunk_74 : decode cX9_drunk 74 = .ok (.getfield 29, 3) := dX9_drunk_k171.2.1
theorem dX9_drunk_77 : decode cX9_drunk 77 = .ok (.iload_n 1, 1) := dX9_drunk_k171.2.2.1
theorem dX9_drunk_78 : decode cX9_drunk 78 = .ok (.iaload, 1) := dX9_drunk_k171.2.2.2.1
theorem dX9_drunk_79 : decode cX9_drunk 79 = .ok (.if_icmp .ne 7, 3) := dX9_drunk_k171.2.2.2.2.1
theorem dX9_drunk_82 : decode cX9_drunk 82 = .ok (.lconst 1, 1) := dX9_drunk_k171.2.2.2.2.2
set_option maxRecDepth 100000 in
theorem dX9_drunk_k172 : (decode cX9_drunk 83 = .ok (.goto 4, 3)) ∧ (decode cX9_drunk 86 = .ok (.lconst 0, 1)) ∧ (decode cX9_drunk 87 = .ok (.lastore, 1)) ∧ (decode cX9_drunk 88 = .ok (.iinc 6 1, 3)) ∧ (decode cX9_drunk 91 = .ok (.goto (-33), 3)) ∧ (decode cX9_drunk 94 = .ok (.lconst 1, 1)) := by decide +kernel
theorem dX9_drunk_83 : decode cX9_drunk 83 = .ok (.goto 4, 3) := dX9_drunk_k172.1
theorem dX9_drunk_86 : decode cX9_drunk 86 = .ok (.lconst 0, 1) := dX9_drunk_k172.2.1
theorem dX9_drunk_87 : decode cX9_drunk 87 = .ok (.lastore, 1) := dX9_drunk_k172.2.2.1
theorem dX9_drunk_88 : decode cX9_drunk 88 = .ok (.iinc 6 1, 3) := dX9_drunk_k172.2.2.2.1
theorem dX9_drunk_91 : decode cX9_drunk 91 = .ok (.goto (-33), 3) := dX9_drunk_k172.2.2.2.2.1
theorem dX9_drunk_94 : decode cX9_drunk 94 = .ok (.lconst 1, 1) := dX9_drunk_k172.2.2.2.2.2
set_option maxRecDepth 100000 in
theorem dX9_drunk_k173 : (decode cX9_drunk 95 = .ok (.lstore 6, 2)) ∧ (decode cX9_drunk 97 = .ok (.iconst 0, 1)) ∧ (decode cX9_drunk 98 = .ok (.istore 8, 2)) ∧ (decode cX9_drunk 100 = .ok (.iload 8, 2)) ∧ (decode cX9_drunk 102 = .ok (.iload 4, 2)) ∧ (decode cX9_drunk 104 = .ok (.if_icmp .ge 237, 3)) := by decide +kernel
theorem dX9_drunk_95 : decode cX9_drunk 95 = .ok (.lstore 6, 2) := dX9_drunk_k173.1
theorem dX9_drunk_97 : decode cX9_drunk 97 = .ok (.iconst 0, 1) := dX9_drunk_k173.2.1
theorem dX9_drunk_98 : decode cX9_drunk 98 = .ok (.istore 8, 2) := dX9_drunk_k173.2.2.1
theorem dX9_drunk_100 : decode cX9_drunk 100 = .ok (.iload 8, 2) := dX9_drunk_k173.2.2.2.1
theorem dX9_drunk_102 : decode cX9_drunk 102 = .ok (.iload 4, 2) := dX9_drunk_k173.2.2.2.2.1
theorem dX9_drunk_104 : decode cX9_drunk 104 = .ok (.if_icmp .ge 237, 3) := dX9_drunk_k173.2.2.2.2.2
set_option maxRecDepth 100000 in
theorem dX9_drunk_k174 : (decode cX9_drunk 107 = .ok (.iconst 0, 1)) ∧ (decode cX9_drunk 108 = .ok (.istore 9, 2)) ∧ (decode cX9_drunk 110 = .ok (.iload 9, 2)) ∧ (decode cX9_drunk 112 = .ok (.bipush 6, 2)) ∧ (decode cX9_drunk 114 = .ok (.if_icmp .ge 17, 3)) ∧ (decode cX9_drunk 117 = .ok (.aload_n 0, 1)) := by decide +kernel
theorem dX9_drunk_107 : decode cX9_drunk 107 = .ok (.iconst 0, 1) := dX9_drunk_k174.1
theorem dX9_drunk_108 : decode cX9_drunk 108 = .ok (.istore 9, 2) := dX9_drunk_k174.2.1
theorem dX9_drunk_110 : decode cX9_drunk 110 = .ok (.iload 9, 2) := dX9_drunk_k174.2.2.1
theorem dX9_drunk_112 : decode cX9_drunk 112 = .ok (.bipush 6, 2) := dX9_drunk_k174.2.2.2.1
theorem dX9_drunk_114 : decode cX9_drunk 114 = .ok (.if_icmp .ge 17, 3) := dX9_drunk_k174.2.2.2.2.1
theorem dX9_drunk_117 : decode cX9_drunk 117 = .ok (.aload_n 0, 1) := dX9_drunk_k174.2.2.2.2.2
set_option maxRecDepth 100000 in
theorem dX9_drunk_k175 : (decode cX9_drunk 118 = .ok (.getfield 75, 3)) ∧ (decode cX9_drunk 121 = .ok (.iload 9, 2)) ∧ (decode cX9_drunk 123 = .ok (.lconst 0, 1)) ∧ (decode cX9_drunk 124 = .ok (.lastore, 1)) ∧ (decode cX9_drunk 125 = .ok (.iinc 9 1, 3)) ∧ (decode cX9_drunk 128 = .ok (.goto (-18), 3)) := by decide +kernel
theorem dX9_drunk_118 : decode cX9_drunk 118 = .ok (.getfield 75, 3) := dX9_drunk_k175.1
theorem dX9_drunk_121 : decode cX9_drunk 121 = .ok (.iload 9, 2) := dX9_drunk_k175.2.1
theorem dX9_drunk_123 : decode cX9_drunk 123 = .ok (.lconst 0, 1) := dX9_drunk_k175.2.2.1
theorem dX9_drunk_124 : decode cX9_drunk 124 = .ok (.lastore, 1) := dX9_drunk_k175.2.2.2.1
theorem dX9_drunk_125 : decode cX9_drunk 125 = .ok (.iinc 9 1, 3) := dX9_drunk_k175.2.2.2.2.1
theorem dX9_drunk_128 : decode cX9_drunk 128 = .ok (.goto (-18), 3) := dX9_drunk_k175.2.2.2.2.2
set_option maxRecDepth 100000 in
theorem dX9_drunk_k176 : (decode cX9_drunk 131 = .ok (.iconst 0, 1)) ∧ (decode cX9_drunk 132 = .ok (.istore 9, 2)) ∧ (decode cX9_drunk 134 = .ok (.iload 9, 2)) ∧ (decode cX9_drunk 136 = .ok (.aload_n 0, 1)) ∧ (decode cX9_drunk 137 = .ok (.getfield 7, 3)) ∧ (decode cX9_drunk 140 = .ok (.if_icmp .ge 157, 3)) := by decide +kernel
theorem dX9_drunk_131 : decode cX9_drunk 131 = .ok (.iconst 0, 1) := dX9_drunk_k176.1
theorem dX9_drunk_132 : decode cX9_drunk 132 = .ok (.istore 9, 2) := dX9_drunk_k176.2.1
theorem dX9_drunk_134 : decode cX9_drunk 134 = .ok (.iload 9, 2) := dX9_drunk_k176.2.2.1
theorem dX9_drunk_136 : decode cX9_drunk 136 = .ok (.aload_n 0, 1) := dX9_drunk_k176.2.2.2.1
theorem dX9_drunk_137 : decode cX9_drunk 137 = .ok (.getfield 7, 3) := dX9_drunk_k176.2.2.2.2.1
theorem dX9_drunk_140 : decode cX9_drunk 140 = .ok (.if_icmp .ge 157, 3) := dX9_drunk_k176.2.2.2.2.2
set_option maxRecDepth 100000 in
theorem dX9_drunk_k177 : (decode cX9_drunk 143 = .ok (.iconst 0, 1)) ∧ (decode cX9_drunk 144 = .ok (.istore 10, 2)) ∧ (decode cX9_drunk 146 = .ok (.iconst 0, 1)) ∧ (decode cX9_drunk 147 = .ok (.istore 11, 2)) ∧ (decode cX9_drunk 149 = .ok (.iload 11, 2)) ∧ (decode cX9_drunk 151 = .ok (.aload_n 0, 1)) := by decide +kernel
theorem dX9_drunk_143 : decode cX9_drunk 143 = .ok (.iconst 0, 1) := dX9_drunk_k177.1
theorem dX9_drunk_144 : decode cX9_drunk 144 = .ok (.istore 10, 2) := dX9_drunk_k177.2.1
theorem dX9_drunk_146 : decode cX9_drunk 146 = .ok (.iconst 0, 1) := dX9_drunk_k177.2.2.1
theorem dX9_drunk_147 : decode cX9_drunk 147 = .ok (.istore 11, 2) := dX9_drunk_k177.2.2.2.1
theorem dX9_drunk_149 : decode cX9_drunk 149 = .ok (.iload 11, 2) := dX9_drunk_k177.2.2.2.2.1
theorem dX9_drunk_151 : decode cX9_drunk 151 = .ok (.aload_n 0, 1) := dX9_drunk_k177.2.2.2.2.2
set_option maxRecDepth 100000 in
theorem dX9_drunk_k178 : (decode cX9_drunk 152 = .ok (.getfield 7, 3)) ∧ (decode cX9_drunk 155 = .ok (.if_icmp .ge 35, 3)) ∧ (decode cX9_drunk 158 = .ok (.iload 10, 2)) ∧ (decode cX9_drunk 160 = .ok (.aload_n 0, 1)) ∧ (decode cX9_drunk 161 = .ok (.getfield 23, 3)) ∧ (decode cX9_drunk 164 = .ok (.bipush 6, 2)) := by decide +kernel
theorem dX9_drunk_152 : decode cX9_drunk 152 = .ok (.getfield 7, 3) := dX9_drunk_k178.1
theorem dX9_drunk_155 : decode cX9_drunk 155 = .ok (.if_icmp .ge 35, 3) := dX9_drunk_k178.2.1
theorem dX9_drunk_158 : decode cX9_drunk 158 = .ok (.iload 10, 2) := dX9_drunk_k178.2.2.1
theorem dX9_drunk_160 : decode cX9_drunk 160 = .ok (.aload_n 0, 1) := dX9_drunk_k178.2.2.2.1
theorem dX9_drunk_161 : decode cX9_drunk 161 = .ok (.getfield 23, 3) := dX9_drunk_k178.2.2.2.2.1
theorem dX9_drunk_164 : decode cX9_drunk 164 = .ok (.bipush 6, 2) := dX9_drunk_k178.2.2.2.2.2
set_option maxRecDepth 100000 in
theorem dX9_drunk_k179 : (decode cX9_drunk 166 = .ok (.iload 9, 2)) ∧ (decode cX9_drunk 168 = .ok (.imul, 1)) ∧ (decode cX9_drunk 169 = .ok (.iload 11, 2)) ∧ (decode cX9_drunk 171 = .ok (.iadd, 1)) ∧ (decode cX9_drunk 172 = .ok (.iaload, 1)) ∧ (decode cX9_drunk 173 = .ok (.ifCond .le 7, 3)) := by decide +kernel
theorem dX9_drunk_166 : decode cX9_drunk 166 = .ok (.iload 9, 2) := dX9_drunk_k179.1
theorem dX9_drunk_168 : decode cX9_drunk 168 = .ok (.imul, 1) := dX9_drunk_k179.2.1
theorem dX9_drunk_169 : decode cX9_drunk 169 = .ok (.iload 11, 2) := dX9_drunk_k179.2.2.1
theorem dX9_drunk_171 : decode cX9_drunk 171 = .ok (.iadd, 1) := dX9_drunk_k179.2.2.2.1
theorem dX9_drunk_172 : decode cX9_drunk 172 = .ok (.iaload, 1) := dX9_drunk_k179.2.2.2.2.1
theorem dX9_drunk_173 : decode cX9_drunk 173 = .ok (.ifCond .le 7, 3) := dX9_drunk_k179.2.2.2.2.2
set_option maxRecDepth 100000 in
theorem dX9_drunk_k180 : (decode cX9_drunk 176 = .ok (.iconst 1, 1)) ∧ (decode cX9_drunk 177 = .ok (.goto 4, 3)) ∧ (decode cX9_drunk 180 = .ok (.iconst 0, 1)) ∧ (decode cX9_drunk 181 = .ok (.iadd, 1)) ∧ (decode cX9_drunk 182 = .ok (.istore 10, 2)) ∧ (decode cX9_drunk 184 = .ok (.iinc 11 1, 3)) := by decide +kernel
theorem dX9_drunk_176 : decode cX9_drunk 176 = .ok (.iconst 1, 1) := dX9_drunk_k180.1
theorem dX9_drunk_177 : decode cX9_drunk 177 = .ok (.goto 4, 3) := dX9_drunk_k180.2.1
theorem dX9_drunk_180 : decode cX9_drunk 180 = .ok (.iconst 0, 1) := dX9_drunk_k180.2.2.1
theorem dX9_drunk_181 : decode cX9_drunk 181 = .ok (.iadd, 1) := dX9_drunk_k180.2.2.2.1
theorem dX9_drunk_182 : decode cX9_drunk 182 = .ok (.istore 10, 2) := dX9_drunk_k180.2.2.2.2.1
theorem dX9_drunk_184 : decode cX9_drunk 184 = .ok (.iinc 11 1, 3) := dX9_drunk_k180.2.2.2.2.2
set_option maxRecDepth 100000 in
theorem dX9_drunk_k181 : (decode cX9_drunk 187 = .ok (.goto (-38), 3)) ∧ (decode cX9_drunk 190 = .ok (.aload_n 0, 1)) ∧ (decode cX9_drunk 191 = .ok (.getfield 75, 3)) ∧ (decode cX9_drunk 194 = .ok (.iload 9, 2)) ∧ (decode cX9_drunk 196 = .ok (.dup2, 1)) ∧ (decode cX9_drunk 197 = .ok (.laload, 1)) := by decide +kernel
theorem dX9_drunk_187 : decode cX9_drunk 187 = .ok (.goto (-38), 3) := dX9_drunk_k181.1
theorem dX9_drunk_190 : decode cX9_drunk 190 = .ok (.aload_n 0, 1) := dX9_drunk_k181.2.1
theorem dX9_drunk_191 : decode cX9_drunk 191 = .ok (.getfield 75, 3) := dX9_drunk_k181.2.2.1
theorem dX9_drunk_194 : decode cX9_drunk 194 = .ok (.iload 9, 2) := dX9_drunk_k181.2.2.2.1
theorem dX9_drunk_196 : decode cX9_drunk 196 = .ok (.dup2, 1) := dX9_drunk_k181.2.2.2.2.1
theorem dX9_drunk_197 : decode cX9_drunk 197 = .ok (.laload, 1) := dX9_drunk_k181.2.2.2.2.2
set_option maxRecDepth 100000 in
theorem dX9_drunk_k182 : (decode cX9_drunk 198 = .ok (.aload_n 0, 1)) ∧ (decode cX9_drunk 199 = .ok (.getfield 72, 3)) ∧ (decode cX9_drunk 202 = .ok (.iload 9, 2)) ∧ (decode cX9_drunk 204 = .ok (.laload, 1)) ∧ (decode cX9_drunk 205 = .ok (.iload 10, 2)) ∧ (decode cX9_drunk 207 = .ok (.ifCond .ne 9, 3)) := by decide +kernel
theorem dX9_drunk_198 : decode cX9_drunk 198 = .ok (.aload_n 0, 1) := dX9_drunk_k182.1
theorem dX9_drunk_199 : decode cX9_drunk 199 = .ok (.getfield 72, 3) := dX9_drunk_k182.2.1
theorem dX9_drunk_202 : decode cX9_drunk 202 = .ok (.iload 9, 2) := dX9_drunk_k182.2.2.1
theorem dX9_drunk_204 : decode cX9_drunk 204 = .ok (.laload, 1) := dX9_drunk_k182.2.2.2.1
theorem dX9_drunk_205 : decode cX9_drunk 205 = .ok (.iload 10, 2) := dX9_drunk_k182.2.2.2.2.1
theorem dX9_drunk_207 : decode cX9_drunk 207 = .ok (.ifCond .ne 9, 3) := dX9_drunk_k182.2.2.2.2.2
set_option maxRecDepth 100000 in
theorem dX9_drunk_k183 : (decode cX9_drunk 210 = .ok (.sipush 600, 3)) ∧ (decode cX9_drunk 213 = .ok (.goto 7, 3)) ∧ (decode cX9_drunk 216 = .ok (.bipush 60, 2)) ∧ (decode cX9_drunk 218 = .ok (.iload_n 3, 1)) ∧ (decode cX9_drunk 219 = .ok (.imul, 1)) ∧ (decode cX9_drunk 220 = .ok (.i2l, 1)) := by decide +kernel
theorem dX9_drunk_210 : decode cX9_drunk 210 = .ok (.sipush 600, 3) := dX9_drunk_k183.1
theorem dX9_drunk_213 : decode cX9_drunk 213 = .ok (.goto 7, 3) := dX9_drunk_k183.2.1
theorem dX9_drunk_216 : decode cX9_drunk 216 = .ok (.bipush 60, 2) := dX9_drunk_k183.2.2.1
theorem dX9_drunk_218 : decode cX9_drunk 218 = .ok (.iload_n 3, 1) := dX9_drunk_k183.2.2.2.1
theorem dX9_drunk_219 : decode cX9_drunk 219 = .ok (.imul, 1) := dX9_drunk_k183.2.2.2.2.1
theorem dX9_drunk_220 : decode cX9_drunk 220 = .ok (.i2l, 1) := dX9_drunk_k183.2.2.2.2.2
set_option maxRecDepth 100000 in
theorem dX9_drunk_k184 : (decode cX9_drunk 221 = .ok (.lmul, 1)) ∧ (decode cX9_drunk 222 = .ok (.ladd, 1)) ∧ (decode cX9_drunk 223 = .ok (.lastore, 1)) ∧ (decode cX9_drunk 224 = .ok (.iconst 0, 1)) ∧ (decode cX9_drunk 225 = .ok (.istore 11, 2)) ∧ (decode cX9_drunk 227 = .ok (.iload 11, 2)) := by decide +kernel
theorem dX9_drunk_221 : decode cX9_drunk 221 = .ok (.lmul, 1) := dX9_drunk_k184.1
theorem dX9_drunk_222 : decode cX9_drunk 222 = .ok (.ladd, 1) := dX9_drunk_k184.2.1
theorem dX9_drunk_223 : decode cX9_drunk 223 = .ok (.lastore, 1) := dX9_drunk_k184.2.2.1
theorem dX9_drunk_224 : decode cX9_drunk 224 = .ok (.iconst 0, 1) := dX9_drunk_k184.2.2.2.1
theorem dX9_drunk_225 : decode cX9_drunk 225 = .ok (.istore 11, 2) := dX9_drunk_k184.2.2.2.2.1
theorem dX9_drunk_227 : decode cX9_drunk 227 = .ok (.iload 11, 2) := dX9_drunk_k184.2.2.2.2.2
set_option maxRecDepth 100000 in
theorem dX9_drunk_k185 : (decode cX9_drunk 229 = .ok (.aload_n 0, 1)) ∧ (decode cX9_drunk 230 = .ok (.getfield 7, 3)) ∧ (decode cX9_drunk 233 = .ok (.if_icmp .ge 58, 3)) ∧ (decode cX9_drunk 236 = .ok (.aload_n 0, 1)) ∧ (decode cX9_drunk 237 = .ok (.getfield 75, 3)) ∧ (decode cX9_drunk 240 = .ok (.iload 11, 2)) := by decide +kernel
theorem dX9_drunk_229 : decode cX9_drunk 229 = .ok (.aload_n 0, 1) := dX9_drunk_k185.1
theorem dX9_drunk_230 : decode cX9_drunk 230 = .ok (.getfield 7, 3) := dX9_drunk_k185.2.1
theorem dX9_drunk_233 : decode cX9_drunk 233 = .ok (.if_icmp .ge 58, 3) := dX9_drunk_k185.2.2.1
theorem dX9_drunk_236 : decode cX9_drunk 236 = .ok (.aload_n 0, 1) := dX9_drunk_k185.2.2.2.1
theorem dX9_drunk_237 : decode cX9_drunk 237 = .ok (.getfield 75, 3) := dX9_drunk_k185.2.2.2.2.1
theorem dX9_drunk_240 : decode cX9_drunk 240 = .ok (.iload 11, 2) := dX9_drunk_k185.2.2.2.2.2
set_option maxRecDepth 100000 in
theorem dX9_drunk_k186 : (decode cX9_drunk 242 = .ok (.dup2, 1)) ∧ (decode cX9_drunk 243 = .ok (.laload, 1)) ∧ (decode cX9_drunk 244 = .ok (.aload_n 0, 1)) ∧ (decode cX9_drunk 245 = .ok (.getfield 23, 3)) := by decide +kernel
theorem dX9_drunk_242 : decode cX9_drunk 242 = .ok (.dup2, 1) := dX9_drunk_k186.1
theorem dX9_drunk_243 : decode cX9_drunk 243 = .ok (.laload, 1) := dX9_drunk_k186.2.1
theorem dX9_drunk_244 : decode cX9_drunk 244 = .ok (.aload_n 0, 1) := dX9_drunk_k186.2.2.1
theorem dX9_drunk_245 : decode cX9_drunk 245 = .ok (.getfield 23, 3) := dX9_drunk_k186.2.2.2
