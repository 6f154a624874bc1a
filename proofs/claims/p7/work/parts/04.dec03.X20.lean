set_option maxRecDepth 100000 in
theorem dX2_init_k0 : (decode cX2_init 0 = .ok (.aload_n 0, 1)) ∧ (decode cX2_init 1 = .ok (.invokespecial 3, 3)) ∧ (decode cX2_init 4 = .ok (.aload_n 0, 1)) ∧ (decode cX2_init 5 = .ok (.bipush 60, 2)) ∧ (decode cX2_init 7 = .ok (.newarray .int, 2)) ∧ (decode cX2_init 9 = .ok (.putfield 9, 3)) := by decide +kernel
theorem dX2_init_0 : decode cX2_init 0 = .ok (.aload_n 0, 1) := dX2_init_k0.1
theorem dX2_init_1 : decode cX2_init 1 = .ok (.invokespecial 3, 3) := dX2_init_k0.2.1
theorem dX2_init_4 : decode cX2_init 4 = .ok (.aload_n 0, 1) := dX2_init_k0.2.2.1
theorem dX2_init_5 : decode cX2_init 5 = .ok (.bipush 60, 2) := dX2_init_k0.2.2.2.1
theorem dX2_init_7 : decode cX2_init 7 = .ok (.newarray .int, 2) := dX2_init_k0.2.2.2.2.1
theorem dX2_init_9 : decode cX2_init 9 = .ok (.putfield 9, 3) := dX2_init_k0.2.2.2.2.2
theorem dX2_init_12 : decode cX2_init 12 = .ok (.return_, 1) := by decide +kernel
set_option maxRecDepth 100000 in
theorem dX2_add_k1 : (decode cX2_add 0 = .ok (.aload_n 0, 1)) ∧ (decode cX2_add 1 = .ok (.getfield 15, 3)) ∧ (decode cX2_add 4 = .ok (.bipush 60, 2)) ∧ (decode cX2_add 6 = .ok (.if_icmp .lt 5, 3)) ∧ (decode cX2_add 9 = .ok (.iconst 0, 1)) ∧ (decode cX2_add 10 = .ok (.ireturn, 1)) := by decide +kernel
theorem dX2_add_0 : decode cX2_add 0 = .ok (.aload_n 0, 1) := dX2_add_k1.1
theorem dX2_add_1 : decode cX2_add 1 = .ok (.getfield 15, 3) := dX2_add_k1.2.1
theorem dX2_add_4 : decode cX2_add 4 = .ok (.bipush 60, 2) := dX2_add_k1.2.2.1
theorem dX2_add_6 : decode cX2_add 6 = .ok (.if_icmp .lt 5, 3) := dX2_add_k1.2.2.2.1
theorem dX2_add_9 : decode cX2_add 9 = .ok (.iconst 0, 1) := dX2_add_k1.2.2.2.2.1
theorem dX2_add_10 : decode cX2_add 10 = .ok (.ireturn, 1) := dX2_add_k1.2.2.2.2.2
set_option maxRecDepth 100000 in
theorem dX2_add_k2 : (decode cX2_add 11 = .ok (.aload_n 0, 1)) ∧ (decode cX2_add 12 = .ok (.getfield 9, 3)) ∧ (decode cX2_add 15 = .ok (.aload_n 0, 1)) ∧ (decode cX2_add 16 = .ok (.getfield 15, 3)) ∧ (decode cX2_add 19 = .ok (.iload_n 1, 1)) ∧ (decode cX2_add 20 = .ok (.iastore, 1)) := by decide +kernel
theorem dX2_add_11 : decode cX2_add 11 = .ok (.aload_n 0, 1) := dX2_add_k2.1
theorem dX2_add_12 : decode cX2_add 12 = .ok (.getfield 9, 3) := dX2_add_k2.2.1
theorem dX2_add_15 : decode cX2_add 15 = .ok (.aload_n 0, 1) := dX2_add_k2.2.2.1
theorem dX2_add_16 : decode cX2_add 16 = .ok (.getfield 15, 3) := dX2_add_k2.2.2.2.1
theorem dX2_add_19 : decode cX2_add 19 = .ok (.iload_n 1, 1) := dX2_add_k2.2.2.2.2.1
theorem dX2_add_20 : decode cX2_add 20 = .ok (.iastore, 1) := dX2_add_k2.2.2.2.2.2
set_option maxRecDepth 100000 in
theorem dX2_add_k3 : (decode cX2_add 21 = .ok (.aload_n 0, 1)) ∧ (decode cX2_add 22 = .ok (.dup, 1)) ∧ (decode cX2_add 23 = .ok (.getfield 15, 3)) ∧ (decode cX2_add 26 = .ok (.iconst 1, 1)) ∧ (decode cX2_add 27 = .ok (.iadd, 1)) ∧ (decode cX2_add 28 = .ok (.putfield 15, 3)) := by decide +kernel
theorem dX2_add_21 : decode cX2_add 21 = .ok (.aload_n 0, 1) := dX2_add_k3.1
theorem dX2_add_22 : decode cX2_add 22 = .ok (.dup, 1) := dX2_add_k3.2.1
theorem dX2_add_23 : decode cX2_add 23 = .ok (.getfield 15, 3) := dX2_add_k3.2.2.1
theorem dX2_add_26 : decode cX2_add 26 = .ok (.iconst 1, 1) := dX2_add_k3.2.2.2.1
theorem dX2_add_27 : decode cX2_add 27 = .ok (.iadd, 1) := dX2_add_k3.2.2.2.2.1
theorem dX2_add_28 : decode cX2_add 28 = .ok (.putfield 15, 3) := dX2_add_k3.2.2.2.2.2
set_option maxRecDepth 100000 in
theorem dX2_add_k4 : (decode cX2_add 31 = .ok (.iconst 1, 1)) ∧ (decode cX2_add 32 = .ok (.ireturn, 1)) := by decide +kernel
theorem dX2_add_31 : decode cX2_add 31 = .ok (.iconst 1, 1) := dX2_add_k4.1
theorem dX2_add_32 : decode cX2_add 32 = .ok (.ireturn, 1) := dX2_add_k4.2
set_option maxRecDepth 100000 in
theorem dX2_sign_k5 : (decode cX2_sign 0 = .ok (.iload_n 1, 1)) ∧ (decode cX2_sign 1 = .ok (.ifCond .lt 20, 3)) ∧ (decode cX2_sign 4 = .ok (.iload_n 1, 1)) ∧ (decode cX2_sign 5 = .ok (.aload_n 0, 1)) ∧ (decode cX2_sign 6 = .ok (.getfield 15, 3)) ∧ (decode cX2_sign 9 = .ok (.if_icmp .ge 12, 3)) := by decide +kernel
theorem dX2_sign_0 : decode cX2_sign 0 = .ok (.iload_n 1, 1) := dX2_sign_k5.1
theorem dX2_sign_1 : decode cX2_sign 1 = .ok (.ifCond .lt 20, 3) := dX2_sign_k5.2.1
theorem dX2_sign_4 : decode cX2_sign 4 = .ok (.iload_n 1, 1) := dX2_sign_k5.2.2.1
theorem dX2_sign_5 : decode cX2_sign 5 = .ok (.aload_n 0, 1) := dX2_sign_k5.2.2.2.1
theorem dX2_sign_6 : decode cX2_sign 6 = .ok (.getfield 15, 3) := dX2_sign_k5.2.2.2.2.1
theorem dX2_sign_9 : decode cX2_sign 9 = .ok (.if_icmp .ge 12, 3) := dX2_sign_k5.2.2.2.2.2
set_option maxRecDepth 100000 in
theorem dX2_sign_k6 : (decode cX2_sign 12 = .ok (.aload_n 0, 1)) ∧ (decode cX2_sign 13 = .ok (.getfield 9, 3)) ∧ (decode cX2_sign 16 = .ok (.iload_n 1, 1)) ∧ (decode cX2_sign 17 = .ok (.iaload, 1)) ∧ (decode cX2_sign 18 = .ok (.goto 4, 3)) ∧ (decode cX2_sign 21 = .ok (.iconst 0, 1)) := by decide +kernel
theorem dX2_sign_12 : decode cX2_sign 12 = .ok (.aload_n 0, 1) := dX2_sign_k6.1
theorem dX2_sign_13 : decode cX2_sign 13 = .ok (.getfield 9, 3) := dX2_sign_k6.2.1
theorem dX2_sign_16 : decode cX2_sign 16 = .ok (.iload_n 1, 1) := dX2_sign_k6.2.2.1
theorem dX2_sign_17 : decode cX2_sign 17 = .ok (.iaload, 1) := dX2_sign_k6.2.2.2.1
theorem dX2_sign_18 : decode cX2_sign 18 = .ok (.goto 4, 3) := dX2_sign_k6.2.2.2.2.1
theorem dX2_sign_21 : decode cX2_sign 21 = .ok (.iconst 0, 1) := dX2_sign_k6.2.2.2.2.2
theorem dX2_sign_22 : decode cX2_sign 22 = .ok (.ireturn, 1) := by decide +kernel
set_option maxRecDepth 100000 in
theorem dX2_flaw_k7 : (decode cX2_flaw 0 = .ok (.iconst 0, 1)) ∧ (decode cX2_flaw 1 = .ok (.istore_n 2, 1)) ∧ (decode cX2_flaw 2 = .ok (.iconst 0, 1)) ∧ (decode cX2_flaw 3 = .ok (.istore_n 3, 1)) ∧ (decode cX2_flaw 4 = .ok (.iload_n 3, 1)) ∧ (decode cX2_flaw 5 = .ok (.aload_n 0, 1)) := by decide +kernel
theorem dX2_flaw_0 : decode cX2_flaw 0 = .ok (.iconst 0, 1) := dX2_flaw_k7.1
theorem dX2_flaw_1 : decode cX2_flaw 1 = .ok (.istore_n 2, 1) := dX2_flaw_k7.2.1
theorem dX2_flaw_2 : decode cX2_flaw 2 = .ok (.iconst 0, 1) := dX2_flaw_k7.2.2.1
theorem dX2_flaw_3 : decode cX2_flaw 3 = .ok (.istore_n 3, 1) := dX2_flaw_k7.2.2.2.1
theorem dX2_flaw_4 : decode cX2_flaw 4 = .ok (.iload_n 3, 1) := dX2_flaw_k7.2.2.2.2.1
theorem dX2_flaw_5 : decode cX2_flaw 5 = .ok (.aload_n 0, 1) := dX2_flaw_k7.2.2.2.2.2
set_option maxRecDepth 100000 in
theorem dX2_flaw_k8 : (decode cX2_flaw 6 = .ok (.getfield 15, 3)) ∧ (decode cX2_flaw 9 = .ok (.if_icmp .ge 24, 3)) ∧ (decode cX2_flaw 12 = .ok (.aload_n 0, 1)) ∧ (decode cX2_flaw 13 = .ok (.iload_n 2, 1)) ∧ (decode cX2_flaw 14 = .ok (.iload_n 3, 1)) ∧ (decode cX2_flaw 15 = .ok (.iload_n 1, 1)) := by decide +kernel
theorem dX2_flaw_6 : decode cX2_flaw 6 = .ok (.getfield 15, 3) := dX2_flaw_k8.1
theorem dX2_flaw_9 : decode cX2_flaw 9 = .ok (.if_icmp .ge 24, 3) := dX2_flaw_k8.2.1
theorem dX2_flaw_12 : decode cX2_flaw 12 = .ok (.aload_n 0, 1) := dX2_flaw_k8.2.2.1
theorem dX2_flaw_13 : decode cX2_flaw 13 = .ok (.iload_n 2, 1) := dX2_flaw_k8.2.2.2.1
theorem dX2_flaw_14 : decode cX2_flaw 14 = .ok (.iload_n 3, 1) := dX2_flaw_k8.2.2.2.2.1
theorem dX2_flaw_15 : decode cX2_flaw 15 = .ok (.iload_n 1, 1) := dX2_flaw_k8.2.2.2.2.2
set_option maxRecDepth 100000 in
theorem dX2_flaw_k9 : (decode cX2_flaw 16 = .ok (.invokevirtual 19, 3)) ∧ (decode cX2_flaw 19 = .ok (.istore_n 2, 1)) ∧ (decode cX2_flaw 20 = .ok (.iload_n 2, 1)) ∧ (decode cX2_flaw 21 = .ok (.iconst 5, 1)) ∧ (decode cX2_flaw 22 = .ok (.if_icmp .ne 5, 3)) ∧ (decode cX2_flaw 25 = .ok (.iload_n 3, 1)) := by decide +kernel
theorem dX2_flaw_16 : decode cX2_flaw 16 = .ok (.invokevirtual 19, 3) := dX2_flaw_k9.1
theorem dX2_flaw_19 : decode cX2_flaw 19 = .ok (.istore_n 2, 1) := dX2_flaw_k9.2.1
theorem dX2_flaw_20 : decode cX2_flaw 20 = .ok (.iload_n 2, 1) := dX2_flaw_k9.2.2.1
theorem dX2_flaw_21 : decode cX2_flaw 21 = .ok (.iconst 5, 1) := dX2_flaw_k9.2.2.2.1
theorem dX2_flaw_22 : decode cX2_flaw 22 = .ok (.if_icmp .ne 5, 3) := dX2_flaw_k9.2.2.2.2.1
theorem dX2_flaw_25 : decode cX2_flaw 25 = .ok (.iload_n 3, 1) := dX2_flaw_k9.2.2.2.2.2
set_option maxRecDepth 100000 in
theorem dX2_flaw_k10 : (decode cX2_flaw 26 = .ok (.ireturn, 1)) ∧ (decode cX2_flaw 27 = .ok (.iinc 3 1, 3)) ∧ (decode cX2_flaw 30 = .ok (.goto (-26), 3)) ∧ (decode cX2_flaw 33 = .ok (.iload_n 2, 1)) ∧ (decode cX2_flaw 34 = .ok (.ifCond .ne 8, 3)) ∧ (decode cX2_flaw 37 = .ok (.bipush (-6), 2)) := by decide +kernel
theorem dX2_flaw_26 : decode cX2_flaw 26 = .ok (.ireturn, 1) := dX2_flaw_k10.1
theorem dX2_flaw_27 : decode cX2_flaw 27 = .ok (.iinc 3 1, 3) := dX2_flaw_k10.2.1
theorem dX2_flaw_30 : decode cX2_flaw 30 = .ok (.goto (-26), 3) := dX2_flaw_k10.2.2.1
theorem dX2_flaw_33 : decode cX2_flaw 33 = .ok (.iload_n 2, 1) := dX2_flaw_k10.2.2.2.1
theorem dX2_flaw_34 : decode cX2_flaw 34 = .ok (.ifCond .ne 8, 3) := dX2_flaw_k10.2.2.2.2.1
theorem dX2_flaw_37 : decode cX2_flaw 37 = .ok (.bipush (-6), 2) := dX2_flaw_k10.2.2.2.2.2
set_option maxRecDepth 100000 in
theorem dX2_flaw_k11 : (decode cX2_flaw 39 = .ok (.goto 7, 3)) ∧ (decode cX2_flaw 42 = .ok (.aload_n 0, 1)) ∧ (decode cX2_flaw 43 = .ok (.getfield 15, 3)) ∧ (decode cX2_flaw 46 = .ok (.ireturn, 1)) := by decide +kernel
theorem dX2_flaw_39 : decode cX2_flaw 39 = .ok (.goto 7, 3) := dX2_flaw_k11.1
theorem dX2_flaw_42 : decode cX2_flaw 42 = .ok (.aload_n 0, 1) := dX2_flaw_k11.2.1
theorem dX2_flaw_43 : decode cX2_flaw 43 = .ok (.getfield 15, 3) := dX2_flaw_k11.2.2.1
theorem dX2_flaw_46 : decode cX2_flaw 46 = .ok (.ireturn, 1) := dX2_flaw_k11.2.2.2
set_option maxRecDepth 100000 in
theorem dX2_follow_k12 : (decode cX2_follow 0 = .ok (.aload_n 0, 1)) ∧ (decode cX2_follow 1 = .ok (.getfield 9, 3)) ∧ (decode cX2_follow 4 = .ok (.iload_n 2, 1)) ∧ (decode cX2_follow 5 = .ok (.iaload, 1)) ∧ (decode cX2_follow 6 = .ok (.istore 4, 2)) ∧ (decode cX2_follow 8 = .ok (.iload_n 1, 1)) := by decide +kernel
theorem dX2_follow_0 : decode cX2_follow 0 = .ok (.aload_n 0, 1) := dX2_follow_k12.1
theorem dX2_follow_1 : decode cX2_follow 1 = .ok (.getfield 9, 3) := dX2_follow_k12.2.1
theorem dX2_follow_4 : decode cX2_follow 4 = .ok (.iload_n 2, 1) := dX2_follow_k12.2.2.1
theorem dX2_follow_5 : decode cX2_follow 5 = .ok (.iaload, 1) := dX2_follow_k12.2.2.2.1
theorem dX2_follow_6 : decode cX2_follow 6 = .ok (.istore 4, 2) := dX2_follow_k12.2.2.2.2.1
theorem dX2_follow_8 : decode cX2_follow 8 = .ok (.iload_n 1, 1) := dX2_follow_k12.2.2.2.2.2
set_option maxRecDepth 100000 in
theorem dX2_follow_k13 : (decode cX2_follow 9 = .ok (.tableswitch 87 0 3 #[31, 38, 52, 72], 31)) ∧ (decode cX2_follow 40 = .ok (.iload 4, 2)) ∧ (decode cX2_follow 42 = .ok (.iload_n 3, 1)) ∧ (decode cX2_follow 43 = .ok (.invokestatic 23, 3)) ∧ (decode cX2_follow 46 = .ok (.ireturn, 1)) ∧ (decode cX2_follow 47 = .ok (.iload 4, 2)) := by decide +kernel
theorem dX2_follow_9 : decode cX2_follow 9 = .ok (.tableswitch 87 0 3 #[31, 38, 52, 72], 31) := dX2_follow_k13.1
theorem dX2_follow_40 : decode cX2_follow 40 = .ok (.iload 4, 2) := dX2_follow_k13.2.1
theorem dX2_follow_42 : decode cX2_follow 42 = .ok (.iload_n 3, 1) := dX2_follow_k13.2.2.1
theorem dX2_follow_43 : decode cX2_follow 43 = .ok (.invokestatic 23, 3) := dX2_follow_k13.2.2.2.1
theorem dX2_follow_46 : decode cX2_follow 46 = .ok (.ireturn, 1) := dX2_follow_k13.2.2.2.2.1
theorem dX2_follow_47 : decode cX2_follow 47 = .ok (.iload 4, 2) := dX2_follow_k13.2.2.2.2.2
set_option maxRecDepth 100000 in
theorem dX2_follow_k14 : (decode cX2_follow 49 = .ok (.aload_n 0, 1)) ∧ (decode cX2_follow 50 = .ok (.iload_n 2, 1)) ∧ (decode cX2_follow 51 = .ok (.iconst 1, 1)) ∧ (decode cX2_follow 52 = .ok (.isub, 1)) ∧ (decode cX2_follow 53 = .ok (.invokevirtual 27, 3)) ∧ (decode cX2_follow 56 = .ok (.iload_n 3, 1)) := by decide +kernel
theorem dX2_follow_49 : decode cX2_follow 49 = .ok (.aload_n 0, 1) := dX2_follow_k14.1
theorem dX2_follow_50 : decode cX2_follow 50 = .ok (.iload_n 2, 1) := dX2_follow_k14.2.1
theorem dX2_follow_51 : decode cX2_follow 51 = .ok (.iconst 1, 1) := dX2_follow_k14.2.2.1
theorem dX2_follow_52 : decode cX2_follow 52 = .ok (.isub, 1) := dX2_follow_k14.2.2.2.1
theorem dX2_follow_53 : decode cX2_follow 53 = .ok (.invokevirtual 27, 3) := dX2_follow_k14.2.2.2.2.1
theorem dX2_follow_56 : decode cX2_follow 56 = .ok (.iload_n 3, 1) := dX2_follow_k14.2.2.2.2.2
set_option maxRecDepth 100000 in
theorem dX2_follow_k15 : (decode cX2_follow 57 = .ok (.invokestatic 31, 3)) ∧ (decode cX2_follow 60 = .ok (.ireturn, 1)) ∧ (decode cX2_follow 61 = .ok (.iload 4, 2)) ∧ (decode cX2_follow 63 = .ok (.bipush 49, 2)) ∧ (decode cX2_follow 65 = .ok (.if_icmp .lt 14, 3)) ∧ (decode cX2_follow 68 = .ok (.iload 4, 2)) := by decide +kernel
theorem dX2_follow_57 : decode cX2_follow 57 = .ok (.invokestatic 31, 3) := dX2_follow_k15.1
theorem dX2_follow_60 : decode cX2_follow 60 = .ok (.ireturn, 1) := dX2_follow_k15.2.1
theorem dX2_follow_61 : decode cX2_follow 61 = .ok (.iload 4, 2) := dX2_follow_k15.2.2.1
theorem dX2_follow_63 : decode cX2_follow 63 = .ok (.bipush 49, 2) := dX2_follow_k15.2.2.2.1
theorem dX2_follow_65 : decode cX2_follow 65 = .ok (.if_icmp .lt 14, 3) := dX2_follow_k15.2.2.2.2.1
theorem dX2_follow_68 : decode cX2_follow 68 = .ok (.iload 4, 2) := dX2_follow_k15.2.2.2.2.2
set_option maxRecDepth 100000 in
theorem dX2_follow_k16 : (decode cX2_follow 70 = .ok (.bipush 57, 2)) ∧ (decode cX2_follow 72 = .ok (.if_icmp .gt 7, 3)) ∧ (decode cX2_follow 75 = .ok (.iconst 0, 1)) ∧ (decode cX2_follow 76 = .ok (.goto 4, 3)) ∧ (decode cX2_follow 79 = .ok (.iconst 5, 1)) ∧ (decode cX2_follow 80 = .ok (.ireturn, 1)) := by decide +kernel
theorem dX2_follow_70 : decode cX2_follow 70 = .ok (.bipush 57, 2) := dX2_follow_k16.1
theorem dX2_follow_72 : decode cX2_follow 72 = .ok (.if_icmp .gt 7, 3) := dX2_follow_k16.2.1
theorem dX2_follow_75 : decode cX2_follow 75 = .ok (.iconst 0, 1) := dX2_follow_k16.2.2.1
theorem dX2_follow_76 : decode cX2_follow 76 = .ok (.goto 4, 3) := dX2_follow_k16.2.2.2.1
theorem dX2_follow_79 : decode cX2_follow 79 = .ok (.iconst 5, 1) := dX2_follow_k16.2.2.2.2.1
theorem dX2_follow_80 : decode cX2_follow 80 = .ok (.ireturn, 1) := dX2_follow_k16.2.2.2.2.2
set_option maxRecDepth 100000 in
theorem dX2_follow_k17 : (decode cX2_follow 81 = .ok (.iload 4, 2)) ∧ (decode cX2_follow 83 = .ok (.iload_n 3, 1)) ∧ (decode cX2_follow 84 = .ok (.invokestatic 34, 3)) ∧ (decode cX2_follow 87 = .ok (.ifCond .eq 7, 3)) ∧ (decode cX2_follow 90 = .ok (.iconst 4, 1)) ∧ (decode cX2_follow 91 = .ok (.goto 4, 3)) := by decide +kernel
theorem dX2_follow_81 : decode cX2_follow 81 = .ok (.iload 4, 2) := dX2_follow_k17.1
theorem dX2_follow_83 : decode cX2_follow 83 = .ok (.iload_n 3, 1) := dX2_follow_k17.2.1
theorem dX2_follow_84 : decode cX2_follow 84 = .ok (.invokestatic 34, 3) := dX2_follow_k17.2.2.1
theorem dX2_follow_87 : decode cX2_follow 87 = .ok (.ifCond .eq 7, 3) := dX2_follow_k17.2.2.2.1
theorem dX2_follow_90 : decode cX2_follow 90 = .ok (.iconst 4, 1) := dX2_follow_k17.2.2.2.2.1
theorem dX2_follow_91 : decode cX2_follow 91 = .ok (.goto 4, 3) := dX2_follow_k17.2.2.2.2.2
set_option maxRecDepth 100000 in
theorem dX2_follow_k18 : (decode cX2_follow 94 = .ok (.iconst 5, 1)) ∧ (decode cX2_follow 95 = .ok (.ireturn, 1)) ∧ (decode cX2_follow 96 = .ok (.iload 4, 2)) ∧ (decode cX2_follow 98 = .ok (.bipush 48, 2)) ∧ (decode cX2_follow 100 = .ok (.if_icmp .lt 14, 3)) ∧ (decode cX2_follow 103 = .ok (.iload 4, 2)) := by decide +kernel
theorem dX2_follow_94 : decode cX2_follow 94 = .ok (.iconst 5, 1) := dX2_follow_k18.1
theorem dX2_follow_95 : decode cX2_follow 95 = .ok (.ireturn, 1) := dX2_follow_k18.2.1
theorem dX2_follow_96 : decode cX2_follow 96 = .ok (.iload 4, 2) := dX2_follow_k18.2.2.1
theorem dX2_follow_98 : decode cX2_follow 98 = .ok (.bipush 48, 2) := dX2_follow_k18.2.2.2.1
theorem dX2_follow_100 : decode cX2_follow 100 = .ok (.if_icmp .lt 14, 3) := dX2_follow_k18.2.2.2.2.1
theorem dX2_follow_103 : decode cX2_follow 103 = .ok (.iload 4, 2) := dX2_follow_k18.2.2.2.2.2
set_option maxRecDepth 100000 in
theorem dX2_follow_k19 : (decode cX2_follow 105 = .ok (.bipush 51, 2)) ∧ (decode cX2_follow 107 = .ok (.if_icmp .gt 7, 3)) ∧ (decode cX2_follow 110 = .ok (.iconst 0, 1)) ∧ (decode cX2_follow 111 = .ok (.goto 4, 3)) ∧ (decode cX2_follow 114 = .ok (.iconst 5, 1)) ∧ (decode cX2_follow 115 = .ok (.ireturn, 1)) := by decide +kernel
theorem dX2_follow_105 : decode cX2_follow 105 = .ok (.bipush 51, 2) := dX2_follow_k19.1
theorem dX2_follow_107 : decode cX2_follow 107 = .ok (.if_icmp .gt 7, 3) := dX2_follow_k19.2.1
theorem dX2_follow_110 : decode cX2_follow 110 = .ok (.iconst 0, 1) := dX2_follow_k19.2.2.1
theorem dX2_follow_111 : decode cX2_follow 111 = .ok (.goto 4, 3) := dX2_follow_k19.2.2.2.1
theorem dX2_follow_114 : decode cX2_follow 114 = .ok (.iconst 5, 1) := dX2_follow_k19.2.2.2.2.1
theorem dX2_follow_115 : decode cX2_follow 115 = .ok (.ireturn, 1) := dX2_follow_k19.2.2.2.2.2
set_option maxRecDepth 100000 in
theorem dX2_followStart_k20 : (decode cX2_followStart 0 = .ok (.iload_n 0, 1)) ∧ (decode cX2_followStart 1 = .ok (.bipush 46, 2)) ∧ (decode cX2_followStart 3 = .ok (.if_icmp .ne 5, 3)) ∧ (decode cX2_followStart 6 = .ok (.iconst 0, 1)) ∧ (decode cX2_followStart 7 = .ok (.ireturn, 1)) ∧ (decode cX2_followStart 8 = .ok (.iload_n 0, 1)) := by decide +kernel
theorem dX2_followStart_0 : decode cX2_followStart 0 = .ok (.iload_n 0, 1) := dX2_followStart_k20.1
theorem dX2_followStart_1 : decode cX2_followStart 1 = .ok (.bipush 46, 2) := dX2_followStart_k20.2.1
theorem dX2_followStart_3 : decode cX2_followStart 3 = .ok (.if_icmp .ne 5, 3) := dX2_followStart_k20.2.2.1
theorem dX2_followStart_6 : decode cX2_followStart 6 = .ok (.iconst 0, 1) := dX2_followStart_k20.2.2.2.1
theorem dX2_followStart_7 : decode cX2_followStart 7 = .ok (.ireturn, 1) := dX2_followStart_k20.2.2.2.2.1
theorem dX2_followStart_8 : decode cX2_followStart 8 = .ok (.iload_n 0, 1) := dX2_followStart_k20.2.2.2.2.2
set_option maxRecDepth 100000 in
theorem dX2_followStart_k21 : (decode cX2_followStart 9 = .ok (.invokestatic 38, 3)) ∧ (decode cX2_followStart 12 = .ok (.ifCond .eq 5, 3)) ∧ (decode cX2_followStart 15 = .ok (.iconst 1, 1)) ∧ (decode cX2_followStart 16 = .ok (.ireturn, 1)) ∧ (decode cX2_followStart 17 = .ok (.iload_n 0, 1)) ∧ (decode cX2_followStart 18 = .ok (.iload_n 1, 1)) := by decide +kernel
theorem dX2_followStart_9 : decode cX2_followStart 9 = .ok (.invokestatic 38, 3) := dX2_followStart_k21.1
theorem dX2_followStart_12 : decode cX2_followStart 12 = .ok (.ifCond .eq 5, 3) := dX2_followStart_k21.2.1
theorem dX2_followStart_15 : decode cX2_followStart 15 = .ok (.iconst 1, 1) := dX2_followStart_k21.2.2.1
theorem dX2_followStart_16 : decode cX2_followStart 16 = .ok (.ireturn, 1) := dX2_followStart_k21.2.2.2.1
theorem dX2_followStart_17 : decode cX2_followStart 17 = .ok (.iload_n 0, 1) := dX2_followStart_k21.2.2.2.2.1
theorem dX2_followStart_18 : decode cX2_followStart 18 = .ok (.iload_n 1, 1) := dX2_followStart_k21.2.2.2.2.2
set_option maxRecDepth 100000 in
theorem dX2_followStart_k22 : (decode cX2_followStart 19 = .ok (.invokestatic 34, 3)) ∧ (decode cX2_followStart 22 = .ok (.ifCond .eq 7, 3)) ∧ (decode cX2_followStart 25 = .ok (.iconst 3, 1)) ∧ (decode cX2_followStart 26 = .ok (.goto 4, 3)) ∧ (decode cX2_followStart 29 = .ok (.iconst 5, 1)) ∧ (decode cX2_followStart 30 = .ok (.ireturn, 1)) := by decide +kernel
theorem dX2_followStart_19 : decode cX2_followStart 19 = .ok (.invokestatic 34, 3) := dX2_followStart_k22.1
theorem dX2_followStart_22 : decode cX2_followStart 22 = .ok (.ifCond .eq 7, 3) := dX2_followStart_k22.2.1
theorem dX2_followStart_25 : decode cX2_followStart 25 = .ok (.iconst 3, 1) := dX2_followStart_k22.2.2.1
theorem dX2_followStart_26 : decode cX2_followStart 26 = .ok (.goto 4, 3) := dX2_followStart_k22.2.2.2.1
theorem dX2_followStart_29 : decode cX2_followStart 29 = .ok (.iconst 5, 1) := dX2_followStart_k22.2.2.2.2.1
theorem dX2_followStart_30 : decode cX2_followStart 30 = .ok (.ireturn, 1) := dX2_followStart_k22.2.2.2.2.2
set_option maxRecDepth 100000 in
theorem dX2_followGuest_k23 : (decode cX2_followGuest 0 = .ok (.iload_n 0, 1)) ∧ (decode cX2_followGuest 1 = .ok (.invokestatic 38, 3)) ∧ (decode cX2_followGuest 4 = .ok (.ifCond .eq 14, 3)) ∧ (decode cX2_followGuest 7 = .ok (.iload_n 0, 1)) ∧ (decode cX2_followGuest 8 = .ok (.iload_n 1, 1)) ∧ (decode cX2_followGuest 9 = .ok (.if_icmp .le 7, 3)) := by decide +kernel
theorem dX2_followGuest_0 : decode cX2_followGuest 0 = .ok (.iload_n 0, 1) := dX2_followGuest_k23.1
theorem dX2_followGuest_1 : decode cX2_followGuest 1 = .ok (.invokestatic 38, 3) := dX2_followGuest_k23.2.1
theorem dX2_followGuest_4 : decode cX2_followGuest 4 = .ok (.ifCond .eq 14, 3) := dX2_followGuest_k23.2.2.1
theorem dX2_followGuest_7 : decode cX2_followGuest 7 = .ok (.iload_n 0, 1) := dX2_followGuest_k23.2.2.2.1
theorem dX2_followGuest_8 : decode cX2_followGuest 8 = .ok (.iload_n 1, 1) := dX2_followGuest_k23.2.2.2.2.1
theorem dX2_followGuest_9 : decode cX2_followGuest 9 = .ok (.if_icmp .le 7, 3) := dX2_followGuest_k23.2.2.2.2.2
set_option maxRecDepth 100000 in
theorem dX2_followGuest_k24 : (decode cX2_followGuest 12 = .ok (.iconst 2, 1)) ∧ (decode cX2_followGuest 13 = .ok (.goto 4, 3)) ∧ (decode cX2_followGuest 16 = .ok (.iconst 5, 1)) ∧ (decode cX2_followGuest 17 = .ok (.ireturn, 1)) ∧ (decode cX2_followGuest 18 = .ok (.iload_n 0, 1)) ∧ (decode cX2_followGuest 19 = .ok (.bipush 95, 2)) := by decide +kernel
theorem dX2_followGuest_12 : decode cX2_followGuest 12 = .ok (.iconst 2, 1) := dX2_followGuest_k24.1
theorem dX2_followGuest_13 : decode cX2_followGuest 13 = .ok (.goto 4, 3) := dX2_followGuest_k24.2.1
theorem dX2_followGuest_16 : decode cX2_followGuest 16 = .ok (.iconst 5, 1) := dX2_followGuest_k24.2.2.1
theorem dX2_followGuest_17 : decode cX2_followGuest 17 = .ok (.ireturn, 1) := dX2_followGuest_k24.2.2.2.1
theorem dX2_followGuest_18 : decode cX2_followGuest 18 = .ok (.iload_n 0, 1) := dX2_followGuest_k24.2.2.2.2.1
theorem dX2_followGuest_19 : decode cX2_followGuest 19 = .ok (.bipush 95, 2) := dX2_followGuest_k24.2.2.2.2.2
set_option maxRecDepth 100000 in
theorem dX2_followGuest_k25 : (decode cX2_followGuest 21 = .ok (.if_icmp .eq 17, 3)) ∧ (decode cX2_followGuest 24 = .ok (.iload_n 0, 1)) ∧ (decode cX2_followGuest 25 = .ok (.bipush 94, 2)) ∧ (decode cX2_followGuest 27 = .ok (.if_icmp .eq 11, 3)) ∧ (decode cX2_followGuest 30 = .ok (.iload_n 0, 1)) ∧ (decode cX2_followGuest 31 = .ok (.iload_n 2, 1)) := by decide +kernel
theorem dX2_followGuest_21 : decode cX2_followGuest 21 = .ok (.if_icmp .eq 17, 3) := dX2_followGuest_k25.1
theorem dX2_followGuest_24 : decode cX2_followGuest 24 = .ok (.iload_n 0, 1) := dX2_followGuest_k25.2.1
theorem dX2_followGuest_25 : decode cX2_followGuest 25 = .ok (.bipush 94, 2) := dX2_followGuest_k25.2.2.1
theorem dX2_followGuest_27 : decode cX2_followGuest 27 = .ok (.if_icmp .eq 11, 3) := dX2_followGuest_k25.2.2.2.1
theorem dX2_followGuest_30 : decode cX2_followGuest 30 = .ok (.iload_n 0, 1) := dX2_followGuest_k25.2.2.2.2.1
theorem dX2_followGuest_31 : decode cX2_followGuest 31 = .ok (.iload_n 2, 1) := dX2_followGuest_k25.2.2.2.2.2
set_option maxRecDepth 100000 in
theorem dX2_followGuest_k26 : (decode cX2_followGuest 32 = .ok (.invokestatic 34, 3)) ∧ (decode cX2_followGuest 35 = .ok (.ifCond .eq 7, 3)) ∧ (decode cX2_followGuest 38 = .ok (.iconst 0, 1)) ∧ (decode cX2_followGuest 39 = .ok (.goto 4, 3)) ∧ (decode cX2_followGuest 42 = .ok (.iconst 5, 1)) ∧ (decode cX2_followGuest 43 = .ok (.ireturn, 1)) := by decide +kernel
theorem dX2_followGuest_32 : decode cX2_followGuest 32 = .ok (.invokestatic 34, 3) := dX2_followGuest_k26.1
theorem dX2_followGuest_35 : decode cX2_followGuest 35 = .ok (.ifCond .eq 7, 3) := dX2_followGuest_k26.2.1
theorem dX2_followGuest_38 : decode cX2_followGuest 38 = .ok (.iconst 0, 1) := dX2_followGuest_k26.2.2.1
theorem dX2_followGuest_39 : decode cX2_followGuest 39 = .ok (.goto 4, 3) := dX2_followGuest_k26.2.2.2.1
theorem dX2_followGuest_42 : decode cX2_followGuest 42 = .ok (.iconst 5, 1) := dX2_followGuest_k26.2.2.2.2.1
theorem dX2_followGuest_43 : decode cX2_followGuest 43 = .ok (.ireturn, 1) := dX2_followGuest_k26.2.2.2.2.2
set_option maxRecDepth 100000 in
theorem dX2_isGuestLetter_k27 : (decode cX2_isGuestLetter 0 = .ok (.iload_n 0, 1)) ∧ (decode cX2_isGuestLetter 1 = .ok (.bipush 65, 2)) ∧ (decode cX2_isGuestLetter 3 = .ok (.if_icmp .lt 13, 3)) ∧ (decode cX2_isGuestLetter 6 = .ok (.iload_n 0, 1)) ∧ (decode cX2_isGuestLetter 7 = .ok (.bipush 72, 2)) ∧ (decode cX2_isGuestLetter 9 = .ok (.if_icmp .gt 7, 3)) := by decide +kernel
theorem dX2_isGuestLetter_0 : decode cX2_isGuestLetter 0 = .ok (.iload_n 0, 1) := dX2_isGuestLetter_k27.1
theorem dX2_isGuestLetter_1 : decode cX2_isGuestLetter 1 = .ok (.bipush 65, 2) := dX2_isGuestLetter_k27.2.1
theorem dX2_isGuestLetter_3 : decode cX2_isGuestLetter 3 = .ok (.if_icmp .lt 13, 3) := dX2_isGuestLetter_k27.2.2.1
theorem dX2_isGuestLetter_6 : decode cX2_isGuestLetter 6 = .ok (.iload_n 0, 1) := dX2_isGuestLetter_k27.2.2.2.1
theorem dX2_isGuestLetter_7 : decode cX2_isGuestLetter 7 = .ok (.bipush 72, 2) := dX2_isGuestLetter_k27.2.2.2.2.1
theorem dX2_isGuestLetter_9 : decode cX2_isGuestLetter 9 = .ok (.if_icmp .gt 7, 3) := dX2_isGuestLetter_k27.2.2.2.2.2
set_option maxRecDepth 100000 in
theorem dX2_isGuestLetter_k28 : (decode cX2_isGuestLetter 12 = .ok (.iconst 1, 1)) ∧ (decode cX2_isGuestLetter 13 = .ok (.goto 4, 3)) ∧ (decode cX2_isGuestLetter 16 = .ok (.iconst 0, 1)) ∧ (decode cX2_isGuestLetter 17 = .ok (.ireturn, 1)) := by decide +kernel
theorem dX2_isGuestLetter_12 : decode cX2_isGuestLetter 12 = .ok (.iconst 1, 1) := dX2_isGuestLetter_k28.1
theorem dX2_isGuestLetter_13 : decode cX2_isGuestLetter 13 = .ok (.goto 4, 3) := dX2_isGuestLetter_k28.2.1
theorem dX2_isGuestLetter_16 : decode cX2_isGuestLetter 16 = .ok (.iconst 0, 1) := dX2_isGuestLetter_k28.2.2.1
theorem dX2_isGuestLetter_17 : decode cX2_isGuestLetter 17 = .ok (.ireturn, 1) := dX2_isGuestLetter_k28.2.2.2
set_option maxRecDepth 100000 in
theorem dX2_isRoomLetter_k29 : (decode cX2_isRoomLetter 0 = .ok (.iload_n 0, 1)) ∧ (decode cX2_isRoomLetter 1 = .ok (.bipush 97, 2)) ∧ (decode cX2_isRoomLetter 3 = .ok (.if_icmp .lt 15, 3)) ∧ (decode cX2_isRoomLetter 6 = .ok (.iload_n 0, 1)) ∧ (decode cX2_isRoomLetter 7 = .ok (.bipush 97, 2)) ∧ (decode cX2_isRoomLetter 9 = .ok (.iload_n 1, 1)) := by decide +kernel
theorem dX2_isRoomLetter_0 : decode cX2_isRoomLetter 0 = .ok (.iload_n 0, 1) := dX2_isRoomLetter_k29.1
theorem dX2_isRoomLetter_1 : decode cX2_isRoomLetter 1 = .ok (.bipush 97, 2) := dX2_isRoomLetter_k29.2.1
theorem dX2_isRoomLetter_3 : decode cX2_isRoomLetter 3 = .ok (.if_icmp .lt 15, 3) := dX2_isRoomLetter_k29.2.2.1
theorem dX2_isRoomLetter_6 : decode cX2_isRoomLetter 6 = .ok (.iload_n 0, 1) := dX2_isRoomLetter_k29.2.2.2.1
theorem dX2_isRoomLetter_7 : decode cX2_isRoomLetter 7 = .ok (.bipush 97, 2) := dX2_isRoomLetter_k29.2.2.2.2.1
theorem dX2_isRoomLetter_9 : decode cX2_isRoomLetter 9 = .ok (.iload_n 1, 1) := dX2_isRoomLetter_k29.2.2.2.2.2
set_option maxRecDepth 100000 in
theorem dX2_isRoomLetter_k30 : (decode cX2_isRoomLetter 10 = .ok (.iadd, 1)) ∧ (decode cX2_isRoomLetter 11 = .ok (.if_icmp .ge 7, 3)) ∧ (decode cX2_isRoomLetter 14 = .ok (.iconst 1, 1)) ∧ (decode cX2_isRoomLetter 15 = .ok (.goto 4, 3)) ∧ (decode cX2_isRoomLetter 18 = .ok (.iconst 0, 1)) ∧ (decode cX2_isRoomLetter 19 = .ok (.ireturn, 1)) := by decide +kernel
theorem dX2_isRoomLetter_10 : decode cX2_isRoomLetter 10 = .ok (.iadd, 1) := dX2_isRoomLetter_k30.1
theorem dX2_isRoomLetter_11 : decode cX2_isRoomLetter 11 = .ok (.if_icmp .ge 7, 3) := dX2_isRoomLetter_k30.2.1
theorem dX2_isRoomLetter_14 : decode cX2_isRoomLetter 14 = .ok (.iconst 1, 1) := dX2_isRoomLetter_k30.2.2.1
theorem dX2_isRoomLetter_15 : decode cX2_isRoomLetter 15 = .ok (.goto 4, 3) := dX2_isRoomLetter_k30.2.2.2.1
theorem dX2_isRoomLetter_18 : decode cX2_isRoomLetter 18 = .ok (.iconst 0, 1) := dX2_isRoomLetter_k30.2.2.2.2.1
theorem dX2_isRoomLetter_19 : decode cX2_isRoomLetter 19 = .ok (.ireturn, 1) := dX2_isRoomLetter_k30.2.2.2.2.2
