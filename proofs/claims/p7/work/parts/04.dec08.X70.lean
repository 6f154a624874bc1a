set_option maxRecDepth 100000 in
theorem dX7_init_k0 : (decode cX7_init 0 = .ok (.aload_n 0, 1)) ∧ (decode cX7_init 1 = .ok (.invokespecial 3, 3)) ∧ (decode cX7_init 4 = .ok (.return_, 1)) := by decide +kernel
theorem dX7_init_0 : decode cX7_init 0 = .ok (.aload_n 0, 1) := dX7_init_k0.1
theorem dX7_init_1 : decode cX7_init 1 = .ok (.invokespecial 3, 3) := dX7_init_k0.2.1
theorem dX7_init_4 : decode cX7_init 4 = .ok (.return_, 1) := dX7_init_k0.2.2
set_option maxRecDepth 100000 in
theorem dX7_pass_k1 : (decode cX7_pass 0 = .ok (.aload_n 0, 1)) ∧ (decode cX7_pass 1 = .ok (.iconst 0, 1)) ∧ (decode cX7_pass 2 = .ok (.putfield 9, 3)) ∧ (decode cX7_pass 5 = .ok (.aload_n 0, 1)) ∧ (decode cX7_pass 6 = .ok (.iconst 0, 1)) ∧ (decode cX7_pass 7 = .ok (.putfield 15, 3)) := by decide +kernel
theorem dX7_pass_0 : decode cX7_pass 0 = .ok (.aload_n 0, 1) := dX7_pass_k1.1
theorem dX7_pass_1 : decode cX7_pass 1 = .ok (.iconst 0, 1) := dX7_pass_k1.2.1
theorem dX7_pass_2 : decode cX7_pass 2 = .ok (.putfield 9, 3) := dX7_pass_k1.2.2.1
theorem dX7_pass_5 : decode cX7_pass 5 = .ok (.aload_n 0, 1) := dX7_pass_k1.2.2.2.1
theorem dX7_pass_6 : decode cX7_pass 6 = .ok (.iconst 0, 1) := dX7_pass_k1.2.2.2.2.1
theorem dX7_pass_7 : decode cX7_pass 7 = .ok (.putfield 15, 3) := dX7_pass_k1.2.2.2.2.2
set_option maxRecDepth 100000 in
theorem dX7_pass_k2 : (decode cX7_pass 10 = .ok (.iload_n 1, 1)) ∧ (decode cX7_pass 11 = .ok (.istore 4, 2)) ∧ (decode cX7_pass 13 = .ok (.iconst 0, 1)) ∧ (decode cX7_pass 14 = .ok (.istore 5, 2)) ∧ (decode cX7_pass 16 = .ok (.iload 5, 2)) ∧ (decode cX7_pass 18 = .ok (.iload_n 2, 1)) := by decide +kernel
theorem dX7_pass_10 : decode cX7_pass 10 = .ok (.iload_n 1, 1) := dX7_pass_k2.1
theorem dX7_pass_11 : decode cX7_pass 11 = .ok (.istore 4, 2) := dX7_pass_k2.2.1
theorem dX7_pass_13 : decode cX7_pass 13 = .ok (.iconst 0, 1) := dX7_pass_k2.2.2.1
theorem dX7_pass_14 : decode cX7_pass 14 = .ok (.istore 5, 2) := dX7_pass_k2.2.2.2.1
theorem dX7_pass_16 : decode cX7_pass 16 = .ok (.iload 5, 2) := dX7_pass_k2.2.2.2.2.1
theorem dX7_pass_18 : decode cX7_pass 18 = .ok (.iload_n 2, 1) := dX7_pass_k2.2.2.2.2.2
set_option maxRecDepth 100000 in
theorem dX7_pass_k3 : (decode cX7_pass 19 = .ok (.if_icmp .ge 45, 3)) ∧ (decode cX7_pass 22 = .ok (.bipush 75, 2)) ∧ (decode cX7_pass 24 = .ok (.iload 4, 2)) ∧ (decode cX7_pass 26 = .ok (.imul, 1)) ∧ (decode cX7_pass 27 = .ok (.bipush 74, 2)) ∧ (decode cX7_pass 29 = .ok (.iadd, 1)) := by decide +kernel
theorem dX7_pass_19 : decode cX7_pass 19 = .ok (.if_icmp .ge 45, 3) := dX7_pass_k3.1
theorem dX7_pass_22 : decode cX7_pass 22 = .ok (.bipush 75, 2) := dX7_pass_k3.2.1
theorem dX7_pass_24 : decode cX7_pass 24 = .ok (.iload 4, 2) := dX7_pass_k3.2.2.1
theorem dX7_pass_26 : decode cX7_pass 26 = .ok (.imul, 1) := dX7_pass_k3.2.2.2.1
theorem dX7_pass_27 : decode cX7_pass 27 = .ok (.bipush 74, 2) := dX7_pass_k3.2.2.2.2.1
theorem dX7_pass_29 : decode cX7_pass 29 = .ok (.iadd, 1) := dX7_pass_k3.2.2.2.2.2
set_option maxRecDepth 100000 in
theorem dX7_pass_k4 : (decode cX7_pass 30 = .ok (.ldc 18, 2)) ∧ (decode cX7_pass 32 = .ok (.irem, 1)) ∧ (decode cX7_pass 33 = .ok (.istore 4, 2)) ∧ (decode cX7_pass 35 = .ok (.aload_n 0, 1)) ∧ (decode cX7_pass 36 = .ok (.iload 4, 2)) ∧ (decode cX7_pass 38 = .ok (.aload_n 3, 1)) := by decide +kernel
theorem dX7_pass_30 : decode cX7_pass 30 = .ok (.ldc 18, 2) := dX7_pass_k4.1
theorem dX7_pass_32 : decode cX7_pass 32 = .ok (.irem, 1) := dX7_pass_k4.2.1
theorem dX7_pass_33 : decode cX7_pass 33 = .ok (.istore 4, 2) := dX7_pass_k4.2.2.1
theorem dX7_pass_35 : decode cX7_pass 35 = .ok (.aload_n 0, 1) := dX7_pass_k4.2.2.2.1
theorem dX7_pass_36 : decode cX7_pass 36 = .ok (.iload 4, 2) := dX7_pass_k4.2.2.2.2.1
theorem dX7_pass_38 : decode cX7_pass 38 = .ok (.aload_n 3, 1) := dX7_pass_k4.2.2.2.2.2
set_option maxRecDepth 100000 in
theorem dX7_pass_k5 : (decode cX7_pass 39 = .ok (.getfield 19, 3)) ∧ (decode cX7_pass 42 = .ok (.invokevirtual 25, 3)) ∧ (decode cX7_pass 45 = .ok (.aload_n 0, 1)) ∧ (decode cX7_pass 46 = .ok (.dup, 1)) ∧ (decode cX7_pass 47 = .ok (.getfield 9, 3)) ∧ (decode cX7_pass 50 = .ok (.aload_n 3, 1)) := by decide +kernel
theorem dX7_pass_39 : decode cX7_pass 39 = .ok (.getfield 19, 3) := dX7_pass_k5.1
theorem dX7_pass_42 : decode cX7_pass 42 = .ok (.invokevirtual 25, 3) := dX7_pass_k5.2.1
theorem dX7_pass_45 : decode cX7_pass 45 = .ok (.aload_n 0, 1) := dX7_pass_k5.2.2.1
theorem dX7_pass_46 : decode cX7_pass 46 = .ok (.dup, 1) := dX7_pass_k5.2.2.2.1
theorem dX7_pass_47 : decode cX7_pass 47 = .ok (.getfield 9, 3) := dX7_pass_k5.2.2.2.2.1
theorem dX7_pass_50 : decode cX7_pass 50 = .ok (.aload_n 3, 1) := dX7_pass_k5.2.2.2.2.2
set_option maxRecDepth 100000 in
theorem dX7_pass_k6 : (decode cX7_pass 51 = .ok (.invokevirtual 29, 3)) ∧ (decode cX7_pass 54 = .ok (.iadd, 1)) ∧ (decode cX7_pass 55 = .ok (.putfield 9, 3)) ∧ (decode cX7_pass 58 = .ok (.iinc 5 1, 3)) ∧ (decode cX7_pass 61 = .ok (.goto (-45), 3)) ∧ (decode cX7_pass 64 = .ok (.return_, 1)) := by decide +kernel
theorem dX7_pass_51 : decode cX7_pass 51 = .ok (.invokevirtual 29, 3) := dX7_pass_k6.1
theorem dX7_pass_54 : decode cX7_pass 54 = .ok (.iadd, 1) := dX7_pass_k6.2.1
theorem dX7_pass_55 : decode cX7_pass 55 = .ok (.putfield 9, 3) := dX7_pass_k6.2.2.1
theorem dX7_pass_58 : decode cX7_pass 58 = .ok (.iinc 5 1, 3) := dX7_pass_k6.2.2.2.1
theorem dX7_pass_61 : decode cX7_pass 61 = .ok (.goto (-45), 3) := dX7_pass_k6.2.2.2.2.1
theorem dX7_pass_64 : decode cX7_pass 64 = .ok (.return_, 1) := dX7_pass_k6.2.2.2.2.2
set_option maxRecDepth 100000 in
theorem dX7_meet_k7 : (decode cX7_meet 0 = .ok (.iload_n 1, 1)) ∧ (decode cX7_meet 1 = .ok (.bipush 8, 2)) ∧ (decode cX7_meet 3 = .ok (.irem, 1)) ∧ (decode cX7_meet 4 = .ok (.istore_n 3, 1)) ∧ (decode cX7_meet 5 = .ok (.iload_n 1, 1)) ∧ (decode cX7_meet 6 = .ok (.bipush 8, 2)) := by decide +kernel
theorem dX7_meet_0 : decode cX7_meet 0 = .ok (.iload_n 1, 1) := dX7_meet_k7.1
theorem dX7_meet_1 : decode cX7_meet 1 = .ok (.bipush 8, 2) := dX7_meet_k7.2.1
theorem dX7_meet_3 : decode cX7_meet 3 = .ok (.irem, 1) := dX7_meet_k7.2.2.1
theorem dX7_meet_4 : decode cX7_meet 4 = .ok (.istore_n 3, 1) := dX7_meet_k7.2.2.2.1
theorem dX7_meet_5 : decode cX7_meet 5 = .ok (.iload_n 1, 1) := dX7_meet_k7.2.2.2.2.1
theorem dX7_meet_6 : decode cX7_meet 6 = .ok (.bipush 8, 2) := dX7_meet_k7.2.2.2.2.2
set_option maxRecDepth 100000 in
theorem dX7_meet_k8 : (decode cX7_meet 8 = .ok (.idiv, 1)) ∧ (decode cX7_meet 9 = .ok (.bipush 8, 2)) ∧ (decode cX7_meet 11 = .ok (.irem, 1)) ∧ (decode cX7_meet 12 = .ok (.istore 4, 2)) ∧ (decode cX7_meet 14 = .ok (.iload_n 3, 1)) ∧ (decode cX7_meet 15 = .ok (.iload 4, 2)) := by decide +kernel
theorem dX7_meet_8 : decode cX7_meet 8 = .ok (.idiv, 1) := dX7_meet_k8.1
theorem dX7_meet_9 : decode cX7_meet 9 = .ok (.bipush 8, 2) := dX7_meet_k8.2.1
theorem dX7_meet_11 : decode cX7_meet 11 = .ok (.irem, 1) := dX7_meet_k8.2.2.1
theorem dX7_meet_12 : decode cX7_meet 12 = .ok (.istore 4, 2) := dX7_meet_k8.2.2.2.1
theorem dX7_meet_14 : decode cX7_meet 14 = .ok (.iload_n 3, 1) := dX7_meet_k8.2.2.2.2.1
theorem dX7_meet_15 : decode cX7_meet 15 = .ok (.iload 4, 2) := dX7_meet_k8.2.2.2.2.2
set_option maxRecDepth 100000 in
theorem dX7_meet_k9 : (decode cX7_meet 17 = .ok (.if_icmp .eq 38, 3)) ∧ (decode cX7_meet 20 = .ok (.aload_n 2, 1)) ∧ (decode cX7_meet 21 = .ok (.iload_n 3, 1)) ∧ (decode cX7_meet 22 = .ok (.iload 4, 2)) ∧ (decode cX7_meet 24 = .ok (.invokevirtual 33, 3)) ∧ (decode cX7_meet 27 = .ok (.ifCond .ne 28, 3)) := by decide +kernel
theorem dX7_meet_17 : decode cX7_meet 17 = .ok (.if_icmp .eq 38, 3) := dX7_meet_k9.1
theorem dX7_meet_20 : decode cX7_meet 20 = .ok (.aload_n 2, 1) := dX7_meet_k9.2.1
theorem dX7_meet_21 : decode cX7_meet 21 = .ok (.iload_n 3, 1) := dX7_meet_k9.2.2.1
theorem dX7_meet_22 : decode cX7_meet 22 = .ok (.iload 4, 2) := dX7_meet_k9.2.2.2.1
theorem dX7_meet_24 : decode cX7_meet 24 = .ok (.invokevirtual 33, 3) := dX7_meet_k9.2.2.2.2.1
theorem dX7_meet_27 : decode cX7_meet 27 = .ok (.ifCond .ne 28, 3) := dX7_meet_k9.2.2.2.2.2
set_option maxRecDepth 100000 in
theorem dX7_meet_k10 : (decode cX7_meet 30 = .ok (.aload_n 2, 1)) ∧ (decode cX7_meet 31 = .ok (.iload_n 3, 1)) ∧ (decode cX7_meet 32 = .ok (.iload 4, 2)) ∧ (decode cX7_meet 34 = .ok (.iconst 1, 1)) ∧ (decode cX7_meet 35 = .ok (.iload_n 1, 1)) ∧ (decode cX7_meet 36 = .ok (.bipush 64, 2)) := by decide +kernel
theorem dX7_meet_30 : decode cX7_meet 30 = .ok (.aload_n 2, 1) := dX7_meet_k10.1
theorem dX7_meet_31 : decode cX7_meet 31 = .ok (.iload_n 3, 1) := dX7_meet_k10.2.1
theorem dX7_meet_32 : decode cX7_meet 32 = .ok (.iload 4, 2) := dX7_meet_k10.2.2.1
theorem dX7_meet_34 : decode cX7_meet 34 = .ok (.iconst 1, 1) := dX7_meet_k10.2.2.2.1
theorem dX7_meet_35 : decode cX7_meet 35 = .ok (.iload_n 1, 1) := dX7_meet_k10.2.2.2.2.1
theorem dX7_meet_36 : decode cX7_meet 36 = .ok (.bipush 64, 2) := dX7_meet_k10.2.2.2.2.2
set_option maxRecDepth 100000 in
theorem dX7_meet_k11 : (decode cX7_meet 38 = .ok (.idiv, 1)) ∧ (decode cX7_meet 39 = .ok (.iconst 5, 1)) ∧ (decode cX7_meet 40 = .ok (.irem, 1)) ∧ (decode cX7_meet 41 = .ok (.iadd, 1)) ∧ (decode cX7_meet 42 = .ok (.invokevirtual 39, 3)) ∧ (decode cX7_meet 45 = .ok (.aload_n 0, 1)) := by decide +kernel
theorem dX7_meet_38 : decode cX7_meet 38 = .ok (.idiv, 1) := dX7_meet_k11.1
theorem dX7_meet_39 : decode cX7_meet 39 = .ok (.iconst 5, 1) := dX7_meet_k11.2.1
theorem dX7_meet_40 : decode cX7_meet 40 = .ok (.irem, 1) := dX7_meet_k11.2.2.1
theorem dX7_meet_41 : decode cX7_meet 41 = .ok (.iadd, 1) := dX7_meet_k11.2.2.2.1
theorem dX7_meet_42 : decode cX7_meet 42 = .ok (.invokevirtual 39, 3) := dX7_meet_k11.2.2.2.2.1
theorem dX7_meet_45 : decode cX7_meet 45 = .ok (.aload_n 0, 1) := dX7_meet_k11.2.2.2.2.2
set_option maxRecDepth 100000 in
theorem dX7_meet_k12 : (decode cX7_meet 46 = .ok (.dup, 1)) ∧ (decode cX7_meet 47 = .ok (.getfield 15, 3)) ∧ (decode cX7_meet 50 = .ok (.iconst 1, 1)) ∧ (decode cX7_meet 51 = .ok (.iadd, 1)) ∧ (decode cX7_meet 52 = .ok (.putfield 15, 3)) ∧ (decode cX7_meet 55 = .ok (.return_, 1)) := by decide +kernel
theorem dX7_meet_46 : decode cX7_meet 46 = .ok (.dup, 1) := dX7_meet_k12.1
theorem dX7_meet_47 : decode cX7_meet 47 = .ok (.getfield 15, 3) := dX7_meet_k12.2.1
theorem dX7_meet_50 : decode cX7_meet 50 = .ok (.iconst 1, 1) := dX7_meet_k12.2.2.1
theorem dX7_meet_51 : decode cX7_meet 51 = .ok (.iadd, 1) := dX7_meet_k12.2.2.2.1
theorem dX7_meet_52 : decode cX7_meet 52 = .ok (.putfield 15, 3) := dX7_meet_k12.2.2.2.2.1
theorem dX7_meet_55 : decode cX7_meet 55 = .ok (.return_, 1) := dX7_meet_k12.2.2.2.2.2
