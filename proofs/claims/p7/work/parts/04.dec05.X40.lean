set_option maxRecDepth 100000 in
theorem dX4_init_k0 : (decode cX4_init 0 = .ok (.aload_n 0, 1)) ∧ (decode cX4_init 1 = .ok (.invokespecial 3, 3)) ∧ (decode cX4_init 4 = .ok (.aload_n 0, 1)) ∧ (decode cX4_init 5 = .ok (.bipush 6, 2)) ∧ (decode cX4_init 7 = .ok (.newarray .int, 2)) ∧ (decode cX4_init 9 = .ok (.putfield 9, 3)) := by decide +kernel
theorem dX4_init_0 : decode cX4_init 0 = .ok (.aload_n 0, 1) := dX4_init_k0.1
theorem dX4_init_1 : decode cX4_init 1 = .ok (.invokespecial 3, 3) := dX4_init_k0.2.1
theorem dX4_init_4 : decode cX4_init 4 = .ok (.aload_n 0, 1) := dX4_init_k0.2.2.1
theorem dX4_init_5 : decode cX4_init 5 = .ok (.bipush 6, 2) := dX4_init_k0.2.2.2.1
theorem dX4_init_7 : decode cX4_init 7 = .ok (.newarray .int, 2) := dX4_init_k0.2.2.2.2.1
theorem dX4_init_9 : decode cX4_init 9 = .ok (.putfield 9, 3) := dX4_init_k0.2.2.2.2.2
set_option maxRecDepth 100000 in
theorem dX4_init_k1 : (decode cX4_init 12 = .ok (.aload_n 0, 1)) ∧ (decode cX4_init 13 = .ok (.bipush 6, 2)) ∧ (decode cX4_init 15 = .ok (.newarray .int, 2)) ∧ (decode cX4_init 17 = .ok (.putfield 15, 3)) ∧ (decode cX4_init 20 = .ok (.aload_n 0, 1)) ∧ (decode cX4_init 21 = .ok (.bipush 36, 2)) := by decide +kernel
theorem dX4_init_12 : decode cX4_init 12 = .ok (.aload_n 0, 1) := dX4_init_k1.1
theorem dX4_init_13 : decode cX4_init 13 = .ok (.bipush 6, 2) := dX4_init_k1.2.1
theorem dX4_init_15 : decode cX4_init 15 = .ok (.newarray .int, 2) := dX4_init_k1.2.2.1
theorem dX4_init_17 : decode cX4_init 17 = .ok (.putfield 15, 3) := dX4_init_k1.2.2.2.1
theorem dX4_init_20 : decode cX4_init 20 = .ok (.aload_n 0, 1) := dX4_init_k1.2.2.2.2.1
theorem dX4_init_21 : decode cX4_init 21 = .ok (.bipush 36, 2) := dX4_init_k1.2.2.2.2.2
set_option maxRecDepth 100000 in
theorem dX4_init_k2 : (decode cX4_init 23 = .ok (.newarray .int, 2)) ∧ (decode cX4_init 25 = .ok (.putfield 18, 3)) ∧ (decode cX4_init 28 = .ok (.aload_n 0, 1)) ∧ (decode cX4_init 29 = .ok (.bipush 6, 2)) ∧ (decode cX4_init 31 = .ok (.newarray .int, 2)) ∧ (decode cX4_init 33 = .ok (.putfield 21, 3)) := by decide +kernel
theorem dX4_init_23 : decode cX4_init 23 = .ok (.newarray .int, 2) := dX4_init_k2.1
theorem dX4_init_25 : decode cX4_init 25 = .ok (.putfield 18, 3) := dX4_init_k2.2.1
theorem dX4_init_28 : decode cX4_init 28 = .ok (.aload_n 0, 1) := dX4_init_k2.2.2.1
theorem dX4_init_29 : decode cX4_init 29 = .ok (.bipush 6, 2) := dX4_init_k2.2.2.2.1
theorem dX4_init_31 : decode cX4_init 31 = .ok (.newarray .int, 2) := dX4_init_k2.2.2.2.2.1
theorem dX4_init_33 : decode cX4_init 33 = .ok (.putfield 21, 3) := dX4_init_k2.2.2.2.2.2
set_option maxRecDepth 100000 in
theorem dX4_init_k3 : (decode cX4_init 36 = .ok (.aload_n 0, 1)) ∧ (decode cX4_init 37 = .ok (.bipush 6, 2)) ∧ (decode cX4_init 39 = .ok (.newarray .int, 2)) ∧ (decode cX4_init 41 = .ok (.putfield 24, 3)) ∧ (decode cX4_init 44 = .ok (.aload_n 0, 1)) ∧ (decode cX4_init 45 = .ok (.bipush 6, 2)) := by decide +kernel
theorem dX4_init_36 : decode cX4_init 36 = .ok (.aload_n 0, 1) := dX4_init_k3.1
theorem dX4_init_37 : decode cX4_init 37 = .ok (.bipush 6, 2) := dX4_init_k3.2.1
theorem dX4_init_39 : decode cX4_init 39 = .ok (.newarray .int, 2) := dX4_init_k3.2.2.1
theorem dX4_init_41 : decode cX4_init 41 = .ok (.putfield 24, 3) := dX4_init_k3.2.2.2.1
theorem dX4_init_44 : decode cX4_init 44 = .ok (.aload_n 0, 1) := dX4_init_k3.2.2.2.2.1
theorem dX4_init_45 : decode cX4_init 45 = .ok (.bipush 6, 2) := dX4_init_k3.2.2.2.2.2
set_option maxRecDepth 100000 in
theorem dX4_init_k4 : (decode cX4_init 47 = .ok (.newarray .int, 2)) ∧ (decode cX4_init 49 = .ok (.putfield 27, 3)) ∧ (decode cX4_init 52 = .ok (.aload_n 0, 1)) ∧ (decode cX4_init 53 = .ok (.bipush 6, 2)) ∧ (decode cX4_init 55 = .ok (.newarray .int, 2)) ∧ (decode cX4_init 57 = .ok (.putfield 30, 3)) := by decide +kernel
theorem dX4_init_47 : decode cX4_init 47 = .ok (.newarray .int, 2) := dX4_init_k4.1
theorem dX4_init_49 : decode cX4_init 49 = .ok (.putfield 27, 3) := dX4_init_k4.2.1
theorem dX4_init_52 : decode cX4_init 52 = .ok (.aload_n 0, 1) := dX4_init_k4.2.2.1
theorem dX4_init_53 : decode cX4_init 53 = .ok (.bipush 6, 2) := dX4_init_k4.2.2.2.1
theorem dX4_init_55 : decode cX4_init 55 = .ok (.newarray .int, 2) := dX4_init_k4.2.2.2.2.1
theorem dX4_init_57 : decode cX4_init 57 = .ok (.putfield 30, 3) := dX4_init_k4.2.2.2.2.2
theorem dX4_init_60 : decode cX4_init 60 = .ok (.return_, 1) := by decide +kernel
set_option maxRecDepth 100000 in
theorem dX4_find_k5 : (decode cX4_find 0 = .ok (.aload_n 0, 1)) ∧ (decode cX4_find 1 = .ok (.iconst 0, 1)) ∧ (decode cX4_find 2 = .ok (.putfield 33, 3)) ∧ (decode cX4_find 5 = .ok (.aload_n 0, 1)) ∧ (decode cX4_find 6 = .ok (.iconst 0, 1)) ∧ (decode cX4_find 7 = .ok (.putfield 37, 3)) := by decide +kernel
theorem dX4_find_0 : decode cX4_find 0 = .ok (.aload_n 0, 1) := dX4_find_k5.1
theorem dX4_find_1 : decode cX4_find 1 = .ok (.iconst 0, 1) := dX4_find_k5.2.1
theorem dX4_find_2 : decode cX4_find 2 = .ok (.putfield 33, 3) := dX4_find_k5.2.2.1
theorem dX4_find_5 : decode cX4_find 5 = .ok (.aload_n 0, 1) := dX4_find_k5.2.2.2.1
theorem dX4_find_6 : decode cX4_find 6 = .ok (.iconst 0, 1) := dX4_find_k5.2.2.2.2.1
theorem dX4_find_7 : decode cX4_find 7 = .ok (.putfield 37, 3) := dX4_find_k5.2.2.2.2.2
set_option maxRecDepth 100000 in
theorem dX4_find_k6 : (decode cX4_find 10 = .ok (.aload_n 0, 1)) ∧ (decode cX4_find 11 = .ok (.iconst 0, 1)) ∧ (decode cX4_find 12 = .ok (.putfield 40, 3)) ∧ (decode cX4_find 15 = .ok (.aload_n 0, 1)) ∧ (decode cX4_find 16 = .ok (.aload_n 1, 1)) ∧ (decode cX4_find 17 = .ok (.getfield 43, 3)) := by decide +kernel
theorem dX4_find_10 : decode cX4_find 10 = .ok (.aload_n 0, 1) := dX4_find_k6.1
theorem dX4_find_11 : decode cX4_find 11 = .ok (.iconst 0, 1) := dX4_find_k6.2.1
theorem dX4_find_12 : decode cX4_find 12 = .ok (.putfield 40, 3) := dX4_find_k6.2.2.1
theorem dX4_find_15 : decode cX4_find 15 = .ok (.aload_n 0, 1) := dX4_find_k6.2.2.2.1
theorem dX4_find_16 : decode cX4_find 16 = .ok (.aload_n 1, 1) := dX4_find_k6.2.2.2.2.1
theorem dX4_find_17 : decode cX4_find 17 = .ok (.getfield 43, 3) := dX4_find_k6.2.2.2.2.2
set_option maxRecDepth 100000 in
theorem dX4_find_k7 : (decode cX4_find 20 = .ok (.putfield 48, 3)) ∧ (decode cX4_find 23 = .ok (.iconst 0, 1)) ∧ (decode cX4_find 24 = .ok (.istore_n 3, 1)) ∧ (decode cX4_find 25 = .ok (.iload_n 3, 1)) ∧ (decode cX4_find 26 = .ok (.bipush 8, 2)) ∧ (decode cX4_find 28 = .ok (.if_icmp .ge 32, 3)) := by decide +kernel
theorem dX4_find_20 : decode cX4_find 20 = .ok (.putfield 48, 3) := dX4_find_k7.1
theorem dX4_find_23 : decode cX4_find 23 = .ok (.iconst 0, 1) := dX4_find_k7.2.1
theorem dX4_find_24 : decode cX4_find 24 = .ok (.istore_n 3, 1) := dX4_find_k7.2.2.1
theorem dX4_find_25 : decode cX4_find 25 = .ok (.iload_n 3, 1) := dX4_find_k7.2.2.2.1
theorem dX4_find_26 : decode cX4_find 26 = .ok (.bipush 8, 2) := dX4_find_k7.2.2.2.2.1
theorem dX4_find_28 : decode cX4_find 28 = .ok (.if_icmp .ge 32, 3) := dX4_find_k7.2.2.2.2.2
set_option maxRecDepth 100000 in
theorem dX4_find_k8 : (decode cX4_find 31 = .ok (.iload_n 2, 1)) ∧ (decode cX4_find 32 = .ok (.iload_n 3, 1)) ∧ (decode cX4_find 33 = .ok (.invokestatic 49, 3)) ∧ (decode cX4_find 36 = .ok (.ifCond .eq 18, 3)) ∧ (decode cX4_find 39 = .ok (.aload_n 0, 1)) ∧ (decode cX4_find 40 = .ok (.getfield 40, 3)) := by decide +kernel
theorem dX4_find_31 : decode cX4_find 31 = .ok (.iload_n 2, 1) := dX4_find_k8.1
theorem dX4_find_32 : decode cX4_find 32 = .ok (.iload_n 3, 1) := dX4_find_k8.2.1
theorem dX4_find_33 : decode cX4_find 33 = .ok (.invokestatic 49, 3) := dX4_find_k8.2.2.1
theorem dX4_find_36 : decode cX4_find 36 = .ok (.ifCond .eq 18, 3) := dX4_find_k8.2.2.2.1
theorem dX4_find_39 : decode cX4_find 39 = .ok (.aload_n 0, 1) := dX4_find_k8.2.2.2.2.1
theorem dX4_find_40 : decode cX4_find 40 = .ok (.getfield 40, 3) := dX4_find_k8.2.2.2.2.2
set_option maxRecDepth 100000 in
theorem dX4_find_k9 : (decode cX4_find 43 = .ok (.bipush 6, 2)) ∧ (decode cX4_find 45 = .ok (.if_icmp .ge 9, 3)) ∧ (decode cX4_find 48 = .ok (.aload_n 0, 1)) ∧ (decode cX4_find 49 = .ok (.aload_n 1, 1)) ∧ (decode cX4_find 50 = .ok (.iload_n 3, 1)) ∧ (decode cX4_find 51 = .ok (.invokevirtual 53, 3)) := by decide +kernel
theorem dX4_find_43 : decode cX4_find 43 = .ok (.bipush 6, 2) := dX4_find_k9.1
theorem dX4_find_45 : decode cX4_find 45 = .ok (.if_icmp .ge 9, 3) := dX4_find_k9.2.1
theorem dX4_find_48 : decode cX4_find 48 = .ok (.aload_n 0, 1) := dX4_find_k9.2.2.1
theorem dX4_find_49 : decode cX4_find 49 = .ok (.aload_n 1, 1) := dX4_find_k9.2.2.2.1
theorem dX4_find_50 : decode cX4_find 50 = .ok (.iload_n 3, 1) := dX4_find_k9.2.2.2.2.1
theorem dX4_find_51 : decode cX4_find 51 = .ok (.invokevirtual 53, 3) := dX4_find_k9.2.2.2.2.2
set_option maxRecDepth 100000 in
theorem dX4_find_k10 : (decode cX4_find 54 = .ok (.iinc 3 1, 3)) ∧ (decode cX4_find 57 = .ok (.goto (-32), 3)) ∧ (decode cX4_find 60 = .ok (.iconst 0, 1)) ∧ (decode cX4_find 61 = .ok (.istore_n 3, 1)) ∧ (decode cX4_find 62 = .ok (.iload_n 3, 1)) ∧ (decode cX4_find 63 = .ok (.aload_n 0, 1)) := by decide +kernel
theorem dX4_find_54 : decode cX4_find 54 = .ok (.iinc 3 1, 3) := dX4_find_k10.1
theorem dX4_find_57 : decode cX4_find 57 = .ok (.goto (-32), 3) := dX4_find_k10.2.1
theorem dX4_find_60 : decode cX4_find 60 = .ok (.iconst 0, 1) := dX4_find_k10.2.2.1
theorem dX4_find_61 : decode cX4_find 61 = .ok (.istore_n 3, 1) := dX4_find_k10.2.2.2.1
theorem dX4_find_62 : decode cX4_find 62 = .ok (.iload_n 3, 1) := dX4_find_k10.2.2.2.2.1
theorem dX4_find_63 : decode cX4_find 63 = .ok (.aload_n 0, 1) := dX4_find_k10.2.2.2.2.2
set_option maxRecDepth 100000 in
theorem dX4_find_k11 : (decode cX4_find 64 = .ok (.getfield 48, 3)) ∧ (decode cX4_find 67 = .ok (.if_icmp .ge 38, 3)) ∧ (decode cX4_find 70 = .ok (.aload_n 0, 1)) ∧ (decode cX4_find 71 = .ok (.getfield 24, 3)) ∧ (decode cX4_find 74 = .ok (.iload_n 3, 1)) ∧ (decode cX4_find 75 = .ok (.aload_n 1, 1)) := by decide +kernel
theorem dX4_find_64 : decode cX4_find 64 = .ok (.getfield 48, 3) := dX4_find_k11.1
theorem dX4_find_67 : decode cX4_find 67 = .ok (.if_icmp .ge 38, 3) := dX4_find_k11.2.1
theorem dX4_find_70 : decode cX4_find 70 = .ok (.aload_n 0, 1) := dX4_find_k11.2.2.1
theorem dX4_find_71 : decode cX4_find 71 = .ok (.getfield 24, 3) := dX4_find_k11.2.2.2.1
theorem dX4_find_74 : decode cX4_find 74 = .ok (.iload_n 3, 1) := dX4_find_k11.2.2.2.2.1
theorem dX4_find_75 : decode cX4_find 75 = .ok (.aload_n 1, 1) := dX4_find_k11.2.2.2.2.2
set_option maxRecDepth 100000 in
theorem dX4_find_k12 : (decode cX4_find 76 = .ok (.iload_n 3, 1)) ∧ (decode cX4_find 77 = .ok (.invokevirtual 57, 3)) ∧ (decode cX4_find 80 = .ok (.iastore, 1)) ∧ (decode cX4_find 81 = .ok (.aload_n 0, 1)) ∧ (decode cX4_find 82 = .ok (.getfield 27, 3)) ∧ (decode cX4_find 85 = .ok (.iload_n 3, 1)) := by decide +kernel
theorem dX4_find_76 : decode cX4_find 76 = .ok (.iload_n 3, 1) := dX4_find_k12.1
theorem dX4_find_77 : decode cX4_find 77 = .ok (.invokevirtual 57, 3) := dX4_find_k12.2.1
theorem dX4_find_80 : decode cX4_find 80 = .ok (.iastore, 1) := dX4_find_k12.2.2.1
theorem dX4_find_81 : decode cX4_find 81 = .ok (.aload_n 0, 1) := dX4_find_k12.2.2.2.1
theorem dX4_find_82 : decode cX4_find 82 = .ok (.getfield 27, 3) := dX4_find_k12.2.2.2.2.1
theorem dX4_find_85 : decode cX4_find 85 = .ok (.iload_n 3, 1) := dX4_find_k12.2.2.2.2.2
set_option maxRecDepth 100000 in
theorem dX4_find_k13 : (decode cX4_find 86 = .ok (.aload_n 1, 1)) ∧ (decode cX4_find 87 = .ok (.iload_n 3, 1)) ∧ (decode cX4_find 88 = .ok (.invokevirtual 61, 3)) ∧ (decode cX4_find 91 = .ok (.iload_n 2, 1)) ∧ (decode cX4_find 92 = .ok (.iconst (-1), 1)) ∧ (decode cX4_find 93 = .ok (.ixor, 1)) := by decide +kernel
theorem dX4_find_86 : decode cX4_find 86 = .ok (.aload_n 1, 1) := dX4_find_k13.1
theorem dX4_find_87 : decode cX4_find 87 = .ok (.iload_n 3, 1) := dX4_find_k13.2.1
theorem dX4_find_88 : decode cX4_find 88 = .ok (.invokevirtual 61, 3) := dX4_find_k13.2.2.1
theorem dX4_find_91 : decode cX4_find 91 = .ok (.iload_n 2, 1) := dX4_find_k13.2.2.2.1
theorem dX4_find_92 : decode cX4_find 92 = .ok (.iconst (-1), 1) := dX4_find_k13.2.2.2.2.1
theorem dX4_find_93 : decode cX4_find 93 = .ok (.ixor, 1) := dX4_find_k13.2.2.2.2.2
set_option maxRecDepth 100000 in
theorem dX4_find_k14 : (decode cX4_find 94 = .ok (.iand, 1)) ∧ (decode cX4_find 95 = .ok (.invokestatic 64, 3)) ∧ (decode cX4_find 98 = .ok (.iastore, 1)) ∧ (decode cX4_find 99 = .ok (.iinc 3 1, 3)) ∧ (decode cX4_find 102 = .ok (.goto (-40), 3)) ∧ (decode cX4_find 105 = .ok (.aload_n 0, 1)) := by decide +kernel
theorem dX4_find_94 : decode cX4_find 94 = .ok (.iand, 1) := dX4_find_k14.1
theorem dX4_find_95 : decode cX4_find 95 = .ok (.invokestatic 64, 3) := dX4_find_k14.2.1
theorem dX4_find_98 : decode cX4_find 98 = .ok (.iastore, 1) := dX4_find_k14.2.2.1
theorem dX4_find_99 : decode cX4_find 99 = .ok (.iinc 3 1, 3) := dX4_find_k14.2.2.2.1
theorem dX4_find_102 : decode cX4_find 102 = .ok (.goto (-40), 3) := dX4_find_k14.2.2.2.2.1
theorem dX4_find_105 : decode cX4_find 105 = .ok (.aload_n 0, 1) := dX4_find_k14.2.2.2.2.2
set_option maxRecDepth 100000 in
theorem dX4_find_k15 : (decode cX4_find 106 = .ok (.iconst 0, 1)) ∧ (decode cX4_find 107 = .ok (.aload_n 0, 1)) ∧ (decode cX4_find 108 = .ok (.getfield 40, 3)) ∧ (decode cX4_find 111 = .ok (.invokevirtual 69, 3)) ∧ (decode cX4_find 114 = .ok (.return_, 1)) := by decide +kernel
theorem dX4_find_106 : decode cX4_find 106 = .ok (.iconst 0, 1) := dX4_find_k15.1
theorem dX4_find_107 : decode cX4_find 107 = .ok (.aload_n 0, 1) := dX4_find_k15.2.1
theorem dX4_find_108 : decode cX4_find 108 = .ok (.getfield 40, 3) := dX4_find_k15.2.2.1
theorem dX4_find_111 : decode cX4_find 111 = .ok (.invokevirtual 69, 3) := dX4_find_k15.2.2.2.1
theorem dX4_find_114 : decode cX4_find 114 = .ok (.return_, 1) := dX4_find_k15.2.2.2.2
set_option maxRecDepth 100000 in
theorem dX4_enlist_k16 : (decode cX4_enlist 0 = .ok (.aload_n 0, 1)) ∧ (decode cX4_enlist 1 = .ok (.getfield 9, 3)) ∧ (decode cX4_enlist 4 = .ok (.aload_n 0, 1)) ∧ (decode cX4_enlist 5 = .ok (.getfield 40, 3)) ∧ (decode cX4_enlist 8 = .ok (.iload_n 2, 1)) ∧ (decode cX4_enlist 9 = .ok (.iastore, 1)) := by decide +kernel
theorem dX4_enlist_0 : decode cX4_enlist 0 = .ok (.aload_n 0, 1) := dX4_enlist_k16.1
theorem dX4_enlist_1 : decode cX4_enlist 1 = .ok (.getfield 9, 3) := dX4_enlist_k16.2.1
theorem dX4_enlist_4 : decode cX4_enlist 4 = .ok (.aload_n 0, 1) := dX4_enlist_k16.2.2.1
theorem dX4_enlist_5 : decode cX4_enlist 5 = .ok (.getfield 40, 3) := dX4_enlist_k16.2.2.2.1
theorem dX4_enlist_8 : decode cX4_enlist 8 = .ok (.iload_n 2, 1) := dX4_enlist_k16.2.2.2.2.1
theorem dX4_enlist_9 : decode cX4_enlist 9 = .ok (.iastore, 1) := dX4_enlist_k16.2.2.2.2.2
set_option maxRecDepth 100000 in
theorem dX4_enlist_k17 : (decode cX4_enlist 10 = .ok (.aload_n 0, 1)) ∧ (decode cX4_enlist 11 = .ok (.getfield 15, 3)) ∧ (decode cX4_enlist 14 = .ok (.aload_n 0, 1)) ∧ (decode cX4_enlist 15 = .ok (.getfield 40, 3)) ∧ (decode cX4_enlist 18 = .ok (.aload_n 1, 1)) ∧ (decode cX4_enlist 19 = .ok (.getfield 73, 3)) := by decide +kernel
theorem dX4_enlist_10 : decode cX4_enlist 10 = .ok (.aload_n 0, 1) := dX4_enlist_k17.1
theorem dX4_enlist_11 : decode cX4_enlist 11 = .ok (.getfield 15, 3) := dX4_enlist_k17.2.1
theorem dX4_enlist_14 : decode cX4_enlist 14 = .ok (.aload_n 0, 1) := dX4_enlist_k17.2.2.1
theorem dX4_enlist_15 : decode cX4_enlist 15 = .ok (.getfield 40, 3) := dX4_enlist_k17.2.2.2.1
theorem dX4_enlist_18 : decode cX4_enlist 18 = .ok (.aload_n 1, 1) := dX4_enlist_k17.2.2.2.2.1
theorem dX4_enlist_19 : decode cX4_enlist 19 = .ok (.getfield 73, 3) := dX4_enlist_k17.2.2.2.2.2
set_option maxRecDepth 100000 in
theorem dX4_enlist_k18 : (decode cX4_enlist 22 = .ok (.iload_n 2, 1)) ∧ (decode cX4_enlist 23 = .ok (.iconst 5, 1)) ∧ (decode cX4_enlist 24 = .ok (.imul, 1)) ∧ (decode cX4_enlist 25 = .ok (.iconst 4, 1)) ∧ (decode cX4_enlist 26 = .ok (.iadd, 1)) ∧ (decode cX4_enlist 27 = .ok (.iaload, 1)) := by decide +kernel
theorem dX4_enlist_22 : decode cX4_enlist 22 = .ok (.iload_n 2, 1) := dX4_enlist_k18.1
theorem dX4_enlist_23 : decode cX4_enlist 23 = .ok (.iconst 5, 1) := dX4_enlist_k18.2.1
theorem dX4_enlist_24 : decode cX4_enlist 24 = .ok (.imul, 1) := dX4_enlist_k18.2.2.1
theorem dX4_enlist_25 : decode cX4_enlist 25 = .ok (.iconst 4, 1) := dX4_enlist_k18.2.2.2.1
theorem dX4_enlist_26 : decode cX4_enlist 26 = .ok (.iadd, 1) := dX4_enlist_k18.2.2.2.2.1
theorem dX4_enlist_27 : decode cX4_enlist 27 = .ok (.iaload, 1) := dX4_enlist_k18.2.2.2.2.2
set_option maxRecDepth 100000 in
theorem dX4_enlist_k19 : (decode cX4_enlist 28 = .ok (.iastore, 1)) ∧ (decode cX4_enlist 29 = .ok (.iconst 0, 1)) ∧ (decode cX4_enlist 30 = .ok (.istore_n 3, 1)) ∧ (decode cX4_enlist 31 = .ok (.iload_n 3, 1)) ∧ (decode cX4_enlist 32 = .ok (.aload_n 0, 1)) ∧ (decode cX4_enlist 33 = .ok (.getfield 48, 3)) := by decide +kernel
theorem dX4_enlist_28 : decode cX4_enlist 28 = .ok (.iastore, 1) := dX4_enlist_k19.1
theorem dX4_enlist_29 : decode cX4_enlist 29 = .ok (.iconst 0, 1) := dX4_enlist_k19.2.1
theorem dX4_enlist_30 : decode cX4_enlist 30 = .ok (.istore_n 3, 1) := dX4_enlist_k19.2.2.1
theorem dX4_enlist_31 : decode cX4_enlist 31 = .ok (.iload_n 3, 1) := dX4_enlist_k19.2.2.2.1
theorem dX4_enlist_32 : decode cX4_enlist 32 = .ok (.aload_n 0, 1) := dX4_enlist_k19.2.2.2.2.1
theorem dX4_enlist_33 : decode cX4_enlist 33 = .ok (.getfield 48, 3) := dX4_enlist_k19.2.2.2.2.2
set_option maxRecDepth 100000 in
theorem dX4_enlist_k20 : (decode cX4_enlist 36 = .ok (.if_icmp .ge 29, 3)) ∧ (decode cX4_enlist 39 = .ok (.aload_n 0, 1)) ∧ (decode cX4_enlist 40 = .ok (.getfield 18, 3)) ∧ (decode cX4_enlist 43 = .ok (.aload_n 0, 1)) ∧ (decode cX4_enlist 44 = .ok (.getfield 40, 3)) ∧ (decode cX4_enlist 47 = .ok (.bipush 6, 2)) := by decide +kernel
theorem dX4_enlist_36 : decode cX4_enlist 36 = .ok (.if_icmp .ge 29, 3) := dX4_enlist_k20.1
theorem dX4_enlist_39 : decode cX4_enlist 39 = .ok (.aload_n 0, 1) := dX4_enlist_k20.2.1
theorem dX4_enlist_40 : decode cX4_enlist 40 = .ok (.getfield 18, 3) := dX4_enlist_k20.2.2.1
theorem dX4_enlist_43 : decode cX4_enlist 43 = .ok (.aload_n 0, 1) := dX4_enlist_k20.2.2.2.1
theorem dX4_enlist_44 : decode cX4_enlist 44 = .ok (.getfield 40, 3) := dX4_enlist_k20.2.2.2.2.1
theorem dX4_enlist_47 : decode cX4_enlist 47 = .ok (.bipush 6, 2) := dX4_enlist_k20.2.2.2.2.2
set_option maxRecDepth 100000 in
theorem dX4_enlist_k21 : (decode cX4_enlist 49 = .ok (.imul, 1)) ∧ (decode cX4_enlist 50 = .ok (.iload_n 3, 1)) ∧ (decode cX4_enlist 51 = .ok (.iadd, 1)) ∧ (decode cX4_enlist 52 = .ok (.aload_n 1, 1)) ∧ (decode cX4_enlist 53 = .ok (.iload_n 2, 1)) ∧ (decode cX4_enlist 54 = .ok (.iload_n 3, 1)) := by decide +kernel
theorem dX4_enlist_49 : decode cX4_enlist 49 = .ok (.imul, 1) := dX4_enlist_k21.1
theorem dX4_enlist_50 : decode cX4_enlist 50 = .ok (.iload_n 3, 1) := dX4_enlist_k21.2.1
theorem dX4_enlist_51 : decode cX4_enlist 51 = .ok (.iadd, 1) := dX4_enlist_k21.2.2.1
theorem dX4_enlist_52 : decode cX4_enlist 52 = .ok (.aload_n 1, 1) := dX4_enlist_k21.2.2.2.1
theorem dX4_enlist_53 : decode cX4_enlist 53 = .ok (.iload_n 2, 1) := dX4_enlist_k21.2.2.2.2.1
theorem dX4_enlist_54 : decode cX4_enlist 54 = .ok (.iload_n 3, 1) := dX4_enlist_k21.2.2.2.2.2
set_option maxRecDepth 100000 in
theorem dX4_enlist_k22 : (decode cX4_enlist 55 = .ok (.invokevirtual 76, 3)) ∧ (decode cX4_enlist 58 = .ok (.iastore, 1)) ∧ (decode cX4_enlist 59 = .ok (.iinc 3 1, 3)) ∧ (decode cX4_enlist 62 = .ok (.goto (-31), 3)) ∧ (decode cX4_enlist 65 = .ok (.aload_n 0, 1)) ∧ (decode cX4_enlist 66 = .ok (.dup, 1)) := by decide +kernel
theorem dX4_enlist_55 : decode cX4_enlist 55 = .ok (.invokevirtual 76, 3) := dX4_enlist_k22.1
theorem dX4_enlist_58 : decode cX4_enlist 58 = .ok (.iastore, 1) := dX4_enlist_k22.2.1
theorem dX4_enlist_59 : decode cX4_enlist 59 = .ok (.iinc 3 1, 3) := dX4_enlist_k22.2.2.1
theorem dX4_enlist_62 : decode cX4_enlist 62 = .ok (.goto (-31), 3) := dX4_enlist_k22.2.2.2.1
theorem dX4_enlist_65 : decode cX4_enlist 65 = .ok (.aload_n 0, 1) := dX4_enlist_k22.2.2.2.2.1
theorem dX4_enlist_66 : decode cX4_enlist 66 = .ok (.dup, 1) := dX4_enlist_k22.2.2.2.2.2
set_option maxRecDepth 100000 in
theorem dX4_enlist_k23 : (decode cX4_enlist 67 = .ok (.getfield 40, 3)) ∧ (decode cX4_enlist 70 = .ok (.iconst 1, 1)) ∧ (decode cX4_enlist 71 = .ok (.iadd, 1)) ∧ (decode cX4_enlist 72 = .ok (.putfield 40, 3)) ∧ (decode cX4_enlist 75 = .ok (.return_, 1)) := by decide +kernel
theorem dX4_enlist_67 : decode cX4_enlist 67 = .ok (.getfield 40, 3) := dX4_enlist_k23.1
theorem dX4_enlist_70 : decode cX4_enlist 70 = .ok (.iconst 1, 1) := dX4_enlist_k23.2.1
theorem dX4_enlist_71 : decode cX4_enlist 71 = .ok (.iadd, 1) := dX4_enlist_k23.2.2.1
theorem dX4_enlist_72 : decode cX4_enlist 72 = .ok (.putfield 40, 3) := dX4_enlist_k23.2.2.2.1
theorem dX4_enlist_75 : decode cX4_enlist 75 = .ok (.return_, 1) := dX4_enlist_k23.2.2.2.2
set_option maxRecDepth 100000 in
theorem dX4_deal_k24 : (decode cX4_deal 0 = .ok (.iload_n 1, 1)) ∧ (decode cX4_deal 1 = .ok (.aload_n 0, 1)) ∧ (decode cX4_deal 2 = .ok (.getfield 48, 3)) ∧ (decode cX4_deal 5 = .ok (.if_icmp .lt 12, 3)) ∧ (decode cX4_deal 8 = .ok (.iload_n 2, 1)) ∧ (decode cX4_deal 9 = .ok (.ifCond .ne 7, 3)) := by decide +kernel
theorem dX4_deal_0 : decode cX4_deal 0 = .ok (.iload_n 1, 1) := dX4_deal_k24.1
theorem dX4_deal_1 : decode cX4_deal 1 = .ok (.aload_n 0, 1) := dX4_deal_k24.2.1
theorem dX4_deal_2 : decode cX4_deal 2 = .ok (.getfield 48, 3) := dX4_deal_k24.2.2.1
theorem dX4_deal_5 : decode cX4_deal 5 = .ok (.if_icmp .lt 12, 3) := dX4_deal_k24.2.2.2.1
theorem dX4_deal_8 : decode cX4_deal 8 = .ok (.iload_n 2, 1) := dX4_deal_k24.2.2.2.2.1
theorem dX4_deal_9 : decode cX4_deal 9 = .ok (.ifCond .ne 7, 3) := dX4_deal_k24.2.2.2.2.2
set_option maxRecDepth 100000 in
theorem dX4_deal_k25 : (decode cX4_deal 12 = .ok (.aload_n 0, 1)) ∧ (decode cX4_deal 13 = .ok (.invokevirtual 80, 3)) ∧ (decode cX4_deal 16 = .ok (.return_, 1)) ∧ (decode cX4_deal 17 = .ok (.iload_n 2, 1)) ∧ (decode cX4_deal 18 = .ok (.aload_n 0, 1)) ∧ (decode cX4_deal 19 = .ok (.getfield 24, 3)) := by decide +kernel
theorem dX4_deal_12 : decode cX4_deal 12 = .ok (.aload_n 0, 1) := dX4_deal_k25.1
theorem dX4_deal_13 : decode cX4_deal 13 = .ok (.invokevirtual 80, 3) := dX4_deal_k25.2.1
theorem dX4_deal_16 : decode cX4_deal 16 = .ok (.return_, 1) := dX4_deal_k25.2.2.1
theorem dX4_deal_17 : decode cX4_deal 17 = .ok (.iload_n 2, 1) := dX4_deal_k25.2.2.2.1
theorem dX4_deal_18 : decode cX4_deal 18 = .ok (.aload_n 0, 1) := dX4_deal_k25.2.2.2.2.1
theorem dX4_deal_19 : decode cX4_deal 19 = .ok (.getfield 24, 3) := dX4_deal_k25.2.2.2.2.2
set_option maxRecDepth 100000 in
theorem dX4_deal_k26 : (decode cX4_deal 22 = .ok (.iload_n 1, 1)) ∧ (decode cX4_deal 23 = .ok (.iaload, 1)) ∧ (decode cX4_deal 24 = .ok (.aload_n 0, 1)) ∧ (decode cX4_deal 25 = .ok (.getfield 27, 3)) ∧ (decode cX4_deal 28 = .ok (.iload_n 1, 1)) ∧ (decode cX4_deal 29 = .ok (.iaload, 1)) := by decide +kernel
theorem dX4_deal_22 : decode cX4_deal 22 = .ok (.iload_n 1, 1) := dX4_deal_k26.1
theorem dX4_deal_23 : decode cX4_deal 23 = .ok (.iaload, 1) := dX4_deal_k26.2.1
theorem dX4_deal_24 : decode cX4_deal 24 = .ok (.aload_n 0, 1) := dX4_deal_k26.2.2.1
theorem dX4_deal_25 : decode cX4_deal 25 = .ok (.getfield 27, 3) := dX4_deal_k26.2.2.2.1
theorem dX4_deal_28 : decode cX4_deal 28 = .ok (.iload_n 1, 1) := dX4_deal_k26.2.2.2.2.1
theorem dX4_deal_29 : decode cX4_deal 29 = .ok (.iaload, 1) := dX4_deal_k26.2.2.2.2.2
set_option maxRecDepth 100000 in
theorem dX4_deal_k27 : (decode cX4_deal 30 = .ok (.isub, 1)) ∧ (decode cX4_deal 31 = .ok (.invokestatic 83, 3)) ∧ (decode cX4_deal 34 = .ok (.istore_n 3, 1)) ∧ (decode cX4_deal 35 = .ok (.iconst 0, 1)) ∧ (decode cX4_deal 36 = .ok (.istore 4, 2)) ∧ (decode cX4_deal 38 = .ok (.iload 4, 2)) := by decide +kernel
theorem dX4_deal_30 : decode cX4_deal 30 = .ok (.isub, 1) := dX4_deal_k27.1
theorem dX4_deal_31 : decode cX4_deal 31 = .ok (.invokestatic 83, 3) := dX4_deal_k27.2.1
theorem dX4_deal_34 : decode cX4_deal 34 = .ok (.istore_n 3, 1) := dX4_deal_k27.2.2.1
theorem dX4_deal_35 : decode cX4_deal 35 = .ok (.iconst 0, 1) := dX4_deal_k27.2.2.2.1
theorem dX4_deal_36 : decode cX4_deal 36 = .ok (.istore 4, 2) := dX4_deal_k27.2.2.2.2.1
theorem dX4_deal_38 : decode cX4_deal 38 = .ok (.iload 4, 2) := dX4_deal_k27.2.2.2.2.2
set_option maxRecDepth 100000 in
theorem dX4_deal_k28 : (decode cX4_deal 40 = .ok (.iload_n 3, 1)) ∧ (decode cX4_deal 41 = .ok (.if_icmp .gt 28, 3)) ∧ (decode cX4_deal 44 = .ok (.aload_n 0, 1)) ∧ (decode cX4_deal 45 = .ok (.getfield 30, 3)) ∧ (decode cX4_deal 48 = .ok (.iload_n 1, 1)) ∧ (decode cX4_deal 49 = .ok (.iload 4, 2)) := by decide +kernel
theorem dX4_deal_40 : decode cX4_deal 40 = .ok (.iload_n 3, 1) := dX4_deal_k28.1
theorem dX4_deal_41 : decode cX4_deal 41 = .ok (.if_icmp .gt 28, 3) := dX4_deal_k28.2.1
theorem dX4_deal_44 : decode cX4_deal 44 = .ok (.aload_n 0, 1) := dX4_deal_k28.2.2.1
theorem dX4_deal_45 : decode cX4_deal 45 = .ok (.getfield 30, 3) := dX4_deal_k28.2.2.2.1
theorem dX4_deal_48 : decode cX4_deal 48 = .ok (.iload_n 1, 1) := dX4_deal_k28.2.2.2.2.1
theorem dX4_deal_49 : decode cX4_deal 49 = .ok (.iload 4, 2) := dX4_deal_k28.2.2.2.2.2
set_option maxRecDepth 100000 in
theorem dX4_deal_k29 : (decode cX4_deal 51 = .ok (.iastore, 1)) ∧ (decode cX4_deal 52 = .ok (.aload_n 0, 1)) ∧ (decode cX4_deal 53 = .ok (.iload_n 1, 1)) ∧ (decode cX4_deal 54 = .ok (.iconst 1, 1)) ∧ (decode cX4_deal 55 = .ok (.iadd, 1)) ∧ (decode cX4_deal 56 = .ok (.iload_n 2, 1)) := by decide +kernel
theorem dX4_deal_51 : decode cX4_deal 51 = .ok (.iastore, 1) := dX4_deal_k29.1
theorem dX4_deal_52 : decode cX4_deal 52 = .ok (.aload_n 0, 1) := dX4_deal_k29.2.1
theorem dX4_deal_53 : decode cX4_deal 53 = .ok (.iload_n 1, 1) := dX4_deal_k29.2.2.1
theorem dX4_deal_54 : decode cX4_deal 54 = .ok (.iconst 1, 1) := dX4_deal_k29.2.2.2.1
theorem dX4_deal_55 : decode cX4_deal 55 = .ok (.iadd, 1) := dX4_deal_k29.2.2.2.2.1
theorem dX4_deal_56 : decode cX4_deal 56 = .ok (.iload_n 2, 1) := dX4_deal_k29.2.2.2.2.2
set_option maxRecDepth 100000 in
theorem dX4_deal_k30 : (decode cX4_deal 57 = .ok (.iload 4, 2)) ∧ (decode cX4_deal 59 = .ok (.isub, 1)) ∧ (decode cX4_deal 60 = .ok (.invokevirtual 69, 3)) ∧ (decode cX4_deal 63 = .ok (.iinc 4 1, 3)) ∧ (decode cX4_deal 66 = .ok (.goto (-28), 3)) ∧ (decode cX4_deal 69 = .ok (.return_, 1)) := by decide +kernel
theorem dX4_deal_57 : decode cX4_deal 57 = .ok (.iload 4, 2) := dX4_deal_k30.1
theorem dX4_deal_59 : decode cX4_deal 59 = .ok (.isub, 1) := dX4_deal_k30.2.1
theorem dX4_deal_60 : decode cX4_deal 60 = .ok (.invokevirtual 69, 3) := dX4_deal_k30.2.2.1
theorem dX4_deal_63 : decode cX4_deal 63 = .ok (.iinc 4 1, 3) := dX4_deal_k30.2.2.2.1
theorem dX4_deal_66 : decode cX4_deal 66 = .ok (.goto (-28), 3) := dX4_deal_k30.2.2.2.2.1
theorem dX4_deal_69 : decode cX4_deal 69 = .ok (.return_, 1) := dX4_deal_k30.2.2.2.2.2
set_option maxRecDepth 100000 in
theorem dX4_weigh_k31 : (decode cX4_weigh 0 = .ok (.iconst 0, 1)) ∧ (decode cX4_weigh 1 = .ok (.istore_n 1, 1)) ∧ (decode cX4_weigh 2 = .ok (.iload_n 1, 1)) ∧ (decode cX4_weigh 3 = .ok (.aload_n 0, 1)) ∧ (decode cX4_weigh 4 = .ok (.getfield 40, 3)) ∧ (decode cX4_weigh 7 = .ok (.if_icmp .ge 30, 3)) := by decide +kernel
theorem dX4_weigh_0 : decode cX4_weigh 0 = .ok (.iconst 0, 1) := dX4_weigh_k31.1
theorem dX4_weigh_1 : decode cX4_weigh 1 = .ok (.istore_n 1, 1) := dX4_weigh_k31.2.1
theorem dX4_weigh_2 : decode cX4_weigh 2 = .ok (.iload_n 1, 1) := dX4_weigh_k31.2.2.1
theorem dX4_weigh_3 : decode cX4_weigh 3 = .ok (.aload_n 0, 1) := dX4_weigh_k31.2.2.2.1
theorem dX4_weigh_4 : decode cX4_weigh 4 = .ok (.getfield 40, 3) := dX4_weigh_k31.2.2.2.2.1
theorem dX4_weigh_7 : decode cX4_weigh 7 = .ok (.if_icmp .ge 30, 3) := dX4_weigh_k31.2.2.2.2.2
set_option maxRecDepth 100000 in
theorem dX4_weigh_k32 : (decode cX4_weigh 10 = .ok (.aload_n 0, 1)) ∧ (decode cX4_weigh 11 = .ok (.getfield 21, 3)) ∧ (decode cX4_weigh 14 = .ok (.iload_n 1, 1)) ∧ (decode cX4_weigh 15 = .ok (.aload_n 0, 1)) ∧ (decode cX4_weigh 16 = .ok (.iload_n 1, 1)) ∧ (decode cX4_weigh 17 = .ok (.invokevirtual 88, 3)) := by decide +kernel
theorem dX4_weigh_10 : decode cX4_weigh 10 = .ok (.aload_n 0, 1) := dX4_weigh_k32.1
theorem dX4_weigh_11 : decode cX4_weigh 11 = .ok (.getfield 21, 3) := dX4_weigh_k32.2.1
theorem dX4_weigh_14 : decode cX4_weigh 14 = .ok (.iload_n 1, 1) := dX4_weigh_k32.2.2.1
theorem dX4_weigh_15 : decode cX4_weigh 15 = .ok (.aload_n 0, 1) := dX4_weigh_k32.2.2.2.1
theorem dX4_weigh_16 : decode cX4_weigh 16 = .ok (.iload_n 1, 1) := dX4_weigh_k32.2.2.2.2.1
theorem dX4_weigh_17 : decode cX4_weigh 17 = .ok (.invokevirtual 88, 3) := dX4_weigh_k32.2.2.2.2.2
set_option maxRecDepth 100000 in
theorem dX4_weigh_k33 : (decode cX4_weigh 20 = .ok (.iastore, 1)) ∧ (decode cX4_weigh 21 = .ok (.aload_n 0, 1)) ∧ (decode cX4_weigh 22 = .ok (.getfield 21, 3)) ∧ (decode cX4_weigh 25 = .ok (.iload_n 1, 1)) ∧ (decode cX4_weigh 26 = .ok (.iaload, 1)) ∧ (decode cX4_weigh 27 = .ok (.ifCond .ne 4, 3)) := by decide +kernel
theorem dX4_weigh_20 : decode cX4_weigh 20 = .ok (.iastore, 1) := dX4_weigh_k33.1
theorem dX4_weigh_21 : decode cX4_weigh 21 = .ok (.aload_n 0, 1) := dX4_weigh_k33.2.1
theorem dX4_weigh_22 : decode cX4_weigh 22 = .ok (.getfield 21, 3) := dX4_weigh_k33.2.2.1
theorem dX4_weigh_25 : decode cX4_weigh 25 = .ok (.iload_n 1, 1) := dX4_weigh_k33.2.2.2.1
theorem dX4_weigh_26 : decode cX4_weigh 26 = .ok (.iaload, 1) := dX4_weigh_k33.2.2.2.2.1
theorem dX4_weigh_27 : decode cX4_weigh 27 = .ok (.ifCond .ne 4, 3) := dX4_weigh_k33.2.2.2.2.2
set_option maxRecDepth 100000 in
theorem dX4_weigh_k34 : (decode cX4_weigh 30 = .ok (.return_, 1)) ∧ (decode cX4_weigh 31 = .ok (.iinc 1 1, 3)) ∧ (decode cX4_weigh 34 = .ok (.goto (-32), 3)) ∧ (decode cX4_weigh 37 = .ok (.aload_n 0, 1)) ∧ (decode cX4_weigh 38 = .ok (.iconst 0, 1)) ∧ (decode cX4_weigh 39 = .ok (.iconst 0, 1)) := by decide +kernel
theorem dX4_weigh_30 : decode cX4_weigh 30 = .ok (.return_, 1) := dX4_weigh_k34.1
theorem dX4_weigh_31 : decode cX4_weigh 31 = .ok (.iinc 1 1, 3) := dX4_weigh_k34.2.1
theorem dX4_weigh_34 : decode cX4_weigh 34 = .ok (.goto (-32), 3) := dX4_weigh_k34.2.2.1
theorem dX4_weigh_37 : decode cX4_weigh 37 = .ok (.aload_n 0, 1) := dX4_weigh_k34.2.2.2.1
theorem dX4_weigh_38 : decode cX4_weigh 38 = .ok (.iconst 0, 1) := dX4_weigh_k34.2.2.2.2.1
theorem dX4_weigh_39 : decode cX4_weigh 39 = .ok (.iconst 0, 1) := dX4_weigh_k34.2.2.2.2.2
set_option maxRecDepth 100000 in
theorem dX4_weigh_k35 : (decode cX4_weigh 40 = .ok (.invokevirtual 91, 3)) ∧ (decode cX4_weigh 43 = .ok (.return_, 1)) := by decide +kernel
theorem dX4_weigh_40 : decode cX4_weigh 40 = .ok (.invokevirtual 91, 3) := dX4_weigh_k35.1
theorem dX4_weigh_43 : decode cX4_weigh 43 = .ok (.return_, 1) := dX4_weigh_k35.2
set_option maxRecDepth 100000 in
theorem dX4_contentRooms_k36 : (decode cX4_contentRooms 0 = .ok (.iconst 0, 1)) ∧ (decode cX4_contentRooms 1 = .ok (.istore_n 2, 1)) ∧ (decode cX4_contentRooms 2 = .ok (.iconst 0, 1)) ∧ (decode cX4_contentRooms 3 = .ok (.istore_n 3, 1)) ∧ (decode cX4_contentRooms 4 = .ok (.iload_n 3, 1)) ∧ (decode cX4_contentRooms 5 = .ok (.aload_n 0, 1)) := by decide +kernel
theorem dX4_contentRooms_0 : decode cX4_contentRooms 0 = .ok (.iconst 0, 1) := dX4_contentRooms_k36.1
theorem dX4_contentRooms_1 : decode cX4_contentRooms 1 = .ok (.istore_n 2, 1) := dX4_contentRooms_k36.2.1
theorem dX4_contentRooms_2 : decode cX4_contentRooms 2 = .ok (.iconst 0, 1) := dX4_contentRooms_k36.2.2.1
theorem dX4_contentRooms_3 : decode cX4_contentRooms 3 = .ok (.istore_n 3, 1) := dX4_contentRooms_k36.2.2.2.1
theorem dX4_contentRooms_4 : decode cX4_contentRooms 4 = .ok (.iload_n 3, 1) := dX4_contentRooms_k36.2.2.2.2.1
theorem dX4_contentRooms_5 : decode cX4_contentRooms 5 = .ok (.aload_n 0, 1) := dX4_contentRooms_k36.2.2.2.2.2
set_option maxRecDepth 100000 in
theorem dX4_contentRooms_k37 : (decode cX4_contentRooms 6 = .ok (.getfield 48, 3)) ∧ (decode cX4_contentRooms 9 = .ok (.if_icmp .ge 33, 3)) ∧ (decode cX4_contentRooms 12 = .ok (.aload_n 0, 1)) ∧ (decode cX4_contentRooms 13 = .ok (.getfield 30, 3)) ∧ (decode cX4_contentRooms 16 = .ok (.iload_n 3, 1)) ∧ (decode cX4_contentRooms 17 = .ok (.iaload, 1)) := by decide +kernel
theorem dX4_contentRooms_6 : decode cX4_contentRooms 6 = .ok (.getfield 48, 3) := dX4_contentRooms_k37.1
theorem dX4_contentRooms_9 : decode cX4_contentRooms 9 = .ok (.if_icmp .ge 33, 3) := dX4_contentRooms_k37.2.1
theorem dX4_contentRooms_12 : decode cX4_contentRooms 12 = .ok (.aload_n 0, 1) := dX4_contentRooms_k37.2.2.1
theorem dX4_contentRooms_13 : decode cX4_contentRooms 13 = .ok (.getfield 30, 3) := dX4_contentRooms_k37.2.2.2.1
theorem dX4_contentRooms_16 : decode cX4_contentRooms 16 = .ok (.iload_n 3, 1) := dX4_contentRooms_k37.2.2.2.2.1
theorem dX4_contentRooms_17 : decode cX4_contentRooms 17 = .ok (.iaload, 1) := dX4_contentRooms_k37.2.2.2.2.2
set_option maxRecDepth 100000 in
theorem dX4_contentRooms_k38 : (decode cX4_contentRooms 18 = .ok (.ifCond .le 18, 3)) ∧ (decode cX4_contentRooms 21 = .ok (.aload_n 0, 1)) ∧ (decode cX4_contentRooms 22 = .ok (.iload_n 1, 1)) ∧ (decode cX4_contentRooms 23 = .ok (.iload_n 3, 1)) ∧ (decode cX4_contentRooms 24 = .ok (.invokevirtual 94, 3)) ∧ (decode cX4_contentRooms 27 = .ok (.ifCond .eq 9, 3)) := by decide +kernel
theorem dX4_contentRooms_18 : decode cX4_contentRooms 18 = .ok (.ifCond .le 18, 3) := dX4_contentRooms_k38.1
theorem dX4_contentRooms_21 : decode cX4_contentRooms 21 = .ok (.aload_n 0, 1) := dX4_contentRooms_k38.2.1
theorem dX4_contentRooms_22 : decode cX4_contentRooms 22 = .ok (.iload_n 1, 1) := dX4_contentRooms_k38.2.2.1
theorem dX4_contentRooms_23 : decode cX4_contentRooms 23 = .ok (.iload_n 3, 1) := dX4_contentRooms_k38.2.2.2.1
theorem dX4_contentRooms_24 : decode cX4_contentRooms 24 = .ok (.invokevirtual 94, 3) := dX4_contentRooms_k38.2.2.2.2.1
theorem dX4_contentRooms_27 : decode cX4_contentRooms 27 = .ok (.ifCond .eq 9, 3) := dX4_contentRooms_k38.2.2.2.2.2
set_option maxRecDepth 100000 in
theorem dX4_contentRooms_k39 : (decode cX4_contentRooms 30 = .ok (.iload_n 2, 1)) ∧ (decode cX4_contentRooms 31 = .ok (.iconst 1, 1)) ∧ (decode cX4_contentRooms 32 = .ok (.iload_n 3, 1)) ∧ (decode cX4_contentRooms 33 = .ok (.ishl, 1)) ∧ (decode cX4_contentRooms 34 = .ok (.ior, 1)) ∧ (decode cX4_contentRooms 35 = .ok (.istore_n 2, 1)) := by decide +kernel
theorem dX4_contentRooms_30 : decode cX4_contentRooms 30 = .ok (.iload_n 2, 1) := dX4_contentRooms_k39.1
theorem dX4_contentRooms_31 : decode cX4_contentRooms 31 = .ok (.iconst 1, 1) := dX4_contentRooms_k39.2.1
theorem dX4_contentRooms_32 : decode cX4_contentRooms 32 = .ok (.iload_n 3, 1) := dX4_contentRooms_k39.2.2.1
theorem dX4_contentRooms_33 : decode cX4_contentRooms 33 = .ok (.ishl, 1) := dX4_contentRooms_k39.2.2.2.1
theorem dX4_contentRooms_34 : decode cX4_contentRooms 34 = .ok (.ior, 1) := dX4_contentRooms_k39.2.2.2.2.1
theorem dX4_contentRooms_35 : decode cX4_contentRooms 35 = .ok (.istore_n 2, 1) := dX4_contentRooms_k39.2.2.2.2.2
set_option maxRecDepth 100000 in
theorem dX4_contentRooms_k40 : (decode cX4_contentRooms 36 = .ok (.iinc 3 1, 3)) ∧ (decode cX4_contentRooms 39 = .ok (.goto (-35), 3)) ∧ (decode cX4_contentRooms 42 = .ok (.iload_n 2, 1)) ∧ (decode cX4_contentRooms 43 = .ok (.ireturn, 1)) := by decide +kernel
theorem dX4_contentRooms_36 : decode cX4_contentRooms 36 = .ok (.iinc 3 1, 3) := dX4_contentRooms_k40.1
theorem dX4_contentRooms_39 : decode cX4_contentRooms 39 = .ok (.goto (-35), 3) := dX4_contentRooms_k40.2.1
theorem dX4_contentRooms_42 : decode cX4_contentRooms 42 = .ok (.iload_n 2, 1) := dX4_contentRooms_k40.2.2.1
theorem dX4_contentRooms_43 : decode cX4_contentRooms 43 = .ok (.ireturn, 1) := dX4_contentRooms_k40.2.2.2
set_option maxRecDepth 100000 in
theorem dX4_isContent_k41 : (decode cX4_isContent 0 = .ok (.aload_n 0, 1)) ∧ (decode cX4_isContent 1 = .ok (.getfield 18, 3)) ∧ (decode cX4_isContent 4 = .ok (.iload_n 1, 1)) ∧ (decode cX4_isContent 5 = .ok (.bipush 6, 2)) ∧ (decode cX4_isContent 7 = .ok (.imul, 1)) ∧ (decode cX4_isContent 8 = .ok (.iload_n 2, 1)) := by decide +kernel
theorem dX4_isContent_0 : decode cX4_isContent 0 = .ok (.aload_n 0, 1) := dX4_isContent_k41.1
theorem dX4_isContent_1 : decode cX4_isContent 1 = .ok (.getfield 18, 3) := dX4_isContent_k41.2.1
theorem dX4_isContent_4 : decode cX4_isContent 4 = .ok (.iload_n 1, 1) := dX4_isContent_k41.2.2.1
theorem dX4_isContent_5 : decode cX4_isContent 5 = .ok (.bipush 6, 2) := dX4_isContent_k41.2.2.2.1
theorem dX4_isContent_7 : decode cX4_isContent 7 = .ok (.imul, 1) := dX4_isContent_k41.2.2.2.2.1
theorem dX4_isContent_8 : decode cX4_isContent 8 = .ok (.iload_n 2, 1) := dX4_isContent_k41.2.2.2.2.2
set_option maxRecDepth 100000 in
theorem dX4_isContent_k42 : (decode cX4_isContent 9 = .ok (.iadd, 1)) ∧ (decode cX4_isContent 10 = .ok (.iaload, 1)) ∧ (decode cX4_isContent 11 = .ok (.aload_n 0, 1)) ∧ (decode cX4_isContent 12 = .ok (.getfield 15, 3)) ∧ (decode cX4_isContent 15 = .ok (.iload_n 1, 1)) ∧ (decode cX4_isContent 16 = .ok (.iaload, 1)) := by decide +kernel
theorem dX4_isContent_9 : decode cX4_isContent 9 = .ok (.iadd, 1) := dX4_isContent_k42.1
theorem dX4_isContent_10 : decode cX4_isContent 10 = .ok (.iaload, 1) := dX4_isContent_k42.2.1
theorem dX4_isContent_11 : decode cX4_isContent 11 = .ok (.aload_n 0, 1) := dX4_isContent_k42.2.2.1
theorem dX4_isContent_12 : decode cX4_isContent 12 = .ok (.getfield 15, 3) := dX4_isContent_k42.2.2.2.1
theorem dX4_isContent_15 : decode cX4_isContent 15 = .ok (.iload_n 1, 1) := dX4_isContent_k42.2.2.2.2.1
theorem dX4_isContent_16 : decode cX4_isContent 16 = .ok (.iaload, 1) := dX4_isContent_k42.2.2.2.2.2
set_option maxRecDepth 100000 in
theorem dX4_isContent_k43 : (decode cX4_isContent 17 = .ok (.aload_n 0, 1)) ∧ (decode cX4_isContent 18 = .ok (.getfield 27, 3)) ∧ (decode cX4_isContent 21 = .ok (.iload_n 2, 1)) ∧ (decode cX4_isContent 22 = .ok (.iaload, 1)) ∧ (decode cX4_isContent 23 = .ok (.aload_n 0, 1)) ∧ (decode cX4_isContent 24 = .ok (.getfield 30, 3)) := by decide +kernel
theorem dX4_isContent_17 : decode cX4_isContent 17 = .ok (.aload_n 0, 1) := dX4_isContent_k43.1
theorem dX4_isContent_18 : decode cX4_isContent 18 = .ok (.getfield 27, 3) := dX4_isContent_k43.2.1
theorem dX4_isContent_21 : decode cX4_isContent 21 = .ok (.iload_n 2, 1) := dX4_isContent_k43.2.2.1
theorem dX4_isContent_22 : decode cX4_isContent 22 = .ok (.iaload, 1) := dX4_isContent_k43.2.2.2.1
theorem dX4_isContent_23 : decode cX4_isContent 23 = .ok (.aload_n 0, 1) := dX4_isContent_k43.2.2.2.2.1
theorem dX4_isContent_24 : decode cX4_isContent 24 = .ok (.getfield 30, 3) := dX4_isContent_k43.2.2.2.2.2
set_option maxRecDepth 100000 in
theorem dX4_isContent_k44 : (decode cX4_isContent 27 = .ok (.iload_n 2, 1)) ∧ (decode cX4_isContent 28 = .ok (.iaload, 1)) ∧ (decode cX4_isContent 29 = .ok (.iadd, 1)) ∧ (decode cX4_isContent 30 = .ok (.iconst 1, 1)) ∧ (decode cX4_isContent 31 = .ok (.isub, 1)) ∧ (decode cX4_isContent 32 = .ok (.imul, 1)) := by decide +kernel
theorem dX4_isContent_27 : decode cX4_isContent 27 = .ok (.iload_n 2, 1) := dX4_isContent_k44.1
theorem dX4_isContent_28 : decode cX4_isContent 28 = .ok (.iaload, 1) := dX4_isContent_k44.2.1
theorem dX4_isContent_29 : decode cX4_isContent 29 = .ok (.iadd, 1) := dX4_isContent_k44.2.2.1
theorem dX4_isContent_30 : decode cX4_isContent 30 = .ok (.iconst 1, 1) := dX4_isContent_k44.2.2.2.1
theorem dX4_isContent_31 : decode cX4_isContent 31 = .ok (.isub, 1) := dX4_isContent_k44.2.2.2.2.1
theorem dX4_isContent_32 : decode cX4_isContent 32 = .ok (.imul, 1) := dX4_isContent_k44.2.2.2.2.2
set_option maxRecDepth 100000 in
theorem dX4_isContent_k45 : (decode cX4_isContent 33 = .ok (.iadd, 1)) ∧ (decode cX4_isContent 34 = .ok (.istore_n 3, 1)) ∧ (decode cX4_isContent 35 = .ok (.iconst 0, 1)) ∧ (decode cX4_isContent 36 = .ok (.istore 4, 2)) ∧ (decode cX4_isContent 38 = .ok (.iload 4, 2)) ∧ (decode cX4_isContent 40 = .ok (.aload_n 0, 1)) := by decide +kernel
theorem dX4_isContent_33 : decode cX4_isContent 33 = .ok (.iadd, 1) := dX4_isContent_k45.1
theorem dX4_isContent_34 : decode cX4_isContent 34 = .ok (.istore_n 3, 1) := dX4_isContent_k45.2.1
theorem dX4_isContent_35 : decode cX4_isContent 35 = .ok (.iconst 0, 1) := dX4_isContent_k45.2.2.1
theorem dX4_isContent_36 : decode cX4_isContent 36 = .ok (.istore 4, 2) := dX4_isContent_k45.2.2.2.1
theorem dX4_isContent_38 : decode cX4_isContent 38 = .ok (.iload 4, 2) := dX4_isContent_k45.2.2.2.2.1
theorem dX4_isContent_40 : decode cX4_isContent 40 = .ok (.aload_n 0, 1) := dX4_isContent_k45.2.2.2.2.2
set_option maxRecDepth 100000 in
theorem dX4_isContent_k46 : (decode cX4_isContent 41 = .ok (.getfield 48, 3)) ∧ (decode cX4_isContent 44 = .ok (.if_icmp .ge 84, 3)) ∧ (decode cX4_isContent 47 = .ok (.aload_n 0, 1)) ∧ (decode cX4_isContent 48 = .ok (.getfield 27, 3)) ∧ (decode cX4_isContent 51 = .ok (.iload 4, 2)) ∧ (decode cX4_isContent 53 = .ok (.iaload, 1)) := by decide +kernel
theorem dX4_isContent_41 : decode cX4_isContent 41 = .ok (.getfield 48, 3) := dX4_isContent_k46.1
theorem dX4_isContent_44 : decode cX4_isContent 44 = .ok (.if_icmp .ge 84, 3) := dX4_isContent_k46.2.1
theorem dX4_isContent_47 : decode cX4_isContent 47 = .ok (.aload_n 0, 1) := dX4_isContent_k46.2.2.1
theorem dX4_isContent_48 : decode cX4_isContent 48 = .ok (.getfield 27, 3) := dX4_isContent_k46.2.2.2.1
theorem dX4_isContent_51 : decode cX4_isContent 51 = .ok (.iload 4, 2) := dX4_isContent_k46.2.2.2.2.1
theorem dX4_isContent_53 : decode cX4_isContent 53 = .ok (.iaload, 1) := dX4_isContent_k46.2.2.2.2.2
set_option maxRecDepth 100000 in
theorem dX4_isContent_k47 : (decode cX4_isContent 54 = .ok (.aload_n 0, 1)) ∧ (decode cX4_isContent 55 = .ok (.getfield 30, 3)) ∧ (decode cX4_isContent 58 = .ok (.iload 4, 2)) ∧ (decode cX4_isContent 60 = .ok (.iaload, 1)) ∧ (decode cX4_isContent 61 = .ok (.iadd, 1)) ∧ (decode cX4_isContent 62 = .ok (.istore 5, 2)) := by decide +kernel
theorem dX4_isContent_54 : decode cX4_isContent 54 = .ok (.aload_n 0, 1) := dX4_isContent_k47.1
theorem dX4_isContent_55 : decode cX4_isContent 55 = .ok (.getfield 30, 3) := dX4_isContent_k47.2.1
theorem dX4_isContent_58 : decode cX4_isContent 58 = .ok (.iload 4, 2) := dX4_isContent_k47.2.2.1
theorem dX4_isContent_60 : decode cX4_isContent 60 = .ok (.iaload, 1) := dX4_isContent_k47.2.2.2.1
theorem dX4_isContent_61 : decode cX4_isContent 61 = .ok (.iadd, 1) := dX4_isContent_k47.2.2.2.2.1
theorem dX4_isContent_62 : decode cX4_isContent 62 = .ok (.istore 5, 2) := dX4_isContent_k47.2.2.2.2.2
set_option maxRecDepth 100000 in
theorem dX4_isContent_k48 : (decode cX4_isContent 64 = .ok (.iload 4, 2)) ∧ (decode cX4_isContent 66 = .ok (.iload_n 2, 1)) ∧ (decode cX4_isContent 67 = .ok (.if_icmp .eq 19, 3)) ∧ (decode cX4_isContent 70 = .ok (.iload 5, 2)) ∧ (decode cX4_isContent 72 = .ok (.aload_n 0, 1)) ∧ (decode cX4_isContent 73 = .ok (.getfield 24, 3)) := by decide +kernel
theorem dX4_isContent_64 : decode cX4_isContent 64 = .ok (.iload 4, 2) := dX4_isContent_k48.1
theorem dX4_isContent_66 : decode cX4_isContent 66 = .ok (.iload_n 2, 1) := dX4_isContent_k48.2.1
theorem dX4_isContent_67 : decode cX4_isContent 67 = .ok (.if_icmp .eq 19, 3) := dX4_isContent_k48.2.2.1
theorem dX4_isContent_70 : decode cX4_isContent 70 = .ok (.iload 5, 2) := dX4_isContent_k48.2.2.2.1
theorem dX4_isContent_72 : decode cX4_isContent 72 = .ok (.aload_n 0, 1) := dX4_isContent_k48.2.2.2.2.1
theorem dX4_isContent_73 : decode cX4_isContent 73 = .ok (.getfield 24, 3) := dX4_isContent_k48.2.2.2.2.2
set_option maxRecDepth 100000 in
theorem dX4_isContent_k49 : (decode cX4_isContent 76 = .ok (.iload 4, 2)) ∧ (decode cX4_isContent 78 = .ok (.iaload, 1)) ∧ (decode cX4_isContent 79 = .ok (.if_icmp .ge 7, 3)) ∧ (decode cX4_isContent 82 = .ok (.iconst 1, 1)) ∧ (decode cX4_isContent 83 = .ok (.goto 4, 3)) ∧ (decode cX4_isContent 86 = .ok (.iconst 0, 1)) := by decide +kernel
theorem dX4_isContent_76 : decode cX4_isContent 76 = .ok (.iload 4, 2) := dX4_isContent_k49.1
theorem dX4_isContent_78 : decode cX4_isContent 78 = .ok (.iaload, 1) := dX4_isContent_k49.2.1
theorem dX4_isContent_79 : decode cX4_isContent 79 = .ok (.if_icmp .ge 7, 3) := dX4_isContent_k49.2.2.1
theorem dX4_isContent_82 : decode cX4_isContent 82 = .ok (.iconst 1, 1) := dX4_isContent_k49.2.2.2.1
theorem dX4_isContent_83 : decode cX4_isContent 83 = .ok (.goto 4, 3) := dX4_isContent_k49.2.2.2.2.1
theorem dX4_isContent_86 : decode cX4_isContent 86 = .ok (.iconst 0, 1) := dX4_isContent_k49.2.2.2.2.2
set_option maxRecDepth 100000 in
theorem dX4_isContent_k50 : (decode cX4_isContent 87 = .ok (.istore 6, 2)) ∧ (decode cX4_isContent 89 = .ok (.iload 6, 2)) ∧ (decode cX4_isContent 91 = .ok (.ifCond .eq 31, 3)) ∧ (decode cX4_isContent 94 = .ok (.aload_n 0, 1)) ∧ (decode cX4_isContent 95 = .ok (.getfield 18, 3)) ∧ (decode cX4_isContent 98 = .ok (.iload_n 1, 1)) := by decide +kernel
theorem dX4_isContent_87 : decode cX4_isContent 87 = .ok (.istore 6, 2) := dX4_isContent_k50.1
theorem dX4_isContent_89 : decode cX4_isContent 89 = .ok (.iload 6, 2) := dX4_isContent_k50.2.1
theorem dX4_isContent_91 : decode cX4_isContent 91 = .ok (.ifCond .eq 31, 3) := dX4_isContent_k50.2.2.1
theorem dX4_isContent_94 : decode cX4_isContent 94 = .ok (.aload_n 0, 1) := dX4_isContent_k50.2.2.2.1
theorem dX4_isContent_95 : decode cX4_isContent 95 = .ok (.getfield 18, 3) := dX4_isContent_k50.2.2.2.2.1
theorem dX4_isContent_98 : decode cX4_isContent 98 = .ok (.iload_n 1, 1) := dX4_isContent_k50.2.2.2.2.2
set_option maxRecDepth 100000 in
theorem dX4_isContent_k51 : (decode cX4_isContent 99 = .ok (.bipush 6, 2)) ∧ (decode cX4_isContent 101 = .ok (.imul, 1)) ∧ (decode cX4_isContent 102 = .ok (.iload 4, 2)) ∧ (decode cX4_isContent 104 = .ok (.iadd, 1)) ∧ (decode cX4_isContent 105 = .ok (.iaload, 1)) ∧ (decode cX4_isContent 106 = .ok (.aload_n 0, 1)) := by decide +kernel
theorem dX4_isContent_99 : decode cX4_isContent 99 = .ok (.bipush 6, 2) := dX4_isContent_k51.1
theorem dX4_isContent_101 : decode cX4_isContent 101 = .ok (.imul, 1) := dX4_isContent_k51.2.1
theorem dX4_isContent_102 : decode cX4_isContent 102 = .ok (.iload 4, 2) := dX4_isContent_k51.2.2.1
theorem dX4_isContent_104 : decode cX4_isContent 104 = .ok (.iadd, 1) := dX4_isContent_k51.2.2.2.1
theorem dX4_isContent_105 : decode cX4_isContent 105 = .ok (.iaload, 1) := dX4_isContent_k51.2.2.2.2.1
theorem dX4_isContent_106 : decode cX4_isContent 106 = .ok (.aload_n 0, 1) := dX4_isContent_k51.2.2.2.2.2
set_option maxRecDepth 100000 in
theorem dX4_isContent_k52 : (decode cX4_isContent 107 = .ok (.getfield 15, 3)) ∧ (decode cX4_isContent 110 = .ok (.iload_n 1, 1)) ∧ (decode cX4_isContent 111 = .ok (.iaload, 1)) ∧ (decode cX4_isContent 112 = .ok (.iload 5, 2)) ∧ (decode cX4_isContent 114 = .ok (.imul, 1)) ∧ (decode cX4_isContent 115 = .ok (.iadd, 1)) := by decide +kernel
theorem dX4_isContent_107 : decode cX4_isContent 107 = .ok (.getfield 15, 3) := dX4_isContent_k52.1
theorem dX4_isContent_110 : decode cX4_isContent 110 = .ok (.iload_n 1, 1) := dX4_isContent_k52.2.1
theorem dX4_isContent_111 : decode cX4_isContent 111 = .ok (.iaload, 1) := dX4_isContent_k52.2.2.1
theorem dX4_isContent_112 : decode cX4_isContent 112 = .ok (.iload 5, 2) := dX4_isContent_k52.2.2.2.1
theorem dX4_isContent_114 : decode cX4_isContent 114 = .ok (.imul, 1) := dX4_isContent_k52.2.2.2.2.1
theorem dX4_isContent_115 : decode cX4_isContent 115 = .ok (.iadd, 1) := dX4_isContent_k52.2.2.2.2.2
set_option maxRecDepth 100000 in
theorem dX4_isContent_k53 : (decode cX4_isContent 116 = .ok (.iload_n 3, 1)) ∧ (decode cX4_isContent 117 = .ok (.if_icmp .le 5, 3)) ∧ (decode cX4_isContent 120 = .ok (.iconst 0, 1)) ∧ (decode cX4_isContent 121 = .ok (.ireturn, 1)) ∧ (decode cX4_isContent 122 = .ok (.iinc 4 1, 3)) ∧ (decode cX4_isContent 125 = .ok (.goto (-87), 3)) := by decide +kernel
theorem dX4_isContent_116 : decode cX4_isContent 116 = .ok (.iload_n 3, 1) := dX4_isContent_k53.1
theorem dX4_isContent_117 : decode cX4_isContent 117 = .ok (.if_icmp .le 5, 3) := dX4_isContent_k53.2.1
theorem dX4_isContent_120 : decode cX4_isContent 120 = .ok (.iconst 0, 1) := dX4_isContent_k53.2.2.1
theorem dX4_isContent_121 : decode cX4_isContent 121 = .ok (.ireturn, 1) := dX4_isContent_k53.2.2.2.1
theorem dX4_isContent_122 : decode cX4_isContent 122 = .ok (.iinc 4 1, 3) := dX4_isContent_k53.2.2.2.2.1
theorem dX4_isContent_125 : decode cX4_isContent 125 = .ok (.goto (-87), 3) := dX4_isContent_k53.2.2.2.2.2
set_option maxRecDepth 100000 in
theorem dX4_isContent_k54 : (decode cX4_isContent 128 = .ok (.iconst 1, 1)) ∧ (decode cX4_isContent 129 = .ok (.ireturn, 1)) := by decide +kernel
theorem dX4_isContent_128 : decode cX4_isContent 128 = .ok (.iconst 1, 1) := dX4_isContent_k54.1
theorem dX4_isContent_129 : decode cX4_isContent 129 = .ok (.ireturn, 1) := dX4_isContent_k54.2
set_option maxRecDepth 100000 in
theorem dX4_put_k55 : (decode cX4_put 0 = .ok (.iload_n 1, 1)) ∧ (decode cX4_put 1 = .ok (.aload_n 0, 1)) ∧ (decode cX4_put 2 = .ok (.getfield 40, 3)) ∧ (decode cX4_put 5 = .ok (.if_icmp .lt 37, 3)) ∧ (decode cX4_put 8 = .ok (.aload_n 0, 1)) ∧ (decode cX4_put 9 = .ok (.aload_n 0, 1)) := by decide +kernel
theorem dX4_put_0 : decode cX4_put 0 = .ok (.iload_n 1, 1) := dX4_put_k55.1
theorem dX4_put_1 : decode cX4_put 1 = .ok (.aload_n 0, 1) := dX4_put_k55.2.1
theorem dX4_put_2 : decode cX4_put 2 = .ok (.getfield 40, 3) := dX4_put_k55.2.2.1
theorem dX4_put_5 : decode cX4_put 5 = .ok (.if_icmp .lt 37, 3) := dX4_put_k55.2.2.2.1
theorem dX4_put_8 : decode cX4_put 8 = .ok (.aload_n 0, 1) := dX4_put_k55.2.2.2.2.1
theorem dX4_put_9 : decode cX4_put 9 = .ok (.aload_n 0, 1) := dX4_put_k55.2.2.2.2.2
set_option maxRecDepth 100000 in
theorem dX4_put_k56 : (decode cX4_put 10 = .ok (.getfield 33, 3)) ∧ (decode cX4_put 13 = .ok (.ifCond .ne 7, 3)) ∧ (decode cX4_put 16 = .ok (.iload_n 2, 1)) ∧ (decode cX4_put 17 = .ok (.goto 11, 3)) ∧ (decode cX4_put 20 = .ok (.aload_n 0, 1)) ∧ (decode cX4_put 21 = .ok (.getfield 37, 3)) := by decide +kernel
theorem dX4_put_10 : decode cX4_put 10 = .ok (.getfield 33, 3) := dX4_put_k56.1
theorem dX4_put_13 : decode cX4_put 13 = .ok (.ifCond .ne 7, 3) := dX4_put_k56.2.1
theorem dX4_put_16 : decode cX4_put 16 = .ok (.iload_n 2, 1) := dX4_put_k56.2.2.1
theorem dX4_put_17 : decode cX4_put 17 = .ok (.goto 11, 3) := dX4_put_k56.2.2.2.1
theorem dX4_put_20 : decode cX4_put 20 = .ok (.aload_n 0, 1) := dX4_put_k56.2.2.2.2.1
theorem dX4_put_21 : decode cX4_put 21 = .ok (.getfield 37, 3) := dX4_put_k56.2.2.2.2.2
set_option maxRecDepth 100000 in
theorem dX4_put_k57 : (decode cX4_put 24 = .ok (.iload_n 2, 1)) ∧ (decode cX4_put 25 = .ok (.invokestatic 83, 3)) ∧ (decode cX4_put 28 = .ok (.putfield 37, 3)) ∧ (decode cX4_put 31 = .ok (.aload_n 0, 1)) ∧ (decode cX4_put 32 = .ok (.dup, 1)) ∧ (decode cX4_put 33 = .ok (.getfield 33, 3)) := by decide +kernel
theorem dX4_put_24 : decode cX4_put 24 = .ok (.iload_n 2, 1) := dX4_put_k57.1
theorem dX4_put_25 : decode cX4_put 25 = .ok (.invokestatic 83, 3) := dX4_put_k57.2.1
theorem dX4_put_28 : decode cX4_put 28 = .ok (.putfield 37, 3) := dX4_put_k57.2.2.1
theorem dX4_put_31 : decode cX4_put 31 = .ok (.aload_n 0, 1) := dX4_put_k57.2.2.2.1
theorem dX4_put_32 : decode cX4_put 32 = .ok (.dup, 1) := dX4_put_k57.2.2.2.2.1
theorem dX4_put_33 : decode cX4_put 33 = .ok (.getfield 33, 3) := dX4_put_k57.2.2.2.2.2
set_option maxRecDepth 100000 in
theorem dX4_put_k58 : (decode cX4_put 36 = .ok (.iconst 1, 1)) ∧ (decode cX4_put 37 = .ok (.iadd, 1)) ∧ (decode cX4_put 38 = .ok (.putfield 33, 3)) ∧ (decode cX4_put 41 = .ok (.return_, 1)) ∧ (decode cX4_put 42 = .ok (.iconst 0, 1)) ∧ (decode cX4_put 43 = .ok (.istore_n 3, 1)) := by decide +kernel
theorem dX4_put_36 : decode cX4_put 36 = .ok (.iconst 1, 1) := dX4_put_k58.1
theorem dX4_put_37 : decode cX4_put 37 = .ok (.iadd, 1) := dX4_put_k58.2.1
theorem dX4_put_38 : decode cX4_put 38 = .ok (.putfield 33, 3) := dX4_put_k58.2.2.1
theorem dX4_put_41 : decode cX4_put 41 = .ok (.return_, 1) := dX4_put_k58.2.2.2.1
theorem dX4_put_42 : decode cX4_put 42 = .ok (.iconst 0, 1) := dX4_put_k58.2.2.2.2.1
theorem dX4_put_43 : decode cX4_put 43 = .ok (.istore_n 3, 1) := dX4_put_k58.2.2.2.2.2
set_option maxRecDepth 100000 in
theorem dX4_put_k59 : (decode cX4_put 44 = .ok (.iload_n 3, 1)) ∧ (decode cX4_put 45 = .ok (.aload_n 0, 1)) ∧ (decode cX4_put 46 = .ok (.getfield 48, 3)) ∧ (decode cX4_put 49 = .ok (.if_icmp .ge 65, 3)) ∧ (decode cX4_put 52 = .ok (.aload_n 0, 1)) ∧ (decode cX4_put 53 = .ok (.getfield 21, 3)) := by decide +kernel
theorem dX4_put_44 : decode cX4_put 44 = .ok (.iload_n 3, 1) := dX4_put_k59.1
theorem dX4_put_45 : decode cX4_put 45 = .ok (.aload_n 0, 1) := dX4_put_k59.2.1
theorem dX4_put_46 : decode cX4_put 46 = .ok (.getfield 48, 3) := dX4_put_k59.2.2.1
theorem dX4_put_49 : decode cX4_put 49 = .ok (.if_icmp .ge 65, 3) := dX4_put_k59.2.2.2.1
theorem dX4_put_52 : decode cX4_put 52 = .ok (.aload_n 0, 1) := dX4_put_k59.2.2.2.2.1
theorem dX4_put_53 : decode cX4_put 53 = .ok (.getfield 21, 3) := dX4_put_k59.2.2.2.2.2
set_option maxRecDepth 100000 in
theorem dX4_put_k60 : (decode cX4_put 56 = .ok (.iload_n 1, 1)) ∧ (decode cX4_put 57 = .ok (.iaload, 1)) ∧ (decode cX4_put 58 = .ok (.iload_n 3, 1)) ∧ (decode cX4_put 59 = .ok (.ishr, 1)) ∧ (decode cX4_put 60 = .ok (.iconst 1, 1)) ∧ (decode cX4_put 61 = .ok (.iand, 1)) := by decide +kernel
theorem dX4_put_56 : decode cX4_put 56 = .ok (.iload_n 1, 1) := dX4_put_k60.1
theorem dX4_put_57 : decode cX4_put 57 = .ok (.iaload, 1) := dX4_put_k60.2.1
theorem dX4_put_58 : decode cX4_put 58 = .ok (.iload_n 3, 1) := dX4_put_k60.2.2.1
theorem dX4_put_59 : decode cX4_put 59 = .ok (.ishr, 1) := dX4_put_k60.2.2.2.1
theorem dX4_put_60 : decode cX4_put 60 = .ok (.iconst 1, 1) := dX4_put_k60.2.2.2.2.1
theorem dX4_put_61 : decode cX4_put 61 = .ok (.iand, 1) := dX4_put_k60.2.2.2.2.2
set_option maxRecDepth 100000 in
theorem dX4_put_k61 : (decode cX4_put 62 = .ok (.iconst 1, 1)) ∧ (decode cX4_put 63 = .ok (.if_icmp .ne 45, 3)) ∧ (decode cX4_put 66 = .ok (.aload_n 0, 1)) ∧ (decode cX4_put 67 = .ok (.getfield 30, 3)) ∧ (decode cX4_put 70 = .ok (.iload_n 3, 1)) ∧ (decode cX4_put 71 = .ok (.iaload, 1)) := by decide +kernel
theorem dX4_put_62 : decode cX4_put 62 = .ok (.iconst 1, 1) := dX4_put_k61.1
theorem dX4_put_63 : decode cX4_put 63 = .ok (.if_icmp .ne 45, 3) := dX4_put_k61.2.1
theorem dX4_put_66 : decode cX4_put 66 = .ok (.aload_n 0, 1) := dX4_put_k61.2.2.1
theorem dX4_put_67 : decode cX4_put 67 = .ok (.getfield 30, 3) := dX4_put_k61.2.2.2.1
theorem dX4_put_70 : decode cX4_put 70 = .ok (.iload_n 3, 1) := dX4_put_k61.2.2.2.2.1
theorem dX4_put_71 : decode cX4_put 71 = .ok (.iaload, 1) := dX4_put_k61.2.2.2.2.2
set_option maxRecDepth 100000 in
theorem dX4_put_k62 : (decode cX4_put 72 = .ok (.ifCond .le 36, 3)) ∧ (decode cX4_put 75 = .ok (.aload_n 0, 1)) ∧ (decode cX4_put 76 = .ok (.getfield 30, 3)) ∧ (decode cX4_put 79 = .ok (.iload_n 3, 1)) ∧ (decode cX4_put 80 = .ok (.dup2, 1)) ∧ (decode cX4_put 81 = .ok (.iaload, 1)) := by decide +kernel
theorem dX4_put_72 : decode cX4_put 72 = .ok (.ifCond .le 36, 3) := dX4_put_k62.1
theorem dX4_put_75 : decode cX4_put 75 = .ok (.aload_n 0, 1) := dX4_put_k62.2.1
theorem dX4_put_76 : decode cX4_put 76 = .ok (.getfield 30, 3) := dX4_put_k62.2.2.1
theorem dX4_put_79 : decode cX4_put 79 = .ok (.iload_n 3, 1) := dX4_put_k62.2.2.2.1
theorem dX4_put_80 : decode cX4_put 80 = .ok (.dup2, 1) := dX4_put_k62.2.2.2.2.1
theorem dX4_put_81 : decode cX4_put 81 = .ok (.iaload, 1) := dX4_put_k62.2.2.2.2.2
set_option maxRecDepth 100000 in
theorem dX4_put_k63 : (decode cX4_put 82 = .ok (.iconst 1, 1)) ∧ (decode cX4_put 83 = .ok (.isub, 1)) ∧ (decode cX4_put 84 = .ok (.iastore, 1)) ∧ (decode cX4_put 85 = .ok (.aload_n 0, 1)) ∧ (decode cX4_put 86 = .ok (.iload_n 1, 1)) ∧ (decode cX4_put 87 = .ok (.iconst 1, 1)) := by decide +kernel
theorem dX4_put_82 : decode cX4_put 82 = .ok (.iconst 1, 1) := dX4_put_k63.1
theorem dX4_put_83 : decode cX4_put 83 = .ok (.isub, 1) := dX4_put_k63.2.1
theorem dX4_put_84 : decode cX4_put 84 = .ok (.iastore, 1) := dX4_put_k63.2.2.1
theorem dX4_put_85 : decode cX4_put 85 = .ok (.aload_n 0, 1) := dX4_put_k63.2.2.2.1
theorem dX4_put_86 : decode cX4_put 86 = .ok (.iload_n 1, 1) := dX4_put_k63.2.2.2.2.1
theorem dX4_put_87 : decode cX4_put 87 = .ok (.iconst 1, 1) := dX4_put_k63.2.2.2.2.2
set_option maxRecDepth 100000 in
theorem dX4_put_k64 : (decode cX4_put 88 = .ok (.iadd, 1)) ∧ (decode cX4_put 89 = .ok (.iload_n 2, 1)) ∧ (decode cX4_put 90 = .ok (.bipush 10, 2)) ∧ (decode cX4_put 92 = .ok (.imul, 1)) ∧ (decode cX4_put 93 = .ok (.iload_n 3, 1)) ∧ (decode cX4_put 94 = .ok (.iadd, 1)) := by decide +kernel
theorem dX4_put_88 : decode cX4_put 88 = .ok (.iadd, 1) := dX4_put_k64.1
theorem dX4_put_89 : decode cX4_put 89 = .ok (.iload_n 2, 1) := dX4_put_k64.2.1
theorem dX4_put_90 : decode cX4_put 90 = .ok (.bipush 10, 2) := dX4_put_k64.2.2.1
theorem dX4_put_92 : decode cX4_put 92 = .ok (.imul, 1) := dX4_put_k64.2.2.2.1
theorem dX4_put_93 : decode cX4_put 93 = .ok (.iload_n 3, 1) := dX4_put_k64.2.2.2.2.1
theorem dX4_put_94 : decode cX4_put 94 = .ok (.iadd, 1) := dX4_put_k64.2.2.2.2.2
set_option maxRecDepth 100000 in
theorem dX4_put_k65 : (decode cX4_put 95 = .ok (.invokevirtual 91, 3)) ∧ (decode cX4_put 98 = .ok (.aload_n 0, 1)) ∧ (decode cX4_put 99 = .ok (.getfield 30, 3)) ∧ (decode cX4_put 102 = .ok (.iload_n 3, 1)) ∧ (decode cX4_put 103 = .ok (.dup2, 1)) ∧ (decode cX4_put 104 = .ok (.iaload, 1)) := by decide +kernel
theorem dX4_put_95 : decode cX4_put 95 = .ok (.invokevirtual 91, 3) := dX4_put_k65.1
theorem dX4_put_98 : decode cX4_put 98 = .ok (.aload_n 0, 1) := dX4_put_k65.2.1
theorem dX4_put_99 : decode cX4_put 99 = .ok (.getfield 30, 3) := dX4_put_k65.2.2.1
theorem dX4_put_102 : decode cX4_put 102 = .ok (.iload_n 3, 1) := dX4_put_k65.2.2.2.1
theorem dX4_put_103 : decode cX4_put 103 = .ok (.dup2, 1) := dX4_put_k65.2.2.2.2.1
theorem dX4_put_104 : decode cX4_put 104 = .ok (.iaload, 1) := dX4_put_k65.2.2.2.2.2
set_option maxRecDepth 100000 in
theorem dX4_put_k66 : (decode cX4_put 105 = .ok (.iconst 1, 1)) ∧ (decode cX4_put 106 = .ok (.iadd, 1)) ∧ (decode cX4_put 107 = .ok (.iastore, 1)) ∧ (decode cX4_put 108 = .ok (.iinc 3 1, 3)) ∧ (decode cX4_put 111 = .ok (.goto (-67), 3)) ∧ (decode cX4_put 114 = .ok (.return_, 1)) := by decide +kernel
theorem dX4_put_105 : decode cX4_put 105 = .ok (.iconst 1, 1) := dX4_put_k66.1
theorem dX4_put_106 : decode cX4_put 106 = .ok (.iadd, 1) := dX4_put_k66.2.1
theorem dX4_put_107 : decode cX4_put 107 = .ok (.iastore, 1) := dX4_put_k66.2.2.1
theorem dX4_put_108 : decode cX4_put 108 = .ok (.iinc 3 1, 3) := dX4_put_k66.2.2.2.1
theorem dX4_put_111 : decode cX4_put 111 = .ok (.goto (-67), 3) := dX4_put_k66.2.2.2.2.1
theorem dX4_put_114 : decode cX4_put 114 = .ok (.return_, 1) := dX4_put_k66.2.2.2.2.2
set_option maxRecDepth 100000 in
theorem dX4_roomOf_k67 : (decode cX4_roomOf 0 = .ok (.aload_n 0, 1)) ∧ (decode cX4_roomOf 1 = .ok (.getfield 33, 3)) ∧ (decode cX4_roomOf 4 = .ok (.ifCond .ne 6, 3)) ∧ (decode cX4_roomOf 7 = .ok (.bipush (-6), 2)) ∧ (decode cX4_roomOf 9 = .ok (.ireturn, 1)) ∧ (decode cX4_roomOf 10 = .ok (.aload_n 0, 1)) := by decide +kernel
theorem dX4_roomOf_0 : decode cX4_roomOf 0 = .ok (.aload_n 0, 1) := dX4_roomOf_k67.1
theorem dX4_roomOf_1 : decode cX4_roomOf 1 = .ok (.getfield 33, 3) := dX4_roomOf_k67.2.1
theorem dX4_roomOf_4 : decode cX4_roomOf 4 = .ok (.ifCond .ne 6, 3) := dX4_roomOf_k67.2.2.1
theorem dX4_roomOf_7 : decode cX4_roomOf 7 = .ok (.bipush (-6), 2) := dX4_roomOf_k67.2.2.2.1
theorem dX4_roomOf_9 : decode cX4_roomOf 9 = .ok (.ireturn, 1) := dX4_roomOf_k67.2.2.2.2.1
theorem dX4_roomOf_10 : decode cX4_roomOf 10 = .ok (.aload_n 0, 1) := dX4_roomOf_k67.2.2.2.2.2
set_option maxRecDepth 100000 in
theorem dX4_roomOf_k68 : (decode cX4_roomOf 11 = .ok (.getfield 37, 3)) ∧ (decode cX4_roomOf 14 = .ok (.istore_n 2, 1)) ∧ (decode cX4_roomOf 15 = .ok (.aload_n 0, 1)) ∧ (decode cX4_roomOf 16 = .ok (.getfield 40, 3)) ∧ (decode cX4_roomOf 19 = .ok (.iconst 1, 1)) ∧ (decode cX4_roomOf 20 = .ok (.isub, 1)) := by decide +kernel
theorem dX4_roomOf_11 : decode cX4_roomOf 11 = .ok (.getfield 37, 3) := dX4_roomOf_k68.1
theorem dX4_roomOf_14 : decode cX4_roomOf 14 = .ok (.istore_n 2, 1) := dX4_roomOf_k68.2.1
theorem dX4_roomOf_15 : decode cX4_roomOf 15 = .ok (.aload_n 0, 1) := dX4_roomOf_k68.2.2.1
theorem dX4_roomOf_16 : decode cX4_roomOf 16 = .ok (.getfield 40, 3) := dX4_roomOf_k68.2.2.2.1
theorem dX4_roomOf_19 : decode cX4_roomOf 19 = .ok (.iconst 1, 1) := dX4_roomOf_k68.2.2.2.2.1
theorem dX4_roomOf_20 : decode cX4_roomOf 20 = .ok (.isub, 1) := dX4_roomOf_k68.2.2.2.2.2
set_option maxRecDepth 100000 in
theorem dX4_roomOf_k69 : (decode cX4_roomOf 21 = .ok (.istore_n 3, 1)) ∧ (decode cX4_roomOf 22 = .ok (.iload_n 3, 1)) ∧ (decode cX4_roomOf 23 = .ok (.ifCond .lt 29, 3)) ∧ (decode cX4_roomOf 26 = .ok (.aload_n 0, 1)) ∧ (decode cX4_roomOf 27 = .ok (.getfield 9, 3)) ∧ (decode cX4_roomOf 30 = .ok (.iload_n 3, 1)) := by decide +kernel
theorem dX4_roomOf_21 : decode cX4_roomOf 21 = .ok (.istore_n 3, 1) := dX4_roomOf_k69.1
theorem dX4_roomOf_22 : decode cX4_roomOf 22 = .ok (.iload_n 3, 1) := dX4_roomOf_k69.2.1
theorem dX4_roomOf_23 : decode cX4_roomOf 23 = .ok (.ifCond .lt 29, 3) := dX4_roomOf_k69.2.2.1
theorem dX4_roomOf_26 : decode cX4_roomOf 26 = .ok (.aload_n 0, 1) := dX4_roomOf_k69.2.2.2.1
theorem dX4_roomOf_27 : decode cX4_roomOf 27 = .ok (.getfield 9, 3) := dX4_roomOf_k69.2.2.2.2.1
theorem dX4_roomOf_30 : decode cX4_roomOf 30 = .ok (.iload_n 3, 1) := dX4_roomOf_k69.2.2.2.2.2
set_option maxRecDepth 100000 in
theorem dX4_roomOf_k70 : (decode cX4_roomOf 31 = .ok (.iaload, 1)) ∧ (decode cX4_roomOf 32 = .ok (.iload_n 1, 1)) ∧ (decode cX4_roomOf 33 = .ok (.if_icmp .ne 8, 3)) ∧ (decode cX4_roomOf 36 = .ok (.iload_n 2, 1)) ∧ (decode cX4_roomOf 37 = .ok (.bipush 10, 2)) ∧ (decode cX4_roomOf 39 = .ok (.irem, 1)) := by decide +kernel
theorem dX4_roomOf_31 : decode cX4_roomOf 31 = .ok (.iaload, 1) := dX4_roomOf_k70.1
theorem dX4_roomOf_32 : decode cX4_roomOf 32 = .ok (.iload_n 1, 1) := dX4_roomOf_k70.2.1
theorem dX4_roomOf_33 : decode cX4_roomOf 33 = .ok (.if_icmp .ne 8, 3) := dX4_roomOf_k70.2.2.1
theorem dX4_roomOf_36 : decode cX4_roomOf 36 = .ok (.iload_n 2, 1) := dX4_roomOf_k70.2.2.2.1
theorem dX4_roomOf_37 : decode cX4_roomOf 37 = .ok (.bipush 10, 2) := dX4_roomOf_k70.2.2.2.2.1
theorem dX4_roomOf_39 : decode cX4_roomOf 39 = .ok (.irem, 1) := dX4_roomOf_k70.2.2.2.2.2
set_option maxRecDepth 100000 in
theorem dX4_roomOf_k71 : (decode cX4_roomOf 40 = .ok (.ireturn, 1)) ∧ (decode cX4_roomOf 41 = .ok (.iload_n 2, 1)) ∧ (decode cX4_roomOf 42 = .ok (.bipush 10, 2)) ∧ (decode cX4_roomOf 44 = .ok (.idiv, 1)) ∧ (decode cX4_roomOf 45 = .ok (.istore_n 2, 1)) ∧ (decode cX4_roomOf 46 = .ok (.iinc 3 (-1), 3)) := by decide +kernel
theorem dX4_roomOf_40 : decode cX4_roomOf 40 = .ok (.ireturn, 1) := dX4_roomOf_k71.1
theorem dX4_roomOf_41 : decode cX4_roomOf 41 = .ok (.iload_n 2, 1) := dX4_roomOf_k71.2.1
theorem dX4_roomOf_42 : decode cX4_roomOf 42 = .ok (.bipush 10, 2) := dX4_roomOf_k71.2.2.1
theorem dX4_roomOf_44 : decode cX4_roomOf 44 = .ok (.idiv, 1) := dX4_roomOf_k71.2.2.2.1
theorem dX4_roomOf_45 : decode cX4_roomOf 45 = .ok (.istore_n 2, 1) := dX4_roomOf_k71.2.2.2.2.1
theorem dX4_roomOf_46 : decode cX4_roomOf 46 = .ok (.iinc 3 (-1), 3) := dX4_roomOf_k71.2.2.2.2.2
set_option maxRecDepth 100000 in
theorem dX4_roomOf_k72 : (decode cX4_roomOf 49 = .ok (.goto (-27), 3)) ∧ (decode cX4_roomOf 52 = .ok (.bipush (-6), 2)) ∧ (decode cX4_roomOf 54 = .ok (.ireturn, 1)) := by decide +kernel
theorem dX4_roomOf_49 : decode cX4_roomOf 49 = .ok (.goto (-27), 3) := dX4_roomOf_k72.1
theorem dX4_roomOf_52 : decode cX4_roomOf 52 = .ok (.bipush (-6), 2) := dX4_roomOf_k72.2.1
theorem dX4_roomOf_54 : decode cX4_roomOf 54 = .ok (.ireturn, 1) := dX4_roomOf_k72.2.2
