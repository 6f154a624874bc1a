set_option maxRecDepth 100000 in
theorem dX8_init_k0 : (decode cX8_init 0 = .ok (.aload_n 0, 1)) ∧ (decode cX8_init 1 = .ok (.invokespecial 1, 3)) ∧ (decode cX8_init 4 = .ok (.aload_n 0, 1)) ∧ (decode cX8_init 5 = .ok (.new 7, 3)) ∧ (decode cX8_init 8 = .ok (.dup, 1)) ∧ (decode cX8_init 9 = .ok (.invokespecial 9, 3)) := by decide +kernel
theorem dX8_init_0 : decode cX8_init 0 = .ok (.aload_n 0, 1) := dX8_init_k0.1
theorem dX8_init_1 : decode cX8_init 1 = .ok (.invokespecial 1, 3) := dX8_init_k0.2.1
theorem dX8_init_4 : decode cX8_init 4 = .ok (.aload_n 0, 1) := dX8_init_k0.2.2.1
theorem dX8_init_5 : decode cX8_init 5 = .ok (.new 7, 3) := dX8_init_k0.2.2.2.1
theorem dX8_init_8 : decode cX8_init 8 = .ok (.dup, 1) := dX8_init_k0.2.2.2.2.1
theorem dX8_init_9 : decode cX8_init 9 = .ok (.invokespecial 9, 3) := dX8_init_k0.2.2.2.2.2
set_option maxRecDepth 100000 in
theorem dX8_init_k1 : (decode cX8_init 12 = .ok (.putfield 10, 3)) ∧ (decode cX8_init 15 = .ok (.aload_n 0, 1)) ∧ (decode cX8_init 16 = .ok (.iconst 2, 1)) ∧ (decode cX8_init 17 = .ok (.anewarray 7, 3)) ∧ (decode cX8_init 20 = .ok (.dup, 1)) ∧ (decode cX8_init 21 = .ok (.iconst 0, 1)) := by decide +kernel
theorem dX8_init_12 : decode cX8_init 12 = .ok (.putfield 10, 3) := dX8_init_k1.1
theorem dX8_init_15 : decode cX8_init 15 = .ok (.aload_n 0, 1) := dX8_init_k1.2.1
theorem dX8_init_16 : decode cX8_init 16 = .ok (.iconst 2, 1) := dX8_init_k1.2.2.1
theorem dX8_init_17 : decode cX8_init 17 = .ok (.anewarray 7, 3) := dX8_init_k1.2.2.2.1
theorem dX8_init_20 : decode cX8_init 20 = .ok (.dup, 1) := dX8_init_k1.2.2.2.2.1
theorem dX8_init_21 : decode cX8_init 21 = .ok (.iconst 0, 1) := dX8_init_k1.2.2.2.2.2
set_option maxRecDepth 100000 in
theorem dX8_init_k2 : (decode cX8_init 22 = .ok (.new 7, 3)) ∧ (decode cX8_init 25 = .ok (.dup, 1)) ∧ (decode cX8_init 26 = .ok (.invokespecial 9, 3)) ∧ (decode cX8_init 29 = .ok (.aastore, 1)) ∧ (decode cX8_init 30 = .ok (.dup, 1)) ∧ (decode cX8_init 31 = .ok (.iconst 1, 1)) := by decide +kernel
theorem dX8_init_22 : decode cX8_init 22 = .ok (.new 7, 3) := dX8_init_k2.1
theorem dX8_init_25 : decode cX8_init 25 = .ok (.dup, 1) := dX8_init_k2.2.1
theorem dX8_init_26 : decode cX8_init 26 = .ok (.invokespecial 9, 3) := dX8_init_k2.2.2.1
theorem dX8_init_29 : decode cX8_init 29 = .ok (.aastore, 1) := dX8_init_k2.2.2.2.1
theorem dX8_init_30 : decode cX8_init 30 = .ok (.dup, 1) := dX8_init_k2.2.2.2.2.1
theorem dX8_init_31 : decode cX8_init 31 = .ok (.iconst 1, 1) := dX8_init_k2.2.2.2.2.2
set_option maxRecDepth 100000 in
theorem dX8_init_k3 : (decode cX8_init 32 = .ok (.new 7, 3)) ∧ (decode cX8_init 35 = .ok (.dup, 1)) ∧ (decode cX8_init 36 = .ok (.invokespecial 9, 3)) ∧ (decode cX8_init 39 = .ok (.aastore, 1)) ∧ (decode cX8_init 40 = .ok (.putfield 16, 3)) ∧ (decode cX8_init 43 = .ok (.aload_n 0, 1)) := by decide +kernel
theorem dX8_init_32 : decode cX8_init 32 = .ok (.new 7, 3) := dX8_init_k3.1
theorem dX8_init_35 : decode cX8_init 35 = .ok (.dup, 1) := dX8_init_k3.2.1
theorem dX8_init_36 : decode cX8_init 36 = .ok (.invokespecial 9, 3) := dX8_init_k3.2.2.1
theorem dX8_init_39 : decode cX8_init 39 = .ok (.aastore, 1) := dX8_init_k3.2.2.2.1
theorem dX8_init_40 : decode cX8_init 40 = .ok (.putfield 16, 3) := dX8_init_k3.2.2.2.2.1
theorem dX8_init_43 : decode cX8_init 43 = .ok (.aload_n 0, 1) := dX8_init_k3.2.2.2.2.2
set_option maxRecDepth 100000 in
theorem dX8_init_k4 : (decode cX8_init 44 = .ok (.iconst 2, 1)) ∧ (decode cX8_init 45 = .ok (.newarray .boolean, 2)) ∧ (decode cX8_init 47 = .ok (.putfield 20, 3)) ∧ (decode cX8_init 50 = .ok (.aload_n 0, 1)) ∧ (decode cX8_init 51 = .ok (.new 24, 3)) ∧ (decode cX8_init 54 = .ok (.dup, 1)) := by decide +kernel
theorem dX8_init_44 : decode cX8_init 44 = .ok (.iconst 2, 1) := dX8_init_k4.1
theorem dX8_init_45 : decode cX8_init 45 = .ok (.newarray .boolean, 2) := dX8_init_k4.2.1
theorem dX8_init_47 : decode cX8_init 47 = .ok (.putfield 20, 3) := dX8_init_k4.2.2.1
theorem dX8_init_50 : decode cX8_init 50 = .ok (.aload_n 0, 1) := dX8_init_k4.2.2.2.1
theorem dX8_init_51 : decode cX8_init 51 = .ok (.new 24, 3) := dX8_init_k4.2.2.2.2.1
theorem dX8_init_54 : decode cX8_init 54 = .ok (.dup, 1) := dX8_init_k4.2.2.2.2.2
set_option maxRecDepth 100000 in
theorem dX8_init_k5 : (decode cX8_init 55 = .ok (.invokespecial 26, 3)) ∧ (decode cX8_init 58 = .ok (.putfield 27, 3)) ∧ (decode cX8_init 61 = .ok (.aload_n 0, 1)) ∧ (decode cX8_init 62 = .ok (.new 31, 3)) ∧ (decode cX8_init 65 = .ok (.dup, 1)) ∧ (decode cX8_init 66 = .ok (.invokespecial 33, 3)) := by decide +kernel
theorem dX8_init_55 : decode cX8_init 55 = .ok (.invokespecial 26, 3) := dX8_init_k5.1
theorem dX8_init_58 : decode cX8_init 58 = .ok (.putfield 27, 3) := dX8_init_k5.2.1
theorem dX8_init_61 : decode cX8_init 61 = .ok (.aload_n 0, 1) := dX8_init_k5.2.2.1
theorem dX8_init_62 : decode cX8_init 62 = .ok (.new 31, 3) := dX8_init_k5.2.2.2.1
theorem dX8_init_65 : decode cX8_init 65 = .ok (.dup, 1) := dX8_init_k5.2.2.2.2.1
theorem dX8_init_66 : decode cX8_init 66 = .ok (.invokespecial 33, 3) := dX8_init_k5.2.2.2.2.2
set_option maxRecDepth 100000 in
theorem dX8_init_k6 : (decode cX8_init 69 = .ok (.putfield 34, 3)) ∧ (decode cX8_init 72 = .ok (.aload_n 0, 1)) ∧ (decode cX8_init 73 = .ok (.new 38, 3)) ∧ (decode cX8_init 76 = .ok (.dup, 1)) ∧ (decode cX8_init 77 = .ok (.invokespecial 40, 3)) ∧ (decode cX8_init 80 = .ok (.putfield 41, 3)) := by decide +kernel
theorem dX8_init_69 : decode cX8_init 69 = .ok (.putfield 34, 3) := dX8_init_k6.1
theorem dX8_init_72 : decode cX8_init 72 = .ok (.aload_n 0, 1) := dX8_init_k6.2.1
theorem dX8_init_73 : decode cX8_init 73 = .ok (.new 38, 3) := dX8_init_k6.2.2.1
theorem dX8_init_76 : decode cX8_init 76 = .ok (.dup, 1) := dX8_init_k6.2.2.2.1
theorem dX8_init_77 : decode cX8_init 77 = .ok (.invokespecial 40, 3) := dX8_init_k6.2.2.2.2.1
theorem dX8_init_80 : decode cX8_init 80 = .ok (.putfield 41, 3) := dX8_init_k6.2.2.2.2.2
set_option maxRecDepth 100000 in
theorem dX8_init_k7 : (decode cX8_init 83 = .ok (.aload_n 0, 1)) ∧ (decode cX8_init 84 = .ok (.new 45, 3)) ∧ (decode cX8_init 87 = .ok (.dup, 1)) ∧ (decode cX8_init 88 = .ok (.invokespecial 47, 3)) ∧ (decode cX8_init 91 = .ok (.putfield 48, 3)) ∧ (decode cX8_init 94 = .ok (.aload_n 0, 1)) := by decide +kernel
theorem dX8_init_83 : decode cX8_init 83 = .ok (.aload_n 0, 1) := dX8_init_k7.1
theorem dX8_init_84 : decode cX8_init 84 = .ok (.new 45, 3) := dX8_init_k7.2.1
theorem dX8_init_87 : decode cX8_init 87 = .ok (.dup, 1) := dX8_init_k7.2.2.1
theorem dX8_init_88 : decode cX8_init 88 = .ok (.invokespecial 47, 3) := dX8_init_k7.2.2.2.1
theorem dX8_init_91 : decode cX8_init 91 = .ok (.putfield 48, 3) := dX8_init_k7.2.2.2.2.1
theorem dX8_init_94 : decode cX8_init 94 = .ok (.aload_n 0, 1) := dX8_init_k7.2.2.2.2.2
set_option maxRecDepth 100000 in
theorem dX8_init_k8 : (decode cX8_init 95 = .ok (.new 52, 3)) ∧ (decode cX8_init 98 = .ok (.dup, 1)) ∧ (decode cX8_init 99 = .ok (.invokespecial 54, 3)) ∧ (decode cX8_init 102 = .ok (.putfield 55, 3)) ∧ (decode cX8_init 105 = .ok (.aload_n 0, 1)) ∧ (decode cX8_init 106 = .ok (.new 59, 3)) := by decide +kernel
theorem dX8_init_95 : decode cX8_init 95 = .ok (.new 52, 3) := dX8_init_k8.1
theorem dX8_init_98 : decode cX8_init 98 = .ok (.dup, 1) := dX8_init_k8.2.1
theorem dX8_init_99 : decode cX8_init 99 = .ok (.invokespecial 54, 3) := dX8_init_k8.2.2.1
theorem dX8_init_102 : decode cX8_init 102 = .ok (.putfield 55, 3) := dX8_init_k8.2.2.2.1
theorem dX8_init_105 : decode cX8_init 105 = .ok (.aload_n 0, 1) := dX8_init_k8.2.2.2.2.1
theorem dX8_init_106 : decode cX8_init 106 = .ok (.new 59, 3) := dX8_init_k8.2.2.2.2.2
set_option maxRecDepth 100000 in
theorem dX8_init_k9 : (decode cX8_init 109 = .ok (.dup, 1)) ∧ (decode cX8_init 110 = .ok (.invokespecial 61, 3)) ∧ (decode cX8_init 113 = .ok (.putfield 62, 3)) ∧ (decode cX8_init 116 = .ok (.aload_n 0, 1)) ∧ (decode cX8_init 117 = .ok (.new 66, 3)) ∧ (decode cX8_init 120 = .ok (.dup, 1)) := by decide +kernel
theorem dX8_init_109 : decode cX8_init 109 = .ok (.dup, 1) := dX8_init_k9.1
theorem dX8_init_110 : decode cX8_init 110 = .ok (.invokespecial 61, 3) := dX8_init_k9.2.1
theorem dX8_init_113 : decode cX8_init 113 = .ok (.putfield 62, 3) := dX8_init_k9.2.2.1
theorem dX8_init_116 : decode cX8_init 116 = .ok (.aload_n 0, 1) := dX8_init_k9.2.2.2.1
theorem dX8_init_117 : decode cX8_init 117 = .ok (.new 66, 3) := dX8_init_k9.2.2.2.2.1
theorem dX8_init_120 : decode cX8_init 120 = .ok (.dup, 1) := dX8_init_k9.2.2.2.2.2
set_option maxRecDepth 100000 in
theorem dX8_init_k10 : (decode cX8_init 121 = .ok (.invokespecial 68, 3)) ∧ (decode cX8_init 124 = .ok (.putfield 69, 3)) ∧ (decode cX8_init 127 = .ok (.aload_n 0, 1)) ∧ (decode cX8_init 128 = .ok (.bipush 100, 2)) ∧ (decode cX8_init 130 = .ok (.newarray .long, 2)) ∧ (decode cX8_init 132 = .ok (.putfield 73, 3)) := by decide +kernel
theorem dX8_init_121 : decode cX8_init 121 = .ok (.invokespecial 68, 3) := dX8_init_k10.1
theorem dX8_init_124 : decode cX8_init 124 = .ok (.putfield 69, 3) := dX8_init_k10.2.1
theorem dX8_init_127 : decode cX8_init 127 = .ok (.aload_n 0, 1) := dX8_init_k10.2.2.1
theorem dX8_init_128 : decode cX8_init 128 = .ok (.bipush 100, 2) := dX8_init_k10.2.2.2.1
theorem dX8_init_130 : decode cX8_init 130 = .ok (.newarray .long, 2) := dX8_init_k10.2.2.2.2.1
theorem dX8_init_132 : decode cX8_init 132 = .ok (.putfield 73, 3) := dX8_init_k10.2.2.2.2.2
set_option maxRecDepth 100000 in
theorem dX8_init_k11 : (decode cX8_init 135 = .ok (.aload_n 0, 1)) ∧ (decode cX8_init 136 = .ok (.getfield 10, 3)) ∧ (decode cX8_init 139 = .ok (.iconst 3, 1)) ∧ (decode cX8_init 140 = .ok (.invokevirtual 77, 3)) ∧ (decode cX8_init 143 = .ok (.return_, 1)) := by decide +kernel
theorem dX8_init_135 : decode cX8_init 135 = .ok (.aload_n 0, 1) := dX8_init_k11.1
theorem dX8_init_136 : decode cX8_init 136 = .ok (.getfield 10, 3) := dX8_init_k11.2.1
theorem dX8_init_139 : decode cX8_init 139 = .ok (.iconst 3, 1) := dX8_init_k11.2.2.1
theorem dX8_init_140 : decode cX8_init 140 = .ok (.invokevirtual 77, 3) := dX8_init_k11.2.2.2.1
theorem dX8_init_143 : decode cX8_init 143 = .ok (.return_, 1) := dX8_init_k11.2.2.2.2
set_option maxRecDepth 100000 in
theorem dX8_rooms_k12 : (decode cX8_rooms 0 = .ok (.iload_n 1, 1)) ∧ (decode cX8_rooms 1 = .ok (.iconst 2, 1)) ∧ (decode cX8_rooms 2 = .ok (.if_icmp .lt 9, 3)) ∧ (decode cX8_rooms 5 = .ok (.iload_n 1, 1)) ∧ (decode cX8_rooms 6 = .ok (.bipush 6, 2)) ∧ (decode cX8_rooms 8 = .ok (.if_icmp .le 6, 3)) := by decide +kernel
theorem dX8_rooms_0 : decode cX8_rooms 0 = .ok (.iload_n 1, 1) := dX8_rooms_k12.1
theorem dX8_rooms_1 : decode cX8_rooms 1 = .ok (.iconst 2, 1) := dX8_rooms_k12.2.1
theorem dX8_rooms_2 : decode cX8_rooms 2 = .ok (.if_icmp .lt 9, 3) := dX8_rooms_k12.2.2.1
theorem dX8_rooms_5 : decode cX8_rooms 5 = .ok (.iload_n 1, 1) := dX8_rooms_k12.2.2.2.1
theorem dX8_rooms_6 : decode cX8_rooms 6 = .ok (.bipush 6, 2) := dX8_rooms_k12.2.2.2.2.1
theorem dX8_rooms_8 : decode cX8_rooms 8 = .ok (.if_icmp .le 6, 3) := dX8_rooms_k12.2.2.2.2.2
set_option maxRecDepth 100000 in
theorem dX8_rooms_k13 : (decode cX8_rooms 11 = .ok (.bipush (-2), 2)) ∧ (decode cX8_rooms 13 = .ok (.ireturn, 1)) ∧ (decode cX8_rooms 14 = .ok (.aload_n 0, 1)) ∧ (decode cX8_rooms 15 = .ok (.getfield 10, 3)) ∧ (decode cX8_rooms 18 = .ok (.getfield 81, 3)) ∧ (decode cX8_rooms 21 = .ok (.istore_n 2, 1)) := by decide +kernel
theorem dX8_rooms_11 : decode cX8_rooms 11 = .ok (.bipush (-2), 2) := dX8_rooms_k13.1
theorem dX8_rooms_13 : decode cX8_rooms 13 = .ok (.ireturn, 1) := dX8_rooms_k13.2.1
theorem dX8_rooms_14 : decode cX8_rooms 14 = .ok (.aload_n 0, 1) := dX8_rooms_k13.2.2.1
theorem dX8_rooms_15 : decode cX8_rooms 15 = .ok (.getfield 10, 3) := dX8_rooms_k13.2.2.2.1
theorem dX8_rooms_18 : decode cX8_rooms 18 = .ok (.getfield 81, 3) := dX8_rooms_k13.2.2.2.2.1
theorem dX8_rooms_21 : decode cX8_rooms 21 = .ok (.istore_n 2, 1) := dX8_rooms_k13.2.2.2.2.2
set_option maxRecDepth 100000 in
theorem dX8_rooms_k14 : (decode cX8_rooms 22 = .ok (.aload_n 0, 1)) ∧ (decode cX8_rooms 23 = .ok (.getfield 10, 3)) ∧ (decode cX8_rooms 26 = .ok (.iload_n 1, 1)) ∧ (decode cX8_rooms 27 = .ok (.invokevirtual 77, 3)) ∧ (decode cX8_rooms 30 = .ok (.iload_n 2, 1)) ∧ (decode cX8_rooms 31 = .ok (.ireturn, 1)) := by decide +kernel
theorem dX8_rooms_22 : decode cX8_rooms 22 = .ok (.aload_n 0, 1) := dX8_rooms_k14.1
theorem dX8_rooms_23 : decode cX8_rooms 23 = .ok (.getfield 10, 3) := dX8_rooms_k14.2.1
theorem dX8_rooms_26 : decode cX8_rooms 26 = .ok (.iload_n 1, 1) := dX8_rooms_k14.2.2.1
theorem dX8_rooms_27 : decode cX8_rooms 27 = .ok (.invokevirtual 77, 3) := dX8_rooms_k14.2.2.2.1
theorem dX8_rooms_30 : decode cX8_rooms 30 = .ok (.iload_n 2, 1) := dX8_rooms_k14.2.2.2.2.1
theorem dX8_rooms_31 : decode cX8_rooms 31 = .ok (.ireturn, 1) := dX8_rooms_k14.2.2.2.2.2
set_option maxRecDepth 100000 in
theorem dX8_room_k15 : (decode cX8_room 0 = .ok (.aload_n 0, 1)) ∧ (decode cX8_room 1 = .ok (.getfield 10, 3)) ∧ (decode cX8_room 4 = .ok (.iload_n 1, 1)) ∧ (decode cX8_room 5 = .ok (.invokevirtual 85, 3)) ∧ (decode cX8_room 8 = .ok (.ifCond .ne 5, 3)) ∧ (decode cX8_room 11 = .ok (.iconst (-1), 1)) := by decide +kernel
theorem dX8_room_0 : decode cX8_room 0 = .ok (.aload_n 0, 1) := dX8_room_k15.1
theorem dX8_room_1 : decode cX8_room 1 = .ok (.getfield 10, 3) := dX8_room_k15.2.1
theorem dX8_room_4 : decode cX8_room 4 = .ok (.iload_n 1, 1) := dX8_room_k15.2.2.1
theorem dX8_room_5 : decode cX8_room 5 = .ok (.invokevirtual 85, 3) := dX8_room_k15.2.2.2.1
theorem dX8_room_8 : decode cX8_room 8 = .ok (.ifCond .ne 5, 3) := dX8_room_k15.2.2.2.2.1
theorem dX8_room_11 : decode cX8_room 11 = .ok (.iconst (-1), 1) := dX8_room_k15.2.2.2.2.2
set_option maxRecDepth 100000 in
theorem dX8_room_k16 : (decode cX8_room 12 = .ok (.ireturn, 1)) ∧ (decode cX8_room 13 = .ok (.iload_n 2, 1)) ∧ (decode cX8_room 14 = .ok (.ifCond .lt 29, 3)) ∧ (decode cX8_room 17 = .ok (.iload_n 2, 1)) ∧ (decode cX8_room 18 = .ok (.bipush 6, 2)) ∧ (decode cX8_room 20 = .ok (.if_icmp .ge 23, 3)) := by decide +kernel
theorem dX8_room_12 : decode cX8_room 12 = .ok (.ireturn, 1) := dX8_room_k16.1
theorem dX8_room_13 : decode cX8_room 13 = .ok (.iload_n 2, 1) := dX8_room_k16.2.1
theorem dX8_room_14 : decode cX8_room 14 = .ok (.ifCond .lt 29, 3) := dX8_room_k16.2.2.1
theorem dX8_room_17 : decode cX8_room 17 = .ok (.iload_n 2, 1) := dX8_room_k16.2.2.2.1
theorem dX8_room_18 : decode cX8_room 18 = .ok (.bipush 6, 2) := dX8_room_k16.2.2.2.2.1
theorem dX8_room_20 : decode cX8_room 20 = .ok (.if_icmp .ge 23, 3) := dX8_room_k16.2.2.2.2.2
set_option maxRecDepth 100000 in
theorem dX8_room_k17 : (decode cX8_room 23 = .ok (.iload_n 3, 1)) ∧ (decode cX8_room 24 = .ok (.iload_n 2, 1)) ∧ (decode cX8_room 25 = .ok (.iconst 4, 1)) ∧ (decode cX8_room 26 = .ok (.if_icmp .ne 7, 3)) ∧ (decode cX8_room 29 = .ok (.iconst 1, 1)) ∧ (decode cX8_room 30 = .ok (.goto 4, 3)) := by decide +kernel
theorem dX8_room_23 : decode cX8_room 23 = .ok (.iload_n 3, 1) := dX8_room_k17.1
theorem dX8_room_24 : decode cX8_room 24 = .ok (.iload_n 2, 1) := dX8_room_k17.2.1
theorem dX8_room_25 : decode cX8_room 25 = .ok (.iconst 4, 1) := dX8_room_k17.2.2.1
theorem dX8_room_26 : decode cX8_room 26 = .ok (.if_icmp .ne 7, 3) := dX8_room_k17.2.2.2.1
theorem dX8_room_29 : decode cX8_room 29 = .ok (.iconst 1, 1) := dX8_room_k17.2.2.2.2.1
theorem dX8_room_30 : decode cX8_room 30 = .ok (.goto 4, 3) := dX8_room_k17.2.2.2.2.2
set_option maxRecDepth 100000 in
theorem dX8_room_k18 : (decode cX8_room 33 = .ok (.iconst 0, 1)) ∧ (decode cX8_room 34 = .ok (.if_icmp .lt 9, 3)) ∧ (decode cX8_room 37 = .ok (.iload_n 3, 1)) ∧ (decode cX8_room 38 = .ok (.bipush 9, 2)) ∧ (decode cX8_room 40 = .ok (.if_icmp .le 6, 3)) ∧ (decode cX8_room 43 = .ok (.bipush (-2), 2)) := by decide +kernel
theorem dX8_room_33 : decode cX8_room 33 = .ok (.iconst 0, 1) := dX8_room_k18.1
theorem dX8_room_34 : decode cX8_room 34 = .ok (.if_icmp .lt 9, 3) := dX8_room_k18.2.1
theorem dX8_room_37 : decode cX8_room 37 = .ok (.iload_n 3, 1) := dX8_room_k18.2.2.1
theorem dX8_room_38 : decode cX8_room 38 = .ok (.bipush 9, 2) := dX8_room_k18.2.2.2.1
theorem dX8_room_40 : decode cX8_room 40 = .ok (.if_icmp .le 6, 3) := dX8_room_k18.2.2.2.2.1
theorem dX8_room_43 : decode cX8_room 43 = .ok (.bipush (-2), 2) := dX8_room_k18.2.2.2.2.2
set_option maxRecDepth 100000 in
theorem dX8_room_k19 : (decode cX8_room 45 = .ok (.ireturn, 1)) ∧ (decode cX8_room 46 = .ok (.iload_n 2, 1)) ∧ (decode cX8_room 47 = .ok (.iconst 4, 1)) ∧ (decode cX8_room 48 = .ok (.if_icmp .ne 15, 3)) ∧ (decode cX8_room 51 = .ok (.iload_n 3, 1)) ∧ (decode cX8_room 52 = .ok (.aload_n 0, 1)) := by decide +kernel
theorem dX8_room_45 : decode cX8_room 45 = .ok (.ireturn, 1) := dX8_room_k19.1
theorem dX8_room_46 : decode cX8_room 46 = .ok (.iload_n 2, 1) := dX8_room_k19.2.1
theorem dX8_room_47 : decode cX8_room 47 = .ok (.iconst 4, 1) := dX8_room_k19.2.2.1
theorem dX8_room_48 : decode cX8_room 48 = .ok (.if_icmp .ne 15, 3) := dX8_room_k19.2.2.2.1
theorem dX8_room_51 : decode cX8_room 51 = .ok (.iload_n 3, 1) := dX8_room_k19.2.2.2.2.1
theorem dX8_room_52 : decode cX8_room 52 = .ok (.aload_n 0, 1) := dX8_room_k19.2.2.2.2.2
set_option maxRecDepth 100000 in
theorem dX8_room_k20 : (decode cX8_room 53 = .ok (.getfield 10, 3)) ∧ (decode cX8_room 56 = .ok (.iload_n 1, 1)) ∧ (decode cX8_room 57 = .ok (.invokevirtual 89, 3)) ∧ (decode cX8_room 60 = .ok (.if_icmp .lt 20, 3)) ∧ (decode cX8_room 63 = .ok (.iload_n 2, 1)) ∧ (decode cX8_room 64 = .ok (.iconst 5, 1)) := by decide +kernel
theorem dX8_room_53 : decode cX8_room 53 = .ok (.getfield 10, 3) := dX8_room_k20.1
theorem dX8_room_56 : decode cX8_room 56 = .ok (.iload_n 1, 1) := dX8_room_k20.2.1
theorem dX8_room_57 : decode cX8_room 57 = .ok (.invokevirtual 89, 3) := dX8_room_k20.2.2.1
theorem dX8_room_60 : decode cX8_room 60 = .ok (.if_icmp .lt 20, 3) := dX8_room_k20.2.2.2.1
theorem dX8_room_63 : decode cX8_room 63 = .ok (.iload_n 2, 1) := dX8_room_k20.2.2.2.2.1
theorem dX8_room_64 : decode cX8_room 64 = .ok (.iconst 5, 1) := dX8_room_k20.2.2.2.2.2
set_option maxRecDepth 100000 in
theorem dX8_room_k21 : (decode cX8_room 65 = .ok (.if_icmp .ne 18, 3)) ∧ (decode cX8_room 68 = .ok (.iload_n 3, 1)) ∧ (decode cX8_room 69 = .ok (.aload_n 0, 1)) ∧ (decode cX8_room 70 = .ok (.getfield 10, 3)) ∧ (decode cX8_room 73 = .ok (.iload_n 1, 1)) ∧ (decode cX8_room 74 = .ok (.invokevirtual 93, 3)) := by decide +kernel
theorem dX8_room_65 : decode cX8_room 65 = .ok (.if_icmp .ne 18, 3) := dX8_room_k21.1
theorem dX8_room_68 : decode cX8_room 68 = .ok (.iload_n 3, 1) := dX8_room_k21.2.1
theorem dX8_room_69 : decode cX8_room 69 = .ok (.aload_n 0, 1) := dX8_room_k21.2.2.1
theorem dX8_room_70 : decode cX8_room 70 = .ok (.getfield 10, 3) := dX8_room_k21.2.2.2.1
theorem dX8_room_73 : decode cX8_room 73 = .ok (.iload_n 1, 1) := dX8_room_k21.2.2.2.2.1
theorem dX8_room_74 : decode cX8_room 74 = .ok (.invokevirtual 93, 3) := dX8_room_k21.2.2.2.2.2
set_option maxRecDepth 100000 in
theorem dX8_room_k22 : (decode cX8_room 77 = .ok (.if_icmp .ge 6, 3)) ∧ (decode cX8_room 80 = .ok (.bipush (-3), 2)) ∧ (decode cX8_room 82 = .ok (.ireturn, 1)) ∧ (decode cX8_room 83 = .ok (.iload_n 1, 1)) ∧ (decode cX8_room 84 = .ok (.bipush 6, 2)) ∧ (decode cX8_room 86 = .ok (.imul, 1)) := by decide +kernel
theorem dX8_room_77 : decode cX8_room 77 = .ok (.if_icmp .ge 6, 3) := dX8_room_k22.1
theorem dX8_room_80 : decode cX8_room 80 = .ok (.bipush (-3), 2) := dX8_room_k22.2.1
theorem dX8_room_82 : decode cX8_room 82 = .ok (.ireturn, 1) := dX8_room_k22.2.2.1
theorem dX8_room_83 : decode cX8_room 83 = .ok (.iload_n 1, 1) := dX8_room_k22.2.2.2.1
theorem dX8_room_84 : decode cX8_room 84 = .ok (.bipush 6, 2) := dX8_room_k22.2.2.2.2.1
theorem dX8_room_86 : decode cX8_room 86 = .ok (.imul, 1) := dX8_room_k22.2.2.2.2.2
set_option maxRecDepth 100000 in
theorem dX8_room_k23 : (decode cX8_room 87 = .ok (.iload_n 2, 1)) ∧ (decode cX8_room 88 = .ok (.iadd, 1)) ∧ (decode cX8_room 89 = .ok (.istore 4, 2)) ∧ (decode cX8_room 91 = .ok (.aload_n 0, 1)) ∧ (decode cX8_room 92 = .ok (.getfield 10, 3)) ∧ (decode cX8_room 95 = .ok (.getfield 96, 3)) := by decide +kernel
theorem dX8_room_87 : decode cX8_room 87 = .ok (.iload_n 2, 1) := dX8_room_k23.1
theorem dX8_room_88 : decode cX8_room 88 = .ok (.iadd, 1) := dX8_room_k23.2.1
theorem dX8_room_89 : decode cX8_room 89 = .ok (.istore 4, 2) := dX8_room_k23.2.2.1
theorem dX8_room_91 : decode cX8_room 91 = .ok (.aload_n 0, 1) := dX8_room_k23.2.2.2.1
theorem dX8_room_92 : decode cX8_room 92 = .ok (.getfield 10, 3) := dX8_room_k23.2.2.2.2.1
theorem dX8_room_95 : decode cX8_room 95 = .ok (.getfield 96, 3) := dX8_room_k23.2.2.2.2.2
set_option maxRecDepth 100000 in
theorem dX8_room_k24 : (decode cX8_room 98 = .ok (.iload 4, 2)) ∧ (decode cX8_room 100 = .ok (.iaload, 1)) ∧ (decode cX8_room 101 = .ok (.istore 5, 2)) ∧ (decode cX8_room 103 = .ok (.aload_n 0, 1)) ∧ (decode cX8_room 104 = .ok (.getfield 10, 3)) ∧ (decode cX8_room 107 = .ok (.getfield 96, 3)) := by decide +kernel
theorem dX8_room_98 : decode cX8_room 98 = .ok (.iload 4, 2) := dX8_room_k24.1
theorem dX8_room_100 : decode cX8_room 100 = .ok (.iaload, 1) := dX8_room_k24.2.1
theorem dX8_room_101 : decode cX8_room 101 = .ok (.istore 5, 2) := dX8_room_k24.2.2.1
theorem dX8_room_103 : decode cX8_room 103 = .ok (.aload_n 0, 1) := dX8_room_k24.2.2.2.1
theorem dX8_room_104 : decode cX8_room 104 = .ok (.getfield 10, 3) := dX8_room_k24.2.2.2.2.1
theorem dX8_room_107 : decode cX8_room 107 = .ok (.getfield 96, 3) := dX8_room_k24.2.2.2.2.2
set_option maxRecDepth 100000 in
theorem dX8_room_k25 : (decode cX8_room 110 = .ok (.iload 4, 2)) ∧ (decode cX8_room 112 = .ok (.iload_n 3, 1)) ∧ (decode cX8_room 113 = .ok (.iastore, 1)) ∧ (decode cX8_room 114 = .ok (.iload 5, 2)) ∧ (decode cX8_room 116 = .ok (.ireturn, 1)) := by decide +kernel
theorem dX8_room_110 : decode cX8_room 110 = .ok (.iload 4, 2) := dX8_room_k25.1
theorem dX8_room_112 : decode cX8_room 112 = .ok (.iload_n 3, 1) := dX8_room_k25.2.1
theorem dX8_room_113 : decode cX8_room 113 = .ok (.iastore, 1) := dX8_room_k25.2.2.1
theorem dX8_room_114 : decode cX8_room 114 = .ok (.iload 5, 2) := dX8_room_k25.2.2.2.1
theorem dX8_room_116 : decode cX8_room 116 = .ok (.ireturn, 1) := dX8_room_k25.2.2.2.2
set_option maxRecDepth 100000 in
theorem dX8_door_k26 : (decode cX8_door 0 = .ok (.aload_n 0, 1)) ∧ (decode cX8_door 1 = .ok (.getfield 10, 3)) ∧ (decode cX8_door 4 = .ok (.iload_n 1, 1)) ∧ (decode cX8_door 5 = .ok (.invokevirtual 85, 3)) ∧ (decode cX8_door 8 = .ok (.ifCond .eq 19, 3)) ∧ (decode cX8_door 11 = .ok (.aload_n 0, 1)) := by decide +kernel
theorem dX8_door_0 : decode cX8_door 0 = .ok (.aload_n 0, 1) := dX8_door_k26.1
theorem dX8_door_1 : decode cX8_door 1 = .ok (.getfield 10, 3) := dX8_door_k26.2.1
theorem dX8_door_4 : decode cX8_door 4 = .ok (.iload_n 1, 1) := dX8_door_k26.2.2.1
theorem dX8_door_5 : decode cX8_door 5 = .ok (.invokevirtual 85, 3) := dX8_door_k26.2.2.2.1
theorem dX8_door_8 : decode cX8_door 8 = .ok (.ifCond .eq 19, 3) := dX8_door_k26.2.2.2.2.1
theorem dX8_door_11 : decode cX8_door 11 = .ok (.aload_n 0, 1) := dX8_door_k26.2.2.2.2.2
set_option maxRecDepth 100000 in
theorem dX8_door_k27 : (decode cX8_door 12 = .ok (.getfield 10, 3)) ∧ (decode cX8_door 15 = .ok (.iload_n 2, 1)) ∧ (decode cX8_door 16 = .ok (.invokevirtual 85, 3)) ∧ (decode cX8_door 19 = .ok (.ifCond .eq 8, 3)) ∧ (decode cX8_door 22 = .ok (.iload_n 1, 1)) ∧ (decode cX8_door 23 = .ok (.iload_n 2, 1)) := by decide +kernel
theorem dX8_door_12 : decode cX8_door 12 = .ok (.getfield 10, 3) := dX8_door_k27.1
theorem dX8_door_15 : decode cX8_door 15 = .ok (.iload_n 2, 1) := dX8_door_k27.2.1
theorem dX8_door_16 : decode cX8_door 16 = .ok (.invokevirtual 85, 3) := dX8_door_k27.2.2.1
theorem dX8_door_19 : decode cX8_door 19 = .ok (.ifCond .eq 8, 3) := dX8_door_k27.2.2.2.1
theorem dX8_door_22 : decode cX8_door 22 = .ok (.iload_n 1, 1) := dX8_door_k27.2.2.2.2.1
theorem dX8_door_23 : decode cX8_door 23 = .ok (.iload_n 2, 1) := dX8_door_k27.2.2.2.2.2
set_option maxRecDepth 100000 in
theorem dX8_door_k28 : (decode cX8_door 24 = .ok (.if_icmp .ne 5, 3)) ∧ (decode cX8_door 27 = .ok (.iconst (-1), 1)) ∧ (decode cX8_door 28 = .ok (.ireturn, 1)) ∧ (decode cX8_door 29 = .ok (.iload_n 3, 1)) ∧ (decode cX8_door 30 = .ok (.ifCond .lt 8, 3)) ∧ (decode cX8_door 33 = .ok (.iload_n 3, 1)) := by decide +kernel
theorem dX8_door_24 : decode cX8_door 24 = .ok (.if_icmp .ne 5, 3) := dX8_door_k28.1
theorem dX8_door_27 : decode cX8_door 27 = .ok (.iconst (-1), 1) := dX8_door_k28.2.1
theorem dX8_door_28 : decode cX8_door 28 = .ok (.ireturn, 1) := dX8_door_k28.2.2.1
theorem dX8_door_29 : decode cX8_door 29 = .ok (.iload_n 3, 1) := dX8_door_k28.2.2.2.1
theorem dX8_door_30 : decode cX8_door 30 = .ok (.ifCond .lt 8, 3) := dX8_door_k28.2.2.2.2.1
theorem dX8_door_33 : decode cX8_door 33 = .ok (.iload_n 3, 1) := dX8_door_k28.2.2.2.2.2
set_option maxRecDepth 100000 in
theorem dX8_door_k29 : (decode cX8_door 34 = .ok (.iconst 3, 1)) ∧ (decode cX8_door 35 = .ok (.if_icmp .le 6, 3)) ∧ (decode cX8_door 38 = .ok (.bipush (-2), 2)) ∧ (decode cX8_door 40 = .ok (.ireturn, 1)) ∧ (decode cX8_door 41 = .ok (.iload_n 3, 1)) ∧ (decode cX8_door 42 = .ok (.ifCond .ne 18, 3)) := by decide +kernel
theorem dX8_door_34 : decode cX8_door 34 = .ok (.iconst 3, 1) := dX8_door_k29.1
theorem dX8_door_35 : decode cX8_door 35 = .ok (.if_icmp .le 6, 3) := dX8_door_k29.2.1
theorem dX8_door_38 : decode cX8_door 38 = .ok (.bipush (-2), 2) := dX8_door_k29.2.2.1
theorem dX8_door_40 : decode cX8_door 40 = .ok (.ireturn, 1) := dX8_door_k29.2.2.2.1
theorem dX8_door_41 : decode cX8_door 41 = .ok (.iload_n 3, 1) := dX8_door_k29.2.2.2.2.1
theorem dX8_door_42 : decode cX8_door 42 = .ok (.ifCond .ne 18, 3) := dX8_door_k29.2.2.2.2.2
set_option maxRecDepth 100000 in
theorem dX8_door_k30 : (decode cX8_door 45 = .ok (.aload_n 0, 1)) ∧ (decode cX8_door 46 = .ok (.getfield 10, 3)) ∧ (decode cX8_door 49 = .ok (.iload_n 1, 1)) ∧ (decode cX8_door 50 = .ok (.iload_n 2, 1)) ∧ (decode cX8_door 51 = .ok (.invokevirtual 100, 3)) ∧ (decode cX8_door 54 = .ok (.ifCond .le 6, 3)) := by decide +kernel
theorem dX8_door_45 : decode cX8_door 45 = .ok (.aload_n 0, 1) := dX8_door_k30.1
theorem dX8_door_46 : decode cX8_door 46 = .ok (.getfield 10, 3) := dX8_door_k30.2.1
theorem dX8_door_49 : decode cX8_door 49 = .ok (.iload_n 1, 1) := dX8_door_k30.2.2.1
theorem dX8_door_50 : decode cX8_door 50 = .ok (.iload_n 2, 1) := dX8_door_k30.2.2.2.1
theorem dX8_door_51 : decode cX8_door 51 = .ok (.invokevirtual 100, 3) := dX8_door_k30.2.2.2.2.1
theorem dX8_door_54 : decode cX8_door 54 = .ok (.ifCond .le 6, 3) := dX8_door_k30.2.2.2.2.2
set_option maxRecDepth 100000 in
theorem dX8_door_k31 : (decode cX8_door 57 = .ok (.bipush (-3), 2)) ∧ (decode cX8_door 59 = .ok (.ireturn, 1)) ∧ (decode cX8_door 60 = .ok (.aload_n 0, 1)) ∧ (decode cX8_door 61 = .ok (.getfield 10, 3)) ∧ (decode cX8_door 64 = .ok (.iload_n 1, 1)) ∧ (decode cX8_door 65 = .ok (.iload_n 2, 1)) := by decide +kernel
theorem dX8_door_57 : decode cX8_door 57 = .ok (.bipush (-3), 2) := dX8_door_k31.1
theorem dX8_door_59 : decode cX8_door 59 = .ok (.ireturn, 1) := dX8_door_k31.2.1
theorem dX8_door_60 : decode cX8_door 60 = .ok (.aload_n 0, 1) := dX8_door_k31.2.2.1
theorem dX8_door_61 : decode cX8_door 61 = .ok (.getfield 10, 3) := dX8_door_k31.2.2.2.1
theorem dX8_door_64 : decode cX8_door 64 = .ok (.iload_n 1, 1) := dX8_door_k31.2.2.2.2.1
theorem dX8_door_65 : decode cX8_door 65 = .ok (.iload_n 2, 1) := dX8_door_k31.2.2.2.2.2
set_option maxRecDepth 100000 in
theorem dX8_door_k32 : (decode cX8_door 66 = .ok (.invokevirtual 104, 3)) ∧ (decode cX8_door 69 = .ok (.istore 4, 2)) ∧ (decode cX8_door 71 = .ok (.aload_n 0, 1)) ∧ (decode cX8_door 72 = .ok (.getfield 10, 3)) ∧ (decode cX8_door 75 = .ok (.getfield 107, 3)) ∧ (decode cX8_door 78 = .ok (.iload_n 1, 1)) := by decide +kernel
theorem dX8_door_66 : decode cX8_door 66 = .ok (.invokevirtual 104, 3) := dX8_door_k32.1
theorem dX8_door_69 : decode cX8_door 69 = .ok (.istore 4, 2) := dX8_door_k32.2.1
theorem dX8_door_71 : decode cX8_door 71 = .ok (.aload_n 0, 1) := dX8_door_k32.2.2.1
theorem dX8_door_72 : decode cX8_door 72 = .ok (.getfield 10, 3) := dX8_door_k32.2.2.2.1
theorem dX8_door_75 : decode cX8_door 75 = .ok (.getfield 107, 3) := dX8_door_k32.2.2.2.2.1
theorem dX8_door_78 : decode cX8_door 78 = .ok (.iload_n 1, 1) := dX8_door_k32.2.2.2.2.2
set_option maxRecDepth 100000 in
theorem dX8_door_k33 : (decode cX8_door 79 = .ok (.bipush 6, 2)) ∧ (decode cX8_door 81 = .ok (.imul, 1)) ∧ (decode cX8_door 82 = .ok (.iload_n 2, 1)) ∧ (decode cX8_door 83 = .ok (.iadd, 1)) ∧ (decode cX8_door 84 = .ok (.iload_n 3, 1)) ∧ (decode cX8_door 85 = .ok (.iastore, 1)) := by decide +kernel
theorem dX8_door_79 : decode cX8_door 79 = .ok (.bipush 6, 2) := dX8_door_k33.1
theorem dX8_door_81 : decode cX8_door 81 = .ok (.imul, 1) := dX8_door_k33.2.1
theorem dX8_door_82 : decode cX8_door 82 = .ok (.iload_n 2, 1) := dX8_door_k33.2.2.1
theorem dX8_door_83 : decode cX8_door 83 = .ok (.iadd, 1) := dX8_door_k33.2.2.2.1
theorem dX8_door_84 : decode cX8_door 84 = .ok (.iload_n 3, 1) := dX8_door_k33.2.2.2.2.1
theorem dX8_door_85 : decode cX8_door 85 = .ok (.iastore, 1) := dX8_door_k33.2.2.2.2.2
set_option maxRecDepth 100000 in
theorem dX8_door_k34 : (decode cX8_door 86 = .ok (.aload_n 0, 1)) ∧ (decode cX8_door 87 = .ok (.getfield 10, 3)) ∧ (decode cX8_door 90 = .ok (.getfield 107, 3)) ∧ (decode cX8_door 93 = .ok (.iload_n 2, 1)) ∧ (decode cX8_door 94 = .ok (.bipush 6, 2)) ∧ (decode cX8_door 96 = .ok (.imul, 1)) := by decide +kernel
theorem dX8_door_86 : decode cX8_door 86 = .ok (.aload_n 0, 1) := dX8_door_k34.1
theorem dX8_door_87 : decode cX8_door 87 = .ok (.getfield 10, 3) := dX8_door_k34.2.1
theorem dX8_door_90 : decode cX8_door 90 = .ok (.getfield 107, 3) := dX8_door_k34.2.2.1
theorem dX8_door_93 : decode cX8_door 93 = .ok (.iload_n 2, 1) := dX8_door_k34.2.2.2.1
theorem dX8_door_94 : decode cX8_door 94 = .ok (.bipush 6, 2) := dX8_door_k34.2.2.2.2.1
theorem dX8_door_96 : decode cX8_door 96 = .ok (.imul, 1) := dX8_door_k34.2.2.2.2.2
set_option maxRecDepth 100000 in
theorem dX8_door_k35 : (decode cX8_door 97 = .ok (.iload_n 1, 1)) ∧ (decode cX8_door 98 = .ok (.iadd, 1)) ∧ (decode cX8_door 99 = .ok (.iload_n 3, 1)) ∧ (decode cX8_door 100 = .ok (.iastore, 1)) ∧ (decode cX8_door 101 = .ok (.iload 4, 2)) ∧ (decode cX8_door 103 = .ok (.ireturn, 1)) := by decide +kernel
theorem dX8_door_97 : decode cX8_door 97 = .ok (.iload_n 1, 1) := dX8_door_k35.1
theorem dX8_door_98 : decode cX8_door 98 = .ok (.iadd, 1) := dX8_door_k35.2.1
theorem dX8_door_99 : decode cX8_door 99 = .ok (.iload_n 3, 1) := dX8_door_k35.2.2.1
theorem dX8_door_100 : decode cX8_door 100 = .ok (.iastore, 1) := dX8_door_k35.2.2.2.1
theorem dX8_door_101 : decode cX8_door 101 = .ok (.iload 4, 2) := dX8_door_k35.2.2.2.2.1
theorem dX8_door_103 : decode cX8_door 103 = .ok (.ireturn, 1) := dX8_door_k35.2.2.2.2.2
set_option maxRecDepth 100000 in
theorem dX8_guest_k36 : (decode cX8_guest 0 = .ok (.iload_n 1, 1)) ∧ (decode cX8_guest 1 = .ok (.ifCond .lt 20, 3)) ∧ (decode cX8_guest 4 = .ok (.iload_n 1, 1)) ∧ (decode cX8_guest 5 = .ok (.bipush 8, 2)) ∧ (decode cX8_guest 7 = .ok (.if_icmp .ge 14, 3)) ∧ (decode cX8_guest 10 = .ok (.aload_n 0, 1)) := by decide +kernel
theorem dX8_guest_0 : decode cX8_guest 0 = .ok (.iload_n 1, 1) := dX8_guest_k36.1
theorem dX8_guest_1 : decode cX8_guest 1 = .ok (.ifCond .lt 20, 3) := dX8_guest_k36.2.1
theorem dX8_guest_4 : decode cX8_guest 4 = .ok (.iload_n 1, 1) := dX8_guest_k36.2.2.1
theorem dX8_guest_5 : decode cX8_guest 5 = .ok (.bipush 8, 2) := dX8_guest_k36.2.2.2.1
theorem dX8_guest_7 : decode cX8_guest 7 = .ok (.if_icmp .ge 14, 3) := dX8_guest_k36.2.2.2.2.1
theorem dX8_guest_10 : decode cX8_guest 10 = .ok (.aload_n 0, 1) := dX8_guest_k36.2.2.2.2.2
set_option maxRecDepth 100000 in
theorem dX8_guest_k37 : (decode cX8_guest 11 = .ok (.getfield 10, 3)) ∧ (decode cX8_guest 14 = .ok (.iload_n 2, 1)) ∧ (decode cX8_guest 15 = .ok (.invokevirtual 85, 3)) ∧ (decode cX8_guest 18 = .ok (.ifCond .ne 5, 3)) ∧ (decode cX8_guest 21 = .ok (.iconst (-1), 1)) ∧ (decode cX8_guest 22 = .ok (.ireturn, 1)) := by decide +kernel
theorem dX8_guest_11 : decode cX8_guest 11 = .ok (.getfield 10, 3) := dX8_guest_k37.1
theorem dX8_guest_14 : decode cX8_guest 14 = .ok (.iload_n 2, 1) := dX8_guest_k37.2.1
theorem dX8_guest_15 : decode cX8_guest 15 = .ok (.invokevirtual 85, 3) := dX8_guest_k37.2.2.1
theorem dX8_guest_18 : decode cX8_guest 18 = .ok (.ifCond .ne 5, 3) := dX8_guest_k37.2.2.2.1
theorem dX8_guest_21 : decode cX8_guest 21 = .ok (.iconst (-1), 1) := dX8_guest_k37.2.2.2.2.1
theorem dX8_guest_22 : decode cX8_guest 22 = .ok (.ireturn, 1) := dX8_guest_k37.2.2.2.2.2
set_option maxRecDepth 100000 in
theorem dX8_guest_k38 : (decode cX8_guest 23 = .ok (.aload_n 0, 1)) ∧ (decode cX8_guest 24 = .ok (.getfield 10, 3)) ∧ (decode cX8_guest 27 = .ok (.iload_n 1, 1)) ∧ (decode cX8_guest 28 = .ok (.iload_n 2, 1)) ∧ (decode cX8_guest 29 = .ok (.invokevirtual 110, 3)) ∧ (decode cX8_guest 32 = .ok (.aload_n 0, 1)) := by decide +kernel
theorem dX8_guest_23 : decode cX8_guest 23 = .ok (.aload_n 0, 1) := dX8_guest_k38.1
theorem dX8_guest_24 : decode cX8_guest 24 = .ok (.getfield 10, 3) := dX8_guest_k38.2.1
theorem dX8_guest_27 : decode cX8_guest 27 = .ok (.iload_n 1, 1) := dX8_guest_k38.2.2.1
theorem dX8_guest_28 : decode cX8_guest 28 = .ok (.iload_n 2, 1) := dX8_guest_k38.2.2.2.1
theorem dX8_guest_29 : decode cX8_guest 29 = .ok (.invokevirtual 110, 3) := dX8_guest_k38.2.2.2.2.1
theorem dX8_guest_32 : decode cX8_guest 32 = .ok (.aload_n 0, 1) := dX8_guest_k38.2.2.2.2.2
set_option maxRecDepth 100000 in
theorem dX8_guest_k39 : (decode cX8_guest 33 = .ok (.getfield 10, 3)) ∧ (decode cX8_guest 36 = .ok (.iload_n 2, 1)) ∧ (decode cX8_guest 37 = .ok (.invokevirtual 113, 3)) ∧ (decode cX8_guest 40 = .ok (.if_icmp .lt 6, 3)) ∧ (decode cX8_guest 43 = .ok (.bipush (-4), 2)) ∧ (decode cX8_guest 45 = .ok (.ireturn, 1)) := by decide +kernel
theorem dX8_guest_33 : decode cX8_guest 33 = .ok (.getfield 10, 3) := dX8_guest_k39.1
theorem dX8_guest_36 : decode cX8_guest 36 = .ok (.iload_n 2, 1) := dX8_guest_k39.2.1
theorem dX8_guest_37 : decode cX8_guest 37 = .ok (.invokevirtual 113, 3) := dX8_guest_k39.2.2.1
theorem dX8_guest_40 : decode cX8_guest 40 = .ok (.if_icmp .lt 6, 3) := dX8_guest_k39.2.2.2.1
theorem dX8_guest_43 : decode cX8_guest 43 = .ok (.bipush (-4), 2) := dX8_guest_k39.2.2.2.2.1
theorem dX8_guest_45 : decode cX8_guest 45 = .ok (.ireturn, 1) := dX8_guest_k39.2.2.2.2.2
set_option maxRecDepth 100000 in
theorem dX8_guest_k40 : (decode cX8_guest 46 = .ok (.aload_n 0, 1)) ∧ (decode cX8_guest 47 = .ok (.getfield 10, 3)) ∧ (decode cX8_guest 50 = .ok (.iload_n 1, 1)) ∧ (decode cX8_guest 51 = .ok (.invokevirtual 116, 3)) ∧ (decode cX8_guest 54 = .ok (.aload_n 0, 1)) ∧ (decode cX8_guest 55 = .ok (.getfield 10, 3)) := by decide +kernel
theorem dX8_guest_46 : decode cX8_guest 46 = .ok (.aload_n 0, 1) := dX8_guest_k40.1
theorem dX8_guest_47 : decode cX8_guest 47 = .ok (.getfield 10, 3) := dX8_guest_k40.2.1
theorem dX8_guest_50 : decode cX8_guest 50 = .ok (.iload_n 1, 1) := dX8_guest_k40.2.2.1
theorem dX8_guest_51 : decode cX8_guest 51 = .ok (.invokevirtual 116, 3) := dX8_guest_k40.2.2.2.1
theorem dX8_guest_54 : decode cX8_guest 54 = .ok (.aload_n 0, 1) := dX8_guest_k40.2.2.2.2.1
theorem dX8_guest_55 : decode cX8_guest 55 = .ok (.getfield 10, 3) := dX8_guest_k40.2.2.2.2.2
set_option maxRecDepth 100000 in
theorem dX8_guest_k41 : (decode cX8_guest 58 = .ok (.dup, 1)) ∧ (decode cX8_guest 59 = .ok (.getfield 119, 3)) ∧ (decode cX8_guest 62 = .ok (.iconst 1, 1)) ∧ (decode cX8_guest 63 = .ok (.iload_n 1, 1)) ∧ (decode cX8_guest 64 = .ok (.ishl, 1)) ∧ (decode cX8_guest 65 = .ok (.ior, 1)) := by decide +kernel
theorem dX8_guest_58 : decode cX8_guest 58 = .ok (.dup, 1) := dX8_guest_k41.1
theorem dX8_guest_59 : decode cX8_guest 59 = .ok (.getfield 119, 3) := dX8_guest_k41.2.1
theorem dX8_guest_62 : decode cX8_guest 62 = .ok (.iconst 1, 1) := dX8_guest_k41.2.2.1
theorem dX8_guest_63 : decode cX8_guest 63 = .ok (.iload_n 1, 1) := dX8_guest_k41.2.2.2.1
theorem dX8_guest_64 : decode cX8_guest 64 = .ok (.ishl, 1) := dX8_guest_k41.2.2.2.2.1
theorem dX8_guest_65 : decode cX8_guest 65 = .ok (.ior, 1) := dX8_guest_k41.2.2.2.2.2
set_option maxRecDepth 100000 in
theorem dX8_guest_k42 : (decode cX8_guest 66 = .ok (.putfield 119, 3)) ∧ (decode cX8_guest 69 = .ok (.aload_n 0, 1)) ∧ (decode cX8_guest 70 = .ok (.getfield 10, 3)) ∧ (decode cX8_guest 73 = .ok (.getfield 122, 3)) ∧ (decode cX8_guest 76 = .ok (.iload_n 1, 1)) ∧ (decode cX8_guest 77 = .ok (.iload_n 2, 1)) := by decide +kernel
theorem dX8_guest_66 : decode cX8_guest 66 = .ok (.putfield 119, 3) := dX8_guest_k42.1
theorem dX8_guest_69 : decode cX8_guest 69 = .ok (.aload_n 0, 1) := dX8_guest_k42.2.1
theorem dX8_guest_70 : decode cX8_guest 70 = .ok (.getfield 10, 3) := dX8_guest_k42.2.2.1
theorem dX8_guest_73 : decode cX8_guest 73 = .ok (.getfield 122, 3) := dX8_guest_k42.2.2.2.1
theorem dX8_guest_76 : decode cX8_guest 76 = .ok (.iload_n 1, 1) := dX8_guest_k42.2.2.2.2.1
theorem dX8_guest_77 : decode cX8_guest 77 = .ok (.iload_n 2, 1) := dX8_guest_k42.2.2.2.2.2
set_option maxRecDepth 100000 in
theorem dX8_guest_k43 : (decode cX8_guest 78 = .ok (.iastore, 1)) ∧ (decode cX8_guest 79 = .ok (.aload_n 0, 1)) ∧ (decode cX8_guest 80 = .ok (.getfield 10, 3)) ∧ (decode cX8_guest 83 = .ok (.getfield 119, 3)) ∧ (decode cX8_guest 86 = .ok (.invokestatic 125, 3)) ∧ (decode cX8_guest 89 = .ok (.ireturn, 1)) := by decide +kernel
theorem dX8_guest_78 : decode cX8_guest 78 = .ok (.iastore, 1) := dX8_guest_k43.1
theorem dX8_guest_79 : decode cX8_guest 79 = .ok (.aload_n 0, 1) := dX8_guest_k43.2.1
theorem dX8_guest_80 : decode cX8_guest 80 = .ok (.getfield 10, 3) := dX8_guest_k43.2.2.1
theorem dX8_guest_83 : decode cX8_guest 83 = .ok (.getfield 119, 3) := dX8_guest_k43.2.2.2.1
theorem dX8_guest_86 : decode cX8_guest 86 = .ok (.invokestatic 125, 3) := dX8_guest_k43.2.2.2.2.1
theorem dX8_guest_89 : decode cX8_guest 89 = .ok (.ireturn, 1) := dX8_guest_k43.2.2.2.2.2
set_option maxRecDepth 100000 in
theorem dX8_likes_k44 : (decode cX8_likes 0 = .ok (.aload_n 0, 1)) ∧ (decode cX8_likes 1 = .ok (.getfield 10, 3)) ∧ (decode cX8_likes 4 = .ok (.iload_n 1, 1)) ∧ (decode cX8_likes 5 = .ok (.invokevirtual 130, 3)) ∧ (decode cX8_likes 8 = .ok (.ifCond .ne 5, 3)) ∧ (decode cX8_likes 11 = .ok (.iconst (-1), 1)) := by decide +kernel
theorem dX8_likes_0 : decode cX8_likes 0 = .ok (.aload_n 0, 1) := dX8_likes_k44.1
theorem dX8_likes_1 : decode cX8_likes 1 = .ok (.getfield 10, 3) := dX8_likes_k44.2.1
theorem dX8_likes_4 : decode cX8_likes 4 = .ok (.iload_n 1, 1) := dX8_likes_k44.2.2.1
theorem dX8_likes_5 : decode cX8_likes 5 = .ok (.invokevirtual 130, 3) := dX8_likes_k44.2.2.2.1
theorem dX8_likes_8 : decode cX8_likes 8 = .ok (.ifCond .ne 5, 3) := dX8_likes_k44.2.2.2.2.1
theorem dX8_likes_11 : decode cX8_likes 11 = .ok (.iconst (-1), 1) := dX8_likes_k44.2.2.2.2.2
set_option maxRecDepth 100000 in
theorem dX8_likes_k45 : (decode cX8_likes 12 = .ok (.ireturn, 1)) ∧ (decode cX8_likes 13 = .ok (.iload_n 2, 1)) ∧ (decode cX8_likes 14 = .ok (.ifCond .lt 19, 3)) ∧ (decode cX8_likes 17 = .ok (.iload_n 2, 1)) ∧ (decode cX8_likes 18 = .ok (.iconst 5, 1)) ∧ (decode cX8_likes 19 = .ok (.if_icmp .ge 14, 3)) := by decide +kernel
theorem dX8_likes_12 : decode cX8_likes 12 = .ok (.ireturn, 1) := dX8_likes_k45.1
theorem dX8_likes_13 : decode cX8_likes 13 = .ok (.iload_n 2, 1) := dX8_likes_k45.2.1
theorem dX8_likes_14 : decode cX8_likes 14 = .ok (.ifCond .lt 19, 3) := dX8_likes_k45.2.2.1
theorem dX8_likes_17 : decode cX8_likes 17 = .ok (.iload_n 2, 1) := dX8_likes_k45.2.2.2.1
theorem dX8_likes_18 : decode cX8_likes 18 = .ok (.iconst 5, 1) := dX8_likes_k45.2.2.2.2.1
theorem dX8_likes_19 : decode cX8_likes 19 = .ok (.if_icmp .ge 14, 3) := dX8_likes_k45.2.2.2.2.2
set_option maxRecDepth 100000 in
theorem dX8_likes_k46 : (decode cX8_likes 22 = .ok (.iload_n 3, 1)) ∧ (decode cX8_likes 23 = .ok (.bipush (-3), 2)) ∧ (decode cX8_likes 25 = .ok (.if_icmp .lt 8, 3)) ∧ (decode cX8_likes 28 = .ok (.iload_n 3, 1)) ∧ (decode cX8_likes 29 = .ok (.iconst 3, 1)) ∧ (decode cX8_likes 30 = .ok (.if_icmp .le 6, 3)) := by decide +kernel
theorem dX8_likes_22 : decode cX8_likes 22 = .ok (.iload_n 3, 1) := dX8_likes_k46.1
theorem dX8_likes_23 : decode cX8_likes 23 = .ok (.bipush (-3), 2) := dX8_likes_k46.2.1
theorem dX8_likes_25 : decode cX8_likes 25 = .ok (.if_icmp .lt 8, 3) := dX8_likes_k46.2.2.1
theorem dX8_likes_28 : decode cX8_likes 28 = .ok (.iload_n 3, 1) := dX8_likes_k46.2.2.2.1
theorem dX8_likes_29 : decode cX8_likes 29 = .ok (.iconst 3, 1) := dX8_likes_k46.2.2.2.2.1
theorem dX8_likes_30 : decode cX8_likes 30 = .ok (.if_icmp .le 6, 3) := dX8_likes_k46.2.2.2.2.2
set_option maxRecDepth 100000 in
theorem dX8_likes_k47 : (decode cX8_likes 33 = .ok (.bipush (-2), 2)) ∧ (decode cX8_likes 35 = .ok (.ireturn, 1)) ∧ (decode cX8_likes 36 = .ok (.iload_n 1, 1)) ∧ (decode cX8_likes 37 = .ok (.iconst 5, 1)) ∧ (decode cX8_likes 38 = .ok (.imul, 1)) ∧ (decode cX8_likes 39 = .ok (.iload_n 2, 1)) := by decide +kernel
theorem dX8_likes_33 : decode cX8_likes 33 = .ok (.bipush (-2), 2) := dX8_likes_k47.1
theorem dX8_likes_35 : decode cX8_likes 35 = .ok (.ireturn, 1) := dX8_likes_k47.2.1
theorem dX8_likes_36 : decode cX8_likes 36 = .ok (.iload_n 1, 1) := dX8_likes_k47.2.2.1
theorem dX8_likes_37 : decode cX8_likes 37 = .ok (.iconst 5, 1) := dX8_likes_k47.2.2.2.1
theorem dX8_likes_38 : decode cX8_likes 38 = .ok (.imul, 1) := dX8_likes_k47.2.2.2.2.1
theorem dX8_likes_39 : decode cX8_likes 39 = .ok (.iload_n 2, 1) := dX8_likes_k47.2.2.2.2.2
set_option maxRecDepth 100000 in
theorem dX8_likes_k48 : (decode cX8_likes 40 = .ok (.iadd, 1)) ∧ (decode cX8_likes 41 = .ok (.istore 4, 2)) ∧ (decode cX8_likes 43 = .ok (.aload_n 0, 1)) ∧ (decode cX8_likes 44 = .ok (.getfield 10, 3)) ∧ (decode cX8_likes 47 = .ok (.getfield 133, 3)) ∧ (decode cX8_likes 50 = .ok (.iload 4, 2)) := by decide +kernel
theorem dX8_likes_40 : decode cX8_likes 40 = .ok (.iadd, 1) := dX8_likes_k48.1
theorem dX8_likes_41 : decode cX8_likes 41 = .ok (.istore 4, 2) := dX8_likes_k48.2.1
theorem dX8_likes_43 : decode cX8_likes 43 = .ok (.aload_n 0, 1) := dX8_likes_k48.2.2.1
theorem dX8_likes_44 : decode cX8_likes 44 = .ok (.getfield 10, 3) := dX8_likes_k48.2.2.2.1
theorem dX8_likes_47 : decode cX8_likes 47 = .ok (.getfield 133, 3) := dX8_likes_k48.2.2.2.2.1
theorem dX8_likes_50 : decode cX8_likes 50 = .ok (.iload 4, 2) := dX8_likes_k48.2.2.2.2.2
set_option maxRecDepth 100000 in
theorem dX8_likes_k49 : (decode cX8_likes 52 = .ok (.iaload, 1)) ∧ (decode cX8_likes 53 = .ok (.istore 5, 2)) ∧ (decode cX8_likes 55 = .ok (.aload_n 0, 1)) ∧ (decode cX8_likes 56 = .ok (.getfield 10, 3)) ∧ (decode cX8_likes 59 = .ok (.getfield 133, 3)) ∧ (decode cX8_likes 62 = .ok (.iload 4, 2)) := by decide +kernel
theorem dX8_likes_52 : decode cX8_likes 52 = .ok (.iaload, 1) := dX8_likes_k49.1
theorem dX8_likes_53 : decode cX8_likes 53 = .ok (.istore 5, 2) := dX8_likes_k49.2.1
theorem dX8_likes_55 : decode cX8_likes 55 = .ok (.aload_n 0, 1) := dX8_likes_k49.2.2.1
theorem dX8_likes_56 : decode cX8_likes 56 = .ok (.getfield 10, 3) := dX8_likes_k49.2.2.2.1
theorem dX8_likes_59 : decode cX8_likes 59 = .ok (.getfield 133, 3) := dX8_likes_k49.2.2.2.2.1
theorem dX8_likes_62 : decode cX8_likes 62 = .ok (.iload 4, 2) := dX8_likes_k49.2.2.2.2.2
set_option maxRecDepth 100000 in
theorem dX8_likes_k50 : (decode cX8_likes 64 = .ok (.iload_n 3, 1)) ∧ (decode cX8_likes 65 = .ok (.iastore, 1)) ∧ (decode cX8_likes 66 = .ok (.iload 5, 2)) ∧ (decode cX8_likes 68 = .ok (.bipush 10, 2)) ∧ (decode cX8_likes 70 = .ok (.iadd, 1)) ∧ (decode cX8_likes 71 = .ok (.ireturn, 1)) := by decide +kernel
theorem dX8_likes_64 : decode cX8_likes 64 = .ok (.iload_n 3, 1) := dX8_likes_k50.1
theorem dX8_likes_65 : decode cX8_likes 65 = .ok (.iastore, 1) := dX8_likes_k50.2.1
theorem dX8_likes_66 : decode cX8_likes 66 = .ok (.iload 5, 2) := dX8_likes_k50.2.2.1
theorem dX8_likes_68 : decode cX8_likes 68 = .ok (.bipush 10, 2) := dX8_likes_k50.2.2.2.1
theorem dX8_likes_70 : decode cX8_likes 70 = .ok (.iadd, 1) := dX8_likes_k50.2.2.2.2.1
theorem dX8_likes_71 : decode cX8_likes 71 = .ok (.ireturn, 1) := dX8_likes_k50.2.2.2.2.2
set_option maxRecDepth 100000 in
theorem dX8_leave_k51 : (decode cX8_leave 0 = .ok (.aload_n 0, 1)) ∧ (decode cX8_leave 1 = .ok (.getfield 10, 3)) ∧ (decode cX8_leave 4 = .ok (.iload_n 1, 1)) ∧ (decode cX8_leave 5 = .ok (.invokevirtual 130, 3)) ∧ (decode cX8_leave 8 = .ok (.ifCond .ne 5, 3)) ∧ (decode cX8_leave 11 = .ok (.iconst (-1), 1)) := by decide +kernel
theorem dX8_leave_0 : decode cX8_leave 0 = .ok (.aload_n 0, 1) := dX8_leave_k51.1
theorem dX8_leave_1 : decode cX8_leave 1 = .ok (.getfield 10, 3) := dX8_leave_k51.2.1
theorem dX8_leave_4 : decode cX8_leave 4 = .ok (.iload_n 1, 1) := dX8_leave_k51.2.2.1
theorem dX8_leave_5 : decode cX8_leave 5 = .ok (.invokevirtual 130, 3) := dX8_leave_k51.2.2.2.1
theorem dX8_leave_8 : decode cX8_leave 8 = .ok (.ifCond .ne 5, 3) := dX8_leave_k51.2.2.2.2.1
theorem dX8_leave_11 : decode cX8_leave 11 = .ok (.iconst (-1), 1) := dX8_leave_k51.2.2.2.2.2
set_option maxRecDepth 100000 in
theorem dX8_leave_k52 : (decode cX8_leave 12 = .ok (.ireturn, 1)) ∧ (decode cX8_leave 13 = .ok (.aload_n 0, 1)) ∧ (decode cX8_leave 14 = .ok (.getfield 10, 3)) ∧ (decode cX8_leave 17 = .ok (.iload_n 1, 1)) ∧ (decode cX8_leave 18 = .ok (.invokevirtual 116, 3)) ∧ (decode cX8_leave 21 = .ok (.aload_n 0, 1)) := by decide +kernel
theorem dX8_leave_12 : decode cX8_leave 12 = .ok (.ireturn, 1) := dX8_leave_k52.1
theorem dX8_leave_13 : decode cX8_leave 13 = .ok (.aload_n 0, 1) := dX8_leave_k52.2.1
theorem dX8_leave_14 : decode cX8_leave 14 = .ok (.getfield 10, 3) := dX8_leave_k52.2.2.1
theorem dX8_leave_17 : decode cX8_leave 17 = .ok (.iload_n 1, 1) := dX8_leave_k52.2.2.2.1
theorem dX8_leave_18 : decode cX8_leave 18 = .ok (.invokevirtual 116, 3) := dX8_leave_k52.2.2.2.2.1
theorem dX8_leave_21 : decode cX8_leave 21 = .ok (.aload_n 0, 1) := dX8_leave_k52.2.2.2.2.2
set_option maxRecDepth 100000 in
theorem dX8_leave_k53 : (decode cX8_leave 22 = .ok (.getfield 10, 3)) ∧ (decode cX8_leave 25 = .ok (.getfield 119, 3)) ∧ (decode cX8_leave 28 = .ok (.invokestatic 125, 3)) ∧ (decode cX8_leave 31 = .ok (.ireturn, 1)) := by decide +kernel
theorem dX8_leave_22 : decode cX8_leave 22 = .ok (.getfield 10, 3) := dX8_leave_k53.1
theorem dX8_leave_25 : decode cX8_leave 25 = .ok (.getfield 119, 3) := dX8_leave_k53.2.1
theorem dX8_leave_28 : decode cX8_leave 28 = .ok (.invokestatic 125, 3) := dX8_leave_k53.2.2.1
theorem dX8_leave_31 : decode cX8_leave 31 = .ok (.ireturn, 1) := dX8_leave_k53.2.2.2
set_option maxRecDepth 100000 in
theorem dX8_say_k54 : (decode cX8_say 0 = .ok (.iload_n 1, 1)) ∧ (decode cX8_say 1 = .ok (.bipush 33, 2)) ∧ (decode cX8_say 3 = .ok (.if_icmp .lt 9, 3)) ∧ (decode cX8_say 6 = .ok (.iload_n 1, 1)) ∧ (decode cX8_say 7 = .ok (.bipush 126, 2)) ∧ (decode cX8_say 9 = .ok (.if_icmp .le 6, 3)) := by decide +kernel
theorem dX8_say_0 : decode cX8_say 0 = .ok (.iload_n 1, 1) := dX8_say_k54.1
theorem dX8_say_1 : decode cX8_say 1 = .ok (.bipush 33, 2) := dX8_say_k54.2.1
theorem dX8_say_3 : decode cX8_say 3 = .ok (.if_icmp .lt 9, 3) := dX8_say_k54.2.2.1
theorem dX8_say_6 : decode cX8_say 6 = .ok (.iload_n 1, 1) := dX8_say_k54.2.2.2.1
theorem dX8_say_7 : decode cX8_say 7 = .ok (.bipush 126, 2) := dX8_say_k54.2.2.2.2.1
theorem dX8_say_9 : decode cX8_say 9 = .ok (.if_icmp .le 6, 3) := dX8_say_k54.2.2.2.2.2
set_option maxRecDepth 100000 in
theorem dX8_say_k55 : (decode cX8_say 12 = .ok (.bipush (-2), 2)) ∧ (decode cX8_say 14 = .ok (.ireturn, 1)) ∧ (decode cX8_say 15 = .ok (.aload_n 0, 1)) ∧ (decode cX8_say 16 = .ok (.getfield 27, 3)) ∧ (decode cX8_say 19 = .ok (.iload_n 1, 1)) ∧ (decode cX8_say 20 = .ok (.invokevirtual 136, 3)) := by decide +kernel
theorem dX8_say_12 : decode cX8_say 12 = .ok (.bipush (-2), 2) := dX8_say_k55.1
theorem dX8_say_14 : decode cX8_say 14 = .ok (.ireturn, 1) := dX8_say_k55.2.1
theorem dX8_say_15 : decode cX8_say 15 = .ok (.aload_n 0, 1) := dX8_say_k55.2.2.1
theorem dX8_say_16 : decode cX8_say 16 = .ok (.getfield 27, 3) := dX8_say_k55.2.2.2.1
theorem dX8_say_19 : decode cX8_say 19 = .ok (.iload_n 1, 1) := dX8_say_k55.2.2.2.2.1
theorem dX8_say_20 : decode cX8_say 20 = .ok (.invokevirtual 136, 3) := dX8_say_k55.2.2.2.2.2
set_option maxRecDepth 100000 in
theorem dX8_say_k56 : (decode cX8_say 23 = .ok (.ifCond .eq 13, 3)) ∧ (decode cX8_say 26 = .ok (.aload_n 0, 1)) ∧ (decode cX8_say 27 = .ok (.getfield 27, 3)) ∧ (decode cX8_say 30 = .ok (.getfield 139, 3)) ∧ (decode cX8_say 33 = .ok (.goto 5, 3)) ∧ (decode cX8_say 36 = .ok (.bipush (-4), 2)) := by decide +kernel
theorem dX8_say_23 : decode cX8_say 23 = .ok (.ifCond .eq 13, 3) := dX8_say_k56.1
theorem dX8_say_26 : decode cX8_say 26 = .ok (.aload_n 0, 1) := dX8_say_k56.2.1
theorem dX8_say_27 : decode cX8_say 27 = .ok (.getfield 27, 3) := dX8_say_k56.2.2.1
theorem dX8_say_30 : decode cX8_say 30 = .ok (.getfield 139, 3) := dX8_say_k56.2.2.2.1
theorem dX8_say_33 : decode cX8_say 33 = .ok (.goto 5, 3) := dX8_say_k56.2.2.2.2.1
theorem dX8_say_36 : decode cX8_say 36 = .ok (.bipush (-4), 2) := dX8_say_k56.2.2.2.2.2
theorem dX8_say_38 : decode cX8_say 38 = .ok (.ireturn, 1) := by decide +kernel
set_option maxRecDepth 100000 in
theorem dX8_wipe_k57 : (decode cX8_wipe 0 = .ok (.aload_n 0, 1)) ∧ (decode cX8_wipe 1 = .ok (.getfield 27, 3)) ∧ (decode cX8_wipe 4 = .ok (.getfield 139, 3)) ∧ (decode cX8_wipe 7 = .ok (.istore_n 1, 1)) ∧ (decode cX8_wipe 8 = .ok (.aload_n 0, 1)) ∧ (decode cX8_wipe 9 = .ok (.getfield 27, 3)) := by decide +kernel
theorem dX8_wipe_0 : decode cX8_wipe 0 = .ok (.aload_n 0, 1) := dX8_wipe_k57.1
theorem dX8_wipe_1 : decode cX8_wipe 1 = .ok (.getfield 27, 3) := dX8_wipe_k57.2.1
theorem dX8_wipe_4 : decode cX8_wipe 4 = .ok (.getfield 139, 3) := dX8_wipe_k57.2.2.1
theorem dX8_wipe_7 : decode cX8_wipe 7 = .ok (.istore_n 1, 1) := dX8_wipe_k57.2.2.2.1
theorem dX8_wipe_8 : decode cX8_wipe 8 = .ok (.aload_n 0, 1) := dX8_wipe_k57.2.2.2.2.1
theorem dX8_wipe_9 : decode cX8_wipe 9 = .ok (.getfield 27, 3) := dX8_wipe_k57.2.2.2.2.2
set_option maxRecDepth 100000 in
theorem dX8_wipe_k58 : (decode cX8_wipe 12 = .ok (.iconst 0, 1)) ∧ (decode cX8_wipe 13 = .ok (.putfield 139, 3)) ∧ (decode cX8_wipe 16 = .ok (.iload_n 1, 1)) ∧ (decode cX8_wipe 17 = .ok (.ireturn, 1)) := by decide +kernel
theorem dX8_wipe_12 : decode cX8_wipe 12 = .ok (.iconst 0, 1) := dX8_wipe_k58.1
theorem dX8_wipe_13 : decode cX8_wipe 13 = .ok (.putfield 139, 3) := dX8_wipe_k58.2.1
theorem dX8_wipe_16 : decode cX8_wipe 16 = .ok (.iload_n 1, 1) := dX8_wipe_k58.2.2.1
theorem dX8_wipe_17 : decode cX8_wipe 17 = .ok (.ireturn, 1) := dX8_wipe_k58.2.2.2
set_option maxRecDepth 100000 in
theorem dX8_fault_k59 : (decode cX8_fault 0 = .ok (.aload_n 0, 1)) ∧ (decode cX8_fault 1 = .ok (.getfield 27, 3)) ∧ (decode cX8_fault 4 = .ok (.aload_n 0, 1)) ∧ (decode cX8_fault 5 = .ok (.getfield 10, 3)) ∧ (decode cX8_fault 8 = .ok (.getfield 81, 3)) ∧ (decode cX8_fault 11 = .ok (.invokevirtual 142, 3)) := by decide +kernel
theorem dX8_fault_0 : decode cX8_fault 0 = .ok (.aload_n 0, 1) := dX8_fault_k59.1
theorem dX8_fault_1 : decode cX8_fault 1 = .ok (.getfield 27, 3) := dX8_fault_k59.2.1
theorem dX8_fault_4 : decode cX8_fault 4 = .ok (.aload_n 0, 1) := dX8_fault_k59.2.2.1
theorem dX8_fault_5 : decode cX8_fault 5 = .ok (.getfield 10, 3) := dX8_fault_k59.2.2.2.1
theorem dX8_fault_8 : decode cX8_fault 8 = .ok (.getfield 81, 3) := dX8_fault_k59.2.2.2.2.1
theorem dX8_fault_11 : decode cX8_fault 11 = .ok (.invokevirtual 142, 3) := dX8_fault_k59.2.2.2.2.2
theorem dX8_fault_14 : decode cX8_fault 14 = .ok (.ireturn, 1) := by decide +kernel
set_option maxRecDepth 100000 in
theorem dX8_judge_k60 : (decode cX8_judge 0 = .ok (.iload_n 1, 1)) ∧ (decode cX8_judge 1 = .ok (.ifCond .lt 8, 3)) ∧ (decode cX8_judge 4 = .ok (.iload_n 1, 1)) ∧ (decode cX8_judge 5 = .ok (.iconst 1, 1)) ∧ (decode cX8_judge 6 = .ok (.if_icmp .le 6, 3)) ∧ (decode cX8_judge 9 = .ok (.bipush (-2), 2)) := by decide +kernel
theorem dX8_judge_0 : decode cX8_judge 0 = .ok (.iload_n 1, 1) := dX8_judge_k60.1
theorem dX8_judge_1 : decode cX8_judge 1 = .ok (.ifCond .lt 8, 3) := dX8_judge_k60.2.1
theorem dX8_judge_4 : decode cX8_judge 4 = .ok (.iload_n 1, 1) := dX8_judge_k60.2.2.1
theorem dX8_judge_5 : decode cX8_judge 5 = .ok (.iconst 1, 1) := dX8_judge_k60.2.2.2.1
theorem dX8_judge_6 : decode cX8_judge 6 = .ok (.if_icmp .le 6, 3) := dX8_judge_k60.2.2.2.2.1
theorem dX8_judge_9 : decode cX8_judge 9 = .ok (.bipush (-2), 2) := dX8_judge_k60.2.2.2.2.2
set_option maxRecDepth 100000 in
theorem dX8_judge_k61 : (decode cX8_judge 11 = .ok (.ireturn, 1)) ∧ (decode cX8_judge 12 = .ok (.aload_n 0, 1)) ∧ (decode cX8_judge 13 = .ok (.getfield 27, 3)) ∧ (decode cX8_judge 16 = .ok (.aload_n 0, 1)) ∧ (decode cX8_judge 17 = .ok (.getfield 10, 3)) ∧ (decode cX8_judge 20 = .ok (.getfield 81, 3)) := by decide +kernel
theorem dX8_judge_11 : decode cX8_judge 11 = .ok (.ireturn, 1) := dX8_judge_k61.1
theorem dX8_judge_12 : decode cX8_judge 12 = .ok (.aload_n 0, 1) := dX8_judge_k61.2.1
theorem dX8_judge_13 : decode cX8_judge 13 = .ok (.getfield 27, 3) := dX8_judge_k61.2.2.1
theorem dX8_judge_16 : decode cX8_judge 16 = .ok (.aload_n 0, 1) := dX8_judge_k61.2.2.2.1
theorem dX8_judge_17 : decode cX8_judge 17 = .ok (.getfield 10, 3) := dX8_judge_k61.2.2.2.2.1
theorem dX8_judge_20 : decode cX8_judge 20 = .ok (.getfield 81, 3) := dX8_judge_k61.2.2.2.2.2
set_option maxRecDepth 100000 in
theorem dX8_judge_k62 : (decode cX8_judge 23 = .ok (.invokevirtual 142, 3)) ∧ (decode cX8_judge 26 = .ok (.bipush (-6), 2)) ∧ (decode cX8_judge 28 = .ok (.if_icmp .eq 6, 3)) ∧ (decode cX8_judge 31 = .ok (.bipush (-5), 2)) ∧ (decode cX8_judge 33 = .ok (.ireturn, 1)) ∧ (decode cX8_judge 34 = .ok (.aload_n 0, 1)) := by decide +kernel
theorem dX8_judge_23 : decode cX8_judge 23 = .ok (.invokevirtual 142, 3) := dX8_judge_k62.1
theorem dX8_judge_26 : decode cX8_judge 26 = .ok (.bipush (-6), 2) := dX8_judge_k62.2.1
theorem dX8_judge_28 : decode cX8_judge 28 = .ok (.if_icmp .eq 6, 3) := dX8_judge_k62.2.2.1
theorem dX8_judge_31 : decode cX8_judge 31 = .ok (.bipush (-5), 2) := dX8_judge_k62.2.2.2.1
theorem dX8_judge_33 : decode cX8_judge 33 = .ok (.ireturn, 1) := dX8_judge_k62.2.2.2.2.1
theorem dX8_judge_34 : decode cX8_judge 34 = .ok (.aload_n 0, 1) := dX8_judge_k62.2.2.2.2.2
set_option maxRecDepth 100000 in
theorem dX8_judge_k63 : (decode cX8_judge 35 = .ok (.getfield 41, 3)) ∧ (decode cX8_judge 38 = .ok (.aload_n 0, 1)) ∧ (decode cX8_judge 39 = .ok (.getfield 27, 3)) ∧ (decode cX8_judge 42 = .ok (.aload_n 0, 1)) ∧ (decode cX8_judge 43 = .ok (.getfield 10, 3)) ∧ (decode cX8_judge 46 = .ok (.aload_n 0, 1)) := by decide +kernel
theorem dX8_judge_35 : decode cX8_judge 35 = .ok (.getfield 41, 3) := dX8_judge_k63.1
theorem dX8_judge_38 : decode cX8_judge 38 = .ok (.aload_n 0, 1) := dX8_judge_k63.2.1
theorem dX8_judge_39 : decode cX8_judge 39 = .ok (.getfield 27, 3) := dX8_judge_k63.2.2.1
theorem dX8_judge_42 : decode cX8_judge 42 = .ok (.aload_n 0, 1) := dX8_judge_k63.2.2.2.1
theorem dX8_judge_43 : decode cX8_judge 43 = .ok (.getfield 10, 3) := dX8_judge_k63.2.2.2.2.1
theorem dX8_judge_46 : decode cX8_judge 46 = .ok (.aload_n 0, 1) := dX8_judge_k63.2.2.2.2.2
set_option maxRecDepth 100000 in
theorem dX8_judge_k64 : (decode cX8_judge 47 = .ok (.getfield 34, 3)) ∧ (decode cX8_judge 50 = .ok (.invokevirtual 145, 3)) ∧ (decode cX8_judge 53 = .ok (.aload_n 0, 1)) ∧ (decode cX8_judge 54 = .ok (.getfield 41, 3)) ∧ (decode cX8_judge 57 = .ok (.getfield 149, 3)) ∧ (decode cX8_judge 60 = .ok (.ifCond .ne 6, 3)) := by decide +kernel
theorem dX8_judge_47 : decode cX8_judge 47 = .ok (.getfield 34, 3) := dX8_judge_k64.1
theorem dX8_judge_50 : decode cX8_judge 50 = .ok (.invokevirtual 145, 3) := dX8_judge_k64.2.1
theorem dX8_judge_53 : decode cX8_judge 53 = .ok (.aload_n 0, 1) := dX8_judge_k64.2.2.1
theorem dX8_judge_54 : decode cX8_judge 54 = .ok (.getfield 41, 3) := dX8_judge_k64.2.2.2.1
theorem dX8_judge_57 : decode cX8_judge 57 = .ok (.getfield 149, 3) := dX8_judge_k64.2.2.2.2.1
theorem dX8_judge_60 : decode cX8_judge 60 = .ok (.ifCond .ne 6, 3) := dX8_judge_k64.2.2.2.2.2
set_option maxRecDepth 100000 in
theorem dX8_judge_k65 : (decode cX8_judge 63 = .ok (.bipush (-6), 2)) ∧ (decode cX8_judge 65 = .ok (.ireturn, 1)) ∧ (decode cX8_judge 66 = .ok (.iload_n 1, 1)) ∧ (decode cX8_judge 67 = .ok (.ifCond .ne 13, 3)) ∧ (decode cX8_judge 70 = .ok (.aload_n 0, 1)) ∧ (decode cX8_judge 71 = .ok (.getfield 41, 3)) := by decide +kernel
theorem dX8_judge_63 : decode cX8_judge 63 = .ok (.bipush (-6), 2) := dX8_judge_k65.1
theorem dX8_judge_65 : decode cX8_judge 65 = .ok (.ireturn, 1) := dX8_judge_k65.2.1
theorem dX8_judge_66 : decode cX8_judge 66 = .ok (.iload_n 1, 1) := dX8_judge_k65.2.2.1
theorem dX8_judge_67 : decode cX8_judge 67 = .ok (.ifCond .ne 13, 3) := dX8_judge_k65.2.2.2.1
theorem dX8_judge_70 : decode cX8_judge 70 = .ok (.aload_n 0, 1) := dX8_judge_k65.2.2.2.2.1
theorem dX8_judge_71 : decode cX8_judge 71 = .ok (.getfield 41, 3) := dX8_judge_k65.2.2.2.2.2
set_option maxRecDepth 100000 in
theorem dX8_judge_k66 : (decode cX8_judge 74 = .ok (.getfield 152, 3)) ∧ (decode cX8_judge 77 = .ok (.goto 10, 3)) ∧ (decode cX8_judge 80 = .ok (.aload_n 0, 1)) ∧ (decode cX8_judge 81 = .ok (.getfield 41, 3)) ∧ (decode cX8_judge 84 = .ok (.getfield 149, 3)) ∧ (decode cX8_judge 87 = .ok (.ireturn, 1)) := by decide +kernel
theorem dX8_judge_74 : decode cX8_judge 74 = .ok (.getfield 152, 3) := dX8_judge_k66.1
theorem dX8_judge_77 : decode cX8_judge 77 = .ok (.goto 10, 3) := dX8_judge_k66.2.1
theorem dX8_judge_80 : decode cX8_judge 80 = .ok (.aload_n 0, 1) := dX8_judge_k66.2.2.1
theorem dX8_judge_81 : decode cX8_judge 81 = .ok (.getfield 41, 3) := dX8_judge_k66.2.2.2.1
theorem dX8_judge_84 : decode cX8_judge 84 = .ok (.getfield 149, 3) := dX8_judge_k66.2.2.2.2.1
theorem dX8_judge_87 : decode cX8_judge 87 = .ok (.ireturn, 1) := dX8_judge_k66.2.2.2.2.2
set_option maxRecDepth 100000 in
theorem dX8_done_k67 : (decode cX8_done 0 = .ok (.aload_n 0, 1)) ∧ (decode cX8_done 1 = .ok (.invokevirtual 155, 3)) ∧ (decode cX8_done 4 = .ok (.ifCond .ne 6, 3)) ∧ (decode cX8_done 7 = .ok (.bipush (-5), 2)) ∧ (decode cX8_done 9 = .ok (.ireturn, 1)) ∧ (decode cX8_done 10 = .ok (.aload_n 0, 1)) := by decide +kernel
theorem dX8_done_0 : decode cX8_done 0 = .ok (.aload_n 0, 1) := dX8_done_k67.1
theorem dX8_done_1 : decode cX8_done 1 = .ok (.invokevirtual 155, 3) := dX8_done_k67.2.1
theorem dX8_done_4 : decode cX8_done 4 = .ok (.ifCond .ne 6, 3) := dX8_done_k67.2.2.1
theorem dX8_done_7 : decode cX8_done 7 = .ok (.bipush (-5), 2) := dX8_done_k67.2.2.2.1
theorem dX8_done_9 : decode cX8_done 9 = .ok (.ireturn, 1) := dX8_done_k67.2.2.2.2.1
theorem dX8_done_10 : decode cX8_done 10 = .ok (.aload_n 0, 1) := dX8_done_k67.2.2.2.2.2
set_option maxRecDepth 100000 in
theorem dX8_done_k68 : (decode cX8_done 11 = .ok (.getfield 10, 3)) ∧ (decode cX8_done 14 = .ok (.aload_n 0, 1)) ∧ (decode cX8_done 15 = .ok (.getfield 34, 3)) ∧ (decode cX8_done 18 = .ok (.getfield 159, 3)) ∧ (decode cX8_done 21 = .ok (.invokevirtual 162, 3)) ∧ (decode cX8_done 24 = .ok (.aload_n 0, 1)) := by decide +kernel
theorem dX8_done_11 : decode cX8_done 11 = .ok (.getfield 10, 3) := dX8_done_k68.1
theorem dX8_done_14 : decode cX8_done 14 = .ok (.aload_n 0, 1) := dX8_done_k68.2.1
theorem dX8_done_15 : decode cX8_done 15 = .ok (.getfield 34, 3) := dX8_done_k68.2.2.1
theorem dX8_done_18 : decode cX8_done 18 = .ok (.getfield 159, 3) := dX8_done_k68.2.2.2.1
theorem dX8_done_21 : decode cX8_done 21 = .ok (.invokevirtual 162, 3) := dX8_done_k68.2.2.2.2.1
theorem dX8_done_24 : decode cX8_done 24 = .ok (.aload_n 0, 1) := dX8_done_k68.2.2.2.2.2
set_option maxRecDepth 100000 in
theorem dX8_done_k69 : (decode cX8_done 25 = .ok (.getfield 27, 3)) ∧ (decode cX8_done 28 = .ok (.iconst 0, 1)) ∧ (decode cX8_done 29 = .ok (.putfield 139, 3)) ∧ (decode cX8_done 32 = .ok (.aload_n 0, 1)) ∧ (decode cX8_done 33 = .ok (.getfield 41, 3)) ∧ (decode cX8_done 36 = .ok (.getfield 152, 3)) := by decide +kernel
theorem dX8_done_25 : decode cX8_done 25 = .ok (.getfield 27, 3) := dX8_done_k69.1
theorem dX8_done_28 : decode cX8_done 28 = .ok (.iconst 0, 1) := dX8_done_k69.2.1
theorem dX8_done_29 : decode cX8_done 29 = .ok (.putfield 139, 3) := dX8_done_k69.2.2.1
theorem dX8_done_32 : decode cX8_done 32 = .ok (.aload_n 0, 1) := dX8_done_k69.2.2.2.1
theorem dX8_done_33 : decode cX8_done 33 = .ok (.getfield 41, 3) := dX8_done_k69.2.2.2.2.1
theorem dX8_done_36 : decode cX8_done 36 = .ok (.getfield 152, 3) := dX8_done_k69.2.2.2.2.2
theorem dX8_done_39 : decode cX8_done 39 = .ok (.ireturn, 1) := by decide +kernel
set_option maxRecDepth 100000 in
theorem dX8_state_k70 : (decode cX8_state 0 = .ok (.aload_n 0, 1)) ∧ (decode cX8_state 1 = .ok (.getfield 10, 3)) ∧ (decode cX8_state 4 = .ok (.iload_n 1, 1)) ∧ (decode cX8_state 5 = .ok (.invokevirtual 130, 3)) ∧ (decode cX8_state 8 = .ok (.ifCond .ne 5, 3)) ∧ (decode cX8_state 11 = .ok (.iconst (-1), 1)) := by decide +kernel
theorem dX8_state_0 : decode cX8_state 0 = .ok (.aload_n 0, 1) := dX8_state_k70.1
theorem dX8_state_1 : decode cX8_state 1 = .ok (.getfield 10, 3) := dX8_state_k70.2.1
theorem dX8_state_4 : decode cX8_state 4 = .ok (.iload_n 1, 1) := dX8_state_k70.2.2.1
theorem dX8_state_5 : decode cX8_state 5 = .ok (.invokevirtual 130, 3) := dX8_state_k70.2.2.2.1
theorem dX8_state_8 : decode cX8_state 8 = .ok (.ifCond .ne 5, 3) := dX8_state_k70.2.2.2.2.1
theorem dX8_state_11 : decode cX8_state 11 = .ok (.iconst (-1), 1) := dX8_state_k70.2.2.2.2.2
set_option maxRecDepth 100000 in
theorem dX8_state_k71 : (decode cX8_state 12 = .ok (.ireturn, 1)) ∧ (decode cX8_state 13 = .ok (.aload_n 0, 1)) ∧ (decode cX8_state 14 = .ok (.getfield 10, 3)) ∧ (decode cX8_state 17 = .ok (.iload_n 1, 1)) ∧ (decode cX8_state 18 = .ok (.iload_n 2, 1)) ∧ (decode cX8_state 19 = .ok (.invokevirtual 166, 3)) := by decide +kernel
theorem dX8_state_12 : decode cX8_state 12 = .ok (.ireturn, 1) := dX8_state_k71.1
theorem dX8_state_13 : decode cX8_state 13 = .ok (.aload_n 0, 1) := dX8_state_k71.2.1
theorem dX8_state_14 : decode cX8_state 14 = .ok (.getfield 10, 3) := dX8_state_k71.2.2.1
theorem dX8_state_17 : decode cX8_state 17 = .ok (.iload_n 1, 1) := dX8_state_k71.2.2.2.1
theorem dX8_state_18 : decode cX8_state 18 = .ok (.iload_n 2, 1) := dX8_state_k71.2.2.2.2.1
theorem dX8_state_19 : decode cX8_state 19 = .ok (.invokevirtual 166, 3) := dX8_state_k71.2.2.2.2.2
theorem dX8_state_22 : decode cX8_state 22 = .ok (.ireturn, 1) := by decide +kernel
set_option maxRecDepth 100000 in
theorem dX8_behind_k72 : (decode cX8_behind 0 = .ok (.aload_n 0, 1)) ∧ (decode cX8_behind 1 = .ok (.getfield 10, 3)) ∧ (decode cX8_behind 4 = .ok (.iload_n 1, 1)) ∧ (decode cX8_behind 5 = .ok (.invokevirtual 130, 3)) ∧ (decode cX8_behind 8 = .ok (.ifCond .ne 5, 3)) ∧ (decode cX8_behind 11 = .ok (.iconst (-1), 1)) := by decide +kernel
theorem dX8_behind_0 : decode cX8_behind 0 = .ok (.aload_n 0, 1) := dX8_behind_k72.1
theorem dX8_behind_1 : decode cX8_behind 1 = .ok (.getfield 10, 3) := dX8_behind_k72.2.1
theorem dX8_behind_4 : decode cX8_behind 4 = .ok (.iload_n 1, 1) := dX8_behind_k72.2.2.1
theorem dX8_behind_5 : decode cX8_behind 5 = .ok (.invokevirtual 130, 3) := dX8_behind_k72.2.2.2.1
theorem dX8_behind_8 : decode cX8_behind 8 = .ok (.ifCond .ne 5, 3) := dX8_behind_k72.2.2.2.2.1
theorem dX8_behind_11 : decode cX8_behind 11 = .ok (.iconst (-1), 1) := dX8_behind_k72.2.2.2.2.2
set_option maxRecDepth 100000 in
theorem dX8_behind_k73 : (decode cX8_behind 12 = .ok (.ireturn, 1)) ∧ (decode cX8_behind 13 = .ok (.iload_n 2, 1)) ∧ (decode cX8_behind 14 = .ok (.ifCond .lt 8, 3)) ∧ (decode cX8_behind 17 = .ok (.iload_n 2, 1)) ∧ (decode cX8_behind 18 = .ok (.iconst 3, 1)) ∧ (decode cX8_behind 19 = .ok (.if_icmp .le 6, 3)) := by decide +kernel
theorem dX8_behind_12 : decode cX8_behind 12 = .ok (.ireturn, 1) := dX8_behind_k73.1
theorem dX8_behind_13 : decode cX8_behind 13 = .ok (.iload_n 2, 1) := dX8_behind_k73.2.1
theorem dX8_behind_14 : decode cX8_behind 14 = .ok (.ifCond .lt 8, 3) := dX8_behind_k73.2.2.1
theorem dX8_behind_17 : decode cX8_behind 17 = .ok (.iload_n 2, 1) := dX8_behind_k73.2.2.2.1
theorem dX8_behind_18 : decode cX8_behind 18 = .ok (.iconst 3, 1) := dX8_behind_k73.2.2.2.2.1
theorem dX8_behind_19 : decode cX8_behind 19 = .ok (.if_icmp .le 6, 3) := dX8_behind_k73.2.2.2.2.2
set_option maxRecDepth 100000 in
theorem dX8_behind_k74 : (decode cX8_behind 22 = .ok (.bipush (-2), 2)) ∧ (decode cX8_behind 24 = .ok (.ireturn, 1)) ∧ (decode cX8_behind 25 = .ok (.aload_n 0, 1)) ∧ (decode cX8_behind 26 = .ok (.invokevirtual 155, 3)) ∧ (decode cX8_behind 29 = .ok (.ifCond .eq 18, 3)) ∧ (decode cX8_behind 32 = .ok (.aload_n 0, 1)) := by decide +kernel
theorem dX8_behind_22 : decode cX8_behind 22 = .ok (.bipush (-2), 2) := dX8_behind_k74.1
theorem dX8_behind_24 : decode cX8_behind 24 = .ok (.ireturn, 1) := dX8_behind_k74.2.1
theorem dX8_behind_25 : decode cX8_behind 25 = .ok (.aload_n 0, 1) := dX8_behind_k74.2.2.1
theorem dX8_behind_26 : decode cX8_behind 26 = .ok (.invokevirtual 155, 3) := dX8_behind_k74.2.2.2.1
theorem dX8_behind_29 : decode cX8_behind 29 = .ok (.ifCond .eq 18, 3) := dX8_behind_k74.2.2.2.2.1
theorem dX8_behind_32 : decode cX8_behind 32 = .ok (.aload_n 0, 1) := dX8_behind_k74.2.2.2.2.2
set_option maxRecDepth 100000 in
theorem dX8_behind_k75 : (decode cX8_behind 33 = .ok (.getfield 34, 3)) ∧ (decode cX8_behind 36 = .ok (.getfield 159, 3)) ∧ (decode cX8_behind 39 = .ok (.iload_n 1, 1)) ∧ (decode cX8_behind 40 = .ok (.iload_n 2, 1)) ∧ (decode cX8_behind 41 = .ok (.invokevirtual 166, 3)) ∧ (decode cX8_behind 44 = .ok (.goto 5, 3)) := by decide +kernel
theorem dX8_behind_33 : decode cX8_behind 33 = .ok (.getfield 34, 3) := dX8_behind_k75.1
theorem dX8_behind_36 : decode cX8_behind 36 = .ok (.getfield 159, 3) := dX8_behind_k75.2.1
theorem dX8_behind_39 : decode cX8_behind 39 = .ok (.iload_n 1, 1) := dX8_behind_k75.2.2.1
theorem dX8_behind_40 : decode cX8_behind 40 = .ok (.iload_n 2, 1) := dX8_behind_k75.2.2.2.1
theorem dX8_behind_41 : decode cX8_behind 41 = .ok (.invokevirtual 166, 3) := dX8_behind_k75.2.2.2.2.1
theorem dX8_behind_44 : decode cX8_behind 44 = .ok (.goto 5, 3) := dX8_behind_k75.2.2.2.2.2
set_option maxRecDepth 100000 in
theorem dX8_behind_k76 : (decode cX8_behind 47 = .ok (.bipush (-5), 2)) ∧ (decode cX8_behind 49 = .ok (.ireturn, 1)) := by decide +kernel
theorem dX8_behind_47 : decode cX8_behind 47 = .ok (.bipush (-5), 2) := dX8_behind_k76.1
theorem dX8_behind_49 : decode cX8_behind 49 = .ok (.ireturn, 1) := dX8_behind_k76.2
set_option maxRecDepth 100000 in
theorem dX8_draw_k77 : (decode cX8_draw 0 = .ok (.aload_n 0, 1)) ∧ (decode cX8_draw 1 = .ok (.getfield 10, 3)) ∧ (decode cX8_draw 4 = .ok (.iload_n 1, 1)) ∧ (decode cX8_draw 5 = .ok (.invokevirtual 130, 3)) ∧ (decode cX8_draw 8 = .ok (.ifCond .eq 14, 3)) ∧ (decode cX8_draw 11 = .ok (.aload_n 0, 1)) := by decide +kernel
theorem dX8_draw_0 : decode cX8_draw 0 = .ok (.aload_n 0, 1) := dX8_draw_k77.1
theorem dX8_draw_1 : decode cX8_draw 1 = .ok (.getfield 10, 3) := dX8_draw_k77.2.1
theorem dX8_draw_4 : decode cX8_draw 4 = .ok (.iload_n 1, 1) := dX8_draw_k77.2.2.1
theorem dX8_draw_5 : decode cX8_draw 5 = .ok (.invokevirtual 130, 3) := dX8_draw_k77.2.2.2.1
theorem dX8_draw_8 : decode cX8_draw 8 = .ok (.ifCond .eq 14, 3) := dX8_draw_k77.2.2.2.2.1
theorem dX8_draw_11 : decode cX8_draw 11 = .ok (.aload_n 0, 1) := dX8_draw_k77.2.2.2.2.2
set_option maxRecDepth 100000 in
theorem dX8_draw_k78 : (decode cX8_draw 12 = .ok (.getfield 10, 3)) ∧ (decode cX8_draw 15 = .ok (.iload_n 2, 1)) ∧ (decode cX8_draw 16 = .ok (.invokevirtual 85, 3)) ∧ (decode cX8_draw 19 = .ok (.ifCond .ne 5, 3)) ∧ (decode cX8_draw 22 = .ok (.iconst (-1), 1)) ∧ (decode cX8_draw 23 = .ok (.ireturn, 1)) := by decide +kernel
theorem dX8_draw_12 : decode cX8_draw 12 = .ok (.getfield 10, 3) := dX8_draw_k78.1
theorem dX8_draw_15 : decode cX8_draw 15 = .ok (.iload_n 2, 1) := dX8_draw_k78.2.1
theorem dX8_draw_16 : decode cX8_draw 16 = .ok (.invokevirtual 85, 3) := dX8_draw_k78.2.2.1
theorem dX8_draw_19 : decode cX8_draw 19 = .ok (.ifCond .ne 5, 3) := dX8_draw_k78.2.2.2.1
theorem dX8_draw_22 : decode cX8_draw 22 = .ok (.iconst (-1), 1) := dX8_draw_k78.2.2.2.2.1
theorem dX8_draw_23 : decode cX8_draw 23 = .ok (.ireturn, 1) := dX8_draw_k78.2.2.2.2.2
set_option maxRecDepth 100000 in
theorem dX8_draw_k79 : (decode cX8_draw 24 = .ok (.aload_n 0, 1)) ∧ (decode cX8_draw 25 = .ok (.getfield 10, 3)) ∧ (decode cX8_draw 28 = .ok (.iload_n 1, 1)) ∧ (decode cX8_draw 29 = .ok (.iload_n 2, 1)) ∧ (decode cX8_draw 30 = .ok (.invokevirtual 169, 3)) ∧ (decode cX8_draw 33 = .ok (.sipush 1000, 3)) := by decide +kernel
theorem dX8_draw_24 : decode cX8_draw 24 = .ok (.aload_n 0, 1) := dX8_draw_k79.1
theorem dX8_draw_25 : decode cX8_draw 25 = .ok (.getfield 10, 3) := dX8_draw_k79.2.1
theorem dX8_draw_28 : decode cX8_draw 28 = .ok (.iload_n 1, 1) := dX8_draw_k79.2.2.1
theorem dX8_draw_29 : decode cX8_draw 29 = .ok (.iload_n 2, 1) := dX8_draw_k79.2.2.2.1
theorem dX8_draw_30 : decode cX8_draw 30 = .ok (.invokevirtual 169, 3) := dX8_draw_k79.2.2.2.2.1
theorem dX8_draw_33 : decode cX8_draw 33 = .ok (.sipush 1000, 3) := dX8_draw_k79.2.2.2.2.2
set_option maxRecDepth 100000 in
theorem dX8_draw_k80 : (decode cX8_draw 36 = .ok (.iadd, 1)) ∧ (decode cX8_draw 37 = .ok (.ireturn, 1)) := by decide +kernel
theorem dX8_draw_36 : decode cX8_draw 36 = .ok (.iadd, 1) := dX8_draw_k80.1
theorem dX8_draw_37 : decode cX8_draw 37 = .ok (.ireturn, 1) := dX8_draw_k80.2
set_option maxRecDepth 100000 in
theorem dX8_goes_k81 : (decode cX8_goes 0 = .ok (.aload_n 0, 1)) ∧ (decode cX8_goes 1 = .ok (.getfield 10, 3)) ∧ (decode cX8_goes 4 = .ok (.iload_n 1, 1)) ∧ (decode cX8_goes 5 = .ok (.invokevirtual 130, 3)) ∧ (decode cX8_goes 8 = .ok (.ifCond .ne 5, 3)) ∧ (decode cX8_goes 11 = .ok (.iconst (-1), 1)) := by decide +kernel
theorem dX8_goes_0 : decode cX8_goes 0 = .ok (.aload_n 0, 1) := dX8_goes_k81.1
theorem dX8_goes_1 : decode cX8_goes 1 = .ok (.getfield 10, 3) := dX8_goes_k81.2.1
theorem dX8_goes_4 : decode cX8_goes 4 = .ok (.iload_n 1, 1) := dX8_goes_k81.2.2.1
theorem dX8_goes_5 : decode cX8_goes 5 = .ok (.invokevirtual 130, 3) := dX8_goes_k81.2.2.2.1
theorem dX8_goes_8 : decode cX8_goes 8 = .ok (.ifCond .ne 5, 3) := dX8_goes_k81.2.2.2.2.1
theorem dX8_goes_11 : decode cX8_goes 11 = .ok (.iconst (-1), 1) := dX8_goes_k81.2.2.2.2.2
set_option maxRecDepth 100000 in
theorem dX8_goes_k82 : (decode cX8_goes 12 = .ok (.ireturn, 1)) ∧ (decode cX8_goes 13 = .ok (.aload_n 0, 1)) ∧ (decode cX8_goes 14 = .ok (.getfield 10, 3)) ∧ (decode cX8_goes 17 = .ok (.getfield 172, 3)) ∧ (decode cX8_goes 20 = .ok (.iload_n 1, 1)) ∧ (decode cX8_goes 21 = .ok (.iaload, 1)) := by decide +kernel
theorem dX8_goes_12 : decode cX8_goes 12 = .ok (.ireturn, 1) := dX8_goes_k82.1
theorem dX8_goes_13 : decode cX8_goes 13 = .ok (.aload_n 0, 1) := dX8_goes_k82.2.1
theorem dX8_goes_14 : decode cX8_goes 14 = .ok (.getfield 10, 3) := dX8_goes_k82.2.2.1
theorem dX8_goes_17 : decode cX8_goes 17 = .ok (.getfield 172, 3) := dX8_goes_k82.2.2.2.1
theorem dX8_goes_20 : decode cX8_goes 20 = .ok (.iload_n 1, 1) := dX8_goes_k82.2.2.2.2.1
theorem dX8_goes_21 : decode cX8_goes 21 = .ok (.iaload, 1) := dX8_goes_k82.2.2.2.2.2
set_option maxRecDepth 100000 in
theorem dX8_goes_k83 : (decode cX8_goes 22 = .ok (.ifCond .eq 6, 3)) ∧ (decode cX8_goes 25 = .ok (.bipush (-3), 2)) ∧ (decode cX8_goes 27 = .ok (.ireturn, 1)) ∧ (decode cX8_goes 28 = .ok (.aload_n 0, 1)) ∧ (decode cX8_goes 29 = .ok (.getfield 34, 3)) ∧ (decode cX8_goes 32 = .ok (.aload_n 0, 1)) := by decide +kernel
theorem dX8_goes_22 : decode cX8_goes 22 = .ok (.ifCond .eq 6, 3) := dX8_goes_k83.1
theorem dX8_goes_25 : decode cX8_goes 25 = .ok (.bipush (-3), 2) := dX8_goes_k83.2.1
theorem dX8_goes_27 : decode cX8_goes 27 = .ok (.ireturn, 1) := dX8_goes_k83.2.2.1
theorem dX8_goes_28 : decode cX8_goes 28 = .ok (.aload_n 0, 1) := dX8_goes_k83.2.2.2.1
theorem dX8_goes_29 : decode cX8_goes 29 = .ok (.getfield 34, 3) := dX8_goes_k83.2.2.2.2.1
theorem dX8_goes_32 : decode cX8_goes 32 = .ok (.aload_n 0, 1) := dX8_goes_k83.2.2.2.2.2
set_option maxRecDepth 100000 in
theorem dX8_goes_k84 : (decode cX8_goes 33 = .ok (.getfield 10, 3)) ∧ (decode cX8_goes 36 = .ok (.invokevirtual 175, 3)) ∧ (decode cX8_goes 39 = .ok (.aload_n 0, 1)) ∧ (decode cX8_goes 40 = .ok (.getfield 34, 3)) ∧ (decode cX8_goes 43 = .ok (.iload_n 1, 1)) ∧ (decode cX8_goes 44 = .ok (.invokevirtual 178, 3)) := by decide +kernel
theorem dX8_goes_33 : decode cX8_goes 33 = .ok (.getfield 10, 3) := dX8_goes_k84.1
theorem dX8_goes_36 : decode cX8_goes 36 = .ok (.invokevirtual 175, 3) := dX8_goes_k84.2.1
theorem dX8_goes_39 : decode cX8_goes 39 = .ok (.aload_n 0, 1) := dX8_goes_k84.2.2.1
theorem dX8_goes_40 : decode cX8_goes 40 = .ok (.getfield 34, 3) := dX8_goes_k84.2.2.2.1
theorem dX8_goes_43 : decode cX8_goes 43 = .ok (.iload_n 1, 1) := dX8_goes_k84.2.2.2.2.1
theorem dX8_goes_44 : decode cX8_goes 44 = .ok (.invokevirtual 178, 3) := dX8_goes_k84.2.2.2.2.2
theorem dX8_goes_47 : decode cX8_goes 47 = .ok (.ireturn, 1) := by decide +kernel
set_option maxRecDepth 100000 in
theorem dX8_after_k85 : (decode cX8_after 0 = .ok (.aload_n 0, 1)) ∧ (decode cX8_after 1 = .ok (.getfield 10, 3)) ∧ (decode cX8_after 4 = .ok (.iload_n 1, 1)) ∧ (decode cX8_after 5 = .ok (.invokevirtual 130, 3)) ∧ (decode cX8_after 8 = .ok (.ifCond .ne 5, 3)) ∧ (decode cX8_after 11 = .ok (.iconst (-1), 1)) := by decide +kernel
theorem dX8_after_0 : decode cX8_after 0 = .ok (.aload_n 0, 1) := dX8_after_k85.1
theorem dX8_after_1 : decode cX8_after 1 = .ok (.getfield 10, 3) := dX8_after_k85.2.1
theorem dX8_after_4 : decode cX8_after 4 = .ok (.iload_n 1, 1) := dX8_after_k85.2.2.1
theorem dX8_after_5 : decode cX8_after 5 = .ok (.invokevirtual 130, 3) := dX8_after_k85.2.2.2.1
theorem dX8_after_8 : decode cX8_after 8 = .ok (.ifCond .ne 5, 3) := dX8_after_k85.2.2.2.2.1
theorem dX8_after_11 : decode cX8_after 11 = .ok (.iconst (-1), 1) := dX8_after_k85.2.2.2.2.2
set_option maxRecDepth 100000 in
theorem dX8_after_k86 : (decode cX8_after 12 = .ok (.ireturn, 1)) ∧ (decode cX8_after 13 = .ok (.iload_n 2, 1)) ∧ (decode cX8_after 14 = .ok (.ifCond .lt 9, 3)) ∧ (decode cX8_after 17 = .ok (.iload_n 2, 1)) ∧ (decode cX8_after 18 = .ok (.bipush 99, 2)) ∧ (decode cX8_after 20 = .ok (.if_icmp .le 6, 3)) := by decide +kernel
theorem dX8_after_12 : decode cX8_after 12 = .ok (.ireturn, 1) := dX8_after_k86.1
theorem dX8_after_13 : decode cX8_after 13 = .ok (.iload_n 2, 1) := dX8_after_k86.2.1
theorem dX8_after_14 : decode cX8_after 14 = .ok (.ifCond .lt 9, 3) := dX8_after_k86.2.2.1
theorem dX8_after_17 : decode cX8_after 17 = .ok (.iload_n 2, 1) := dX8_after_k86.2.2.2.1
theorem dX8_after_18 : decode cX8_after 18 = .ok (.bipush 99, 2) := dX8_after_k86.2.2.2.2.1
theorem dX8_after_20 : decode cX8_after 20 = .ok (.if_icmp .le 6, 3) := dX8_after_k86.2.2.2.2.2
set_option maxRecDepth 100000 in
theorem dX8_after_k87 : (decode cX8_after 23 = .ok (.bipush (-2), 2)) ∧ (decode cX8_after 25 = .ok (.ireturn, 1)) ∧ (decode cX8_after 26 = .ok (.aload_n 0, 1)) ∧ (decode cX8_after 27 = .ok (.getfield 34, 3)) ∧ (decode cX8_after 30 = .ok (.aload_n 0, 1)) ∧ (decode cX8_after 31 = .ok (.getfield 10, 3)) := by decide +kernel
theorem dX8_after_23 : decode cX8_after 23 = .ok (.bipush (-2), 2) := dX8_after_k87.1
theorem dX8_after_25 : decode cX8_after 25 = .ok (.ireturn, 1) := dX8_after_k87.2.1
theorem dX8_after_26 : decode cX8_after 26 = .ok (.aload_n 0, 1) := dX8_after_k87.2.2.1
theorem dX8_after_27 : decode cX8_after 27 = .ok (.getfield 34, 3) := dX8_after_k87.2.2.2.1
theorem dX8_after_30 : decode cX8_after 30 = .ok (.aload_n 0, 1) := dX8_after_k87.2.2.2.2.1
theorem dX8_after_31 : decode cX8_after 31 = .ok (.getfield 10, 3) := dX8_after_k87.2.2.2.2.2
set_option maxRecDepth 100000 in
theorem dX8_after_k88 : (decode cX8_after 34 = .ok (.invokevirtual 175, 3)) ∧ (decode cX8_after 37 = .ok (.aload_n 0, 1)) ∧ (decode cX8_after 38 = .ok (.getfield 34, 3)) ∧ (decode cX8_after 41 = .ok (.iload_n 2, 1)) ∧ (decode cX8_after 42 = .ok (.invokevirtual 181, 3)) ∧ (decode cX8_after 45 = .ok (.aload_n 0, 1)) := by decide +kernel
theorem dX8_after_34 : decode cX8_after 34 = .ok (.invokevirtual 175, 3) := dX8_after_k88.1
theorem dX8_after_37 : decode cX8_after 37 = .ok (.aload_n 0, 1) := dX8_after_k88.2.1
theorem dX8_after_38 : decode cX8_after 38 = .ok (.getfield 34, 3) := dX8_after_k88.2.2.1
theorem dX8_after_41 : decode cX8_after 41 = .ok (.iload_n 2, 1) := dX8_after_k88.2.2.2.1
theorem dX8_after_42 : decode cX8_after 42 = .ok (.invokevirtual 181, 3) := dX8_after_k88.2.2.2.2.1
theorem dX8_after_45 : decode cX8_after 45 = .ok (.aload_n 0, 1) := dX8_after_k88.2.2.2.2.2
set_option maxRecDepth 100000 in
theorem dX8_after_k89 : (decode cX8_after 46 = .ok (.getfield 34, 3)) ∧ (decode cX8_after 49 = .ok (.getfield 159, 3)) ∧ (decode cX8_after 52 = .ok (.getfield 122, 3)) ∧ (decode cX8_after 55 = .ok (.iload_n 1, 1)) ∧ (decode cX8_after 56 = .ok (.iaload, 1)) ∧ (decode cX8_after 57 = .ok (.ireturn, 1)) := by decide +kernel
theorem dX8_after_46 : decode cX8_after 46 = .ok (.getfield 34, 3) := dX8_after_k89.1
theorem dX8_after_49 : decode cX8_after 49 = .ok (.getfield 159, 3) := dX8_after_k89.2.1
theorem dX8_after_52 : decode cX8_after 52 = .ok (.getfield 122, 3) := dX8_after_k89.2.2.1
theorem dX8_after_55 : decode cX8_after 55 = .ok (.iload_n 1, 1) := dX8_after_k89.2.2.2.1
theorem dX8_after_56 : decode cX8_after 56 = .ok (.iaload, 1) := dX8_after_k89.2.2.2.2.1
theorem dX8_after_57 : decode cX8_after 57 = .ok (.ireturn, 1) := dX8_after_k89.2.2.2.2.2
set_option maxRecDepth 100000 in
theorem dX8_crowd_k90 : (decode cX8_crowd 0 = .ok (.aload_n 0, 1)) ∧ (decode cX8_crowd 1 = .ok (.getfield 10, 3)) ∧ (decode cX8_crowd 4 = .ok (.iload_n 1, 1)) ∧ (decode cX8_crowd 5 = .ok (.invokevirtual 85, 3)) ∧ (decode cX8_crowd 8 = .ok (.ifCond .ne 5, 3)) ∧ (decode cX8_crowd 11 = .ok (.iconst (-1), 1)) := by decide +kernel
theorem dX8_crowd_0 : decode cX8_crowd 0 = .ok (.aload_n 0, 1) := dX8_crowd_k90.1
theorem dX8_crowd_1 : decode cX8_crowd 1 = .ok (.getfield 10, 3) := dX8_crowd_k90.2.1
theorem dX8_crowd_4 : decode cX8_crowd 4 = .ok (.iload_n 1, 1) := dX8_crowd_k90.2.2.1
theorem dX8_crowd_5 : decode cX8_crowd 5 = .ok (.invokevirtual 85, 3) := dX8_crowd_k90.2.2.2.1
theorem dX8_crowd_8 : decode cX8_crowd 8 = .ok (.ifCond .ne 5, 3) := dX8_crowd_k90.2.2.2.2.1
theorem dX8_crowd_11 : decode cX8_crowd 11 = .ok (.iconst (-1), 1) := dX8_crowd_k90.2.2.2.2.2
set_option maxRecDepth 100000 in
theorem dX8_crowd_k91 : (decode cX8_crowd 12 = .ok (.ireturn, 1)) ∧ (decode cX8_crowd 13 = .ok (.iload_n 2, 1)) ∧ (decode cX8_crowd 14 = .ok (.ifCond .lt 9, 3)) ∧ (decode cX8_crowd 17 = .ok (.iload_n 2, 1)) ∧ (decode cX8_crowd 18 = .ok (.bipush 99, 2)) ∧ (decode cX8_crowd 20 = .ok (.if_icmp .le 6, 3)) := by decide +kernel
theorem dX8_crowd_12 : decode cX8_crowd 12 = .ok (.ireturn, 1) := dX8_crowd_k91.1
theorem dX8_crowd_13 : decode cX8_crowd 13 = .ok (.iload_n 2, 1) := dX8_crowd_k91.2.1
theorem dX8_crowd_14 : decode cX8_crowd 14 = .ok (.ifCond .lt 9, 3) := dX8_crowd_k91.2.2.1
theorem dX8_crowd_17 : decode cX8_crowd 17 = .ok (.iload_n 2, 1) := dX8_crowd_k91.2.2.2.1
theorem dX8_crowd_18 : decode cX8_crowd 18 = .ok (.bipush 99, 2) := dX8_crowd_k91.2.2.2.2.1
theorem dX8_crowd_20 : decode cX8_crowd 20 = .ok (.if_icmp .le 6, 3) := dX8_crowd_k91.2.2.2.2.2
set_option maxRecDepth 100000 in
theorem dX8_crowd_k92 : (decode cX8_crowd 23 = .ok (.bipush (-2), 2)) ∧ (decode cX8_crowd 25 = .ok (.ireturn, 1)) ∧ (decode cX8_crowd 26 = .ok (.aload_n 0, 1)) ∧ (decode cX8_crowd 27 = .ok (.getfield 34, 3)) ∧ (decode cX8_crowd 30 = .ok (.aload_n 0, 1)) ∧ (decode cX8_crowd 31 = .ok (.getfield 10, 3)) := by decide +kernel
theorem dX8_crowd_23 : decode cX8_crowd 23 = .ok (.bipush (-2), 2) := dX8_crowd_k92.1
theorem dX8_crowd_25 : decode cX8_crowd 25 = .ok (.ireturn, 1) := dX8_crowd_k92.2.1
theorem dX8_crowd_26 : decode cX8_crowd 26 = .ok (.aload_n 0, 1) := dX8_crowd_k92.2.2.1
theorem dX8_crowd_27 : decode cX8_crowd 27 = .ok (.getfield 34, 3) := dX8_crowd_k92.2.2.2.1
theorem dX8_crowd_30 : decode cX8_crowd 30 = .ok (.aload_n 0, 1) := dX8_crowd_k92.2.2.2.2.1
theorem dX8_crowd_31 : decode cX8_crowd 31 = .ok (.getfield 10, 3) := dX8_crowd_k92.2.2.2.2.2
set_option maxRecDepth 100000 in
theorem dX8_crowd_k93 : (decode cX8_crowd 34 = .ok (.invokevirtual 175, 3)) ∧ (decode cX8_crowd 37 = .ok (.aload_n 0, 1)) ∧ (decode cX8_crowd 38 = .ok (.getfield 34, 3)) ∧ (decode cX8_crowd 41 = .ok (.iload_n 2, 1)) ∧ (decode cX8_crowd 42 = .ok (.invokevirtual 181, 3)) ∧ (decode cX8_crowd 45 = .ok (.aload_n 0, 1)) := by decide +kernel
theorem dX8_crowd_34 : decode cX8_crowd 34 = .ok (.invokevirtual 175, 3) := dX8_crowd_k93.1
theorem dX8_crowd_37 : decode cX8_crowd 37 = .ok (.aload_n 0, 1) := dX8_crowd_k93.2.1
theorem dX8_crowd_38 : decode cX8_crowd 38 = .ok (.getfield 34, 3) := dX8_crowd_k93.2.2.1
theorem dX8_crowd_41 : decode cX8_crowd 41 = .ok (.iload_n 2, 1) := dX8_crowd_k93.2.2.2.1
theorem dX8_crowd_42 : decode cX8_crowd 42 = .ok (.invokevirtual 181, 3) := dX8_crowd_k93.2.2.2.2.1
theorem dX8_crowd_45 : decode cX8_crowd 45 = .ok (.aload_n 0, 1) := dX8_crowd_k93.2.2.2.2.2
set_option maxRecDepth 100000 in
theorem dX8_crowd_k94 : (decode cX8_crowd 46 = .ok (.getfield 34, 3)) ∧ (decode cX8_crowd 49 = .ok (.getfield 159, 3)) ∧ (decode cX8_crowd 52 = .ok (.iload_n 1, 1)) ∧ (decode cX8_crowd 53 = .ok (.invokevirtual 184, 3)) ∧ (decode cX8_crowd 56 = .ok (.ireturn, 1)) := by decide +kernel
theorem dX8_crowd_46 : decode cX8_crowd 46 = .ok (.getfield 34, 3) := dX8_crowd_k94.1
theorem dX8_crowd_49 : decode cX8_crowd 49 = .ok (.getfield 159, 3) := dX8_crowd_k94.2.1
theorem dX8_crowd_52 : decode cX8_crowd 52 = .ok (.iload_n 1, 1) := dX8_crowd_k94.2.2.1
theorem dX8_crowd_53 : decode cX8_crowd 53 = .ok (.invokevirtual 184, 3) := dX8_crowd_k94.2.2.2.1
theorem dX8_crowd_56 : decode cX8_crowd 56 = .ok (.ireturn, 1) := dX8_crowd_k94.2.2.2.2
set_option maxRecDepth 100000 in
theorem dX8_still_k95 : (decode cX8_still 0 = .ok (.aload_n 0, 1)) ∧ (decode cX8_still 1 = .ok (.invokevirtual 187, 3)) ∧ (decode cX8_still 4 = .ok (.ireturn, 1)) := by decide +kernel
theorem dX8_still_0 : decode cX8_still 0 = .ok (.aload_n 0, 1) := dX8_still_k95.1
theorem dX8_still_1 : decode cX8_still 1 = .ok (.invokevirtual 187, 3) := dX8_still_k95.2.1
theorem dX8_still_4 : decode cX8_still 4 = .ok (.ireturn, 1) := dX8_still_k95.2.2
set_option maxRecDepth 100000 in
theorem dX8_round_k96 : (decode cX8_round 0 = .ok (.aload_n 0, 1)) ∧ (decode cX8_round 1 = .ok (.invokevirtual 187, 3)) ∧ (decode cX8_round 4 = .ok (.bipush (-6), 2)) ∧ (decode cX8_round 6 = .ok (.if_icmp .eq 6, 3)) ∧ (decode cX8_round 9 = .ok (.bipush (-6), 2)) ∧ (decode cX8_round 11 = .ok (.ireturn, 1)) := by decide +kernel
theorem dX8_round_0 : decode cX8_round 0 = .ok (.aload_n 0, 1) := dX8_round_k96.1
theorem dX8_round_1 : decode cX8_round 1 = .ok (.invokevirtual 187, 3) := dX8_round_k96.2.1
theorem dX8_round_4 : decode cX8_round 4 = .ok (.bipush (-6), 2) := dX8_round_k96.2.2.1
theorem dX8_round_6 : decode cX8_round 6 = .ok (.if_icmp .eq 6, 3) := dX8_round_k96.2.2.2.1
theorem dX8_round_9 : decode cX8_round 9 = .ok (.bipush (-6), 2) := dX8_round_k96.2.2.2.2.1
theorem dX8_round_11 : decode cX8_round 11 = .ok (.ireturn, 1) := dX8_round_k96.2.2.2.2.2
set_option maxRecDepth 100000 in
theorem dX8_round_k97 : (decode cX8_round 12 = .ok (.aload_n 0, 1)) ∧ (decode cX8_round 13 = .ok (.getfield 34, 3)) ∧ (decode cX8_round 16 = .ok (.aload_n 0, 1)) ∧ (decode cX8_round 17 = .ok (.getfield 10, 3)) ∧ (decode cX8_round 20 = .ok (.invokevirtual 175, 3)) ∧ (decode cX8_round 23 = .ok (.aload_n 0, 1)) := by decide +kernel
theorem dX8_round_12 : decode cX8_round 12 = .ok (.aload_n 0, 1) := dX8_round_k97.1
theorem dX8_round_13 : decode cX8_round 13 = .ok (.getfield 34, 3) := dX8_round_k97.2.1
theorem dX8_round_16 : decode cX8_round 16 = .ok (.aload_n 0, 1) := dX8_round_k97.2.2.1
theorem dX8_round_17 : decode cX8_round 17 = .ok (.getfield 10, 3) := dX8_round_k97.2.2.2.1
theorem dX8_round_20 : decode cX8_round 20 = .ok (.invokevirtual 175, 3) := dX8_round_k97.2.2.2.2.1
theorem dX8_round_23 : decode cX8_round 23 = .ok (.aload_n 0, 1) := dX8_round_k97.2.2.2.2.2
set_option maxRecDepth 100000 in
theorem dX8_round_k98 : (decode cX8_round 24 = .ok (.getfield 73, 3)) ∧ (decode cX8_round 27 = .ok (.iconst 0, 1)) ∧ (decode cX8_round 28 = .ok (.aload_n 0, 1)) ∧ (decode cX8_round 29 = .ok (.getfield 34, 3)) ∧ (decode cX8_round 32 = .ok (.getfield 159, 3)) ∧ (decode cX8_round 35 = .ok (.invokevirtual 191, 3)) := by decide +kernel
theorem dX8_round_24 : decode cX8_round 24 = .ok (.getfield 73, 3) := dX8_round_k98.1
theorem dX8_round_27 : decode cX8_round 27 = .ok (.iconst 0, 1) := dX8_round_k98.2.1
theorem dX8_round_28 : decode cX8_round 28 = .ok (.aload_n 0, 1) := dX8_round_k98.2.2.1
theorem dX8_round_29 : decode cX8_round 29 = .ok (.getfield 34, 3) := dX8_round_k98.2.2.2.1
theorem dX8_round_32 : decode cX8_round 32 = .ok (.getfield 159, 3) := dX8_round_k98.2.2.2.2.1
theorem dX8_round_35 : decode cX8_round 35 = .ok (.invokevirtual 191, 3) := dX8_round_k98.2.2.2.2.2
set_option maxRecDepth 100000 in
theorem dX8_round_k99 : (decode cX8_round 38 = .ok (.lastore, 1)) ∧ (decode cX8_round 39 = .ok (.iconst 1, 1)) ∧ (decode cX8_round 40 = .ok (.istore_n 1, 1)) ∧ (decode cX8_round 41 = .ok (.iload_n 1, 1)) ∧ (decode cX8_round 42 = .ok (.bipush 99, 2)) ∧ (decode cX8_round 44 = .ok (.if_icmp .gt 66, 3)) := by decide +kernel
theorem dX8_round_38 : decode cX8_round 38 = .ok (.lastore, 1) := dX8_round_k99.1
theorem dX8_round_39 : decode cX8_round 39 = .ok (.iconst 1, 1) := dX8_round_k99.2.1
theorem dX8_round_40 : decode cX8_round 40 = .ok (.istore_n 1, 1) := dX8_round_k99.2.2.1
theorem dX8_round_41 : decode cX8_round 41 = .ok (.iload_n 1, 1) := dX8_round_k99.2.2.2.1
theorem dX8_round_42 : decode cX8_round 42 = .ok (.bipush 99, 2) := dX8_round_k99.2.2.2.2.1
theorem dX8_round_44 : decode cX8_round 44 = .ok (.if_icmp .gt 66, 3) := dX8_round_k99.2.2.2.2.2
set_option maxRecDepth 100000 in
theorem dX8_round_k100 : (decode cX8_round 47 = .ok (.aload_n 0, 1)) ∧ (decode cX8_round 48 = .ok (.getfield 34, 3)) ∧ (decode cX8_round 51 = .ok (.invokevirtual 195, 3)) ∧ (decode cX8_round 54 = .ok (.pop, 1)) ∧ (decode cX8_round 55 = .ok (.aload_n 0, 1)) ∧ (decode cX8_round 56 = .ok (.getfield 73, 3)) := by decide +kernel
theorem dX8_round_47 : decode cX8_round 47 = .ok (.aload_n 0, 1) := dX8_round_k100.1
theorem dX8_round_48 : decode cX8_round 48 = .ok (.getfield 34, 3) := dX8_round_k100.2.1
theorem dX8_round_51 : decode cX8_round 51 = .ok (.invokevirtual 195, 3) := dX8_round_k100.2.2.1
theorem dX8_round_54 : decode cX8_round 54 = .ok (.pop, 1) := dX8_round_k100.2.2.2.1
theorem dX8_round_55 : decode cX8_round 55 = .ok (.aload_n 0, 1) := dX8_round_k100.2.2.2.2.1
theorem dX8_round_56 : decode cX8_round 56 = .ok (.getfield 73, 3) := dX8_round_k100.2.2.2.2.2
set_option maxRecDepth 100000 in
theorem dX8_round_k101 : (decode cX8_round 59 = .ok (.iload_n 1, 1)) ∧ (decode cX8_round 60 = .ok (.aload_n 0, 1)) ∧ (decode cX8_round 61 = .ok (.getfield 34, 3)) ∧ (decode cX8_round 64 = .ok (.getfield 159, 3)) ∧ (decode cX8_round 67 = .ok (.invokevirtual 191, 3)) ∧ (decode cX8_round 70 = .ok (.lastore, 1)) := by decide +kernel
theorem dX8_round_59 : decode cX8_round 59 = .ok (.iload_n 1, 1) := dX8_round_k101.1
theorem dX8_round_60 : decode cX8_round 60 = .ok (.aload_n 0, 1) := dX8_round_k101.2.1
theorem dX8_round_61 : decode cX8_round 61 = .ok (.getfield 34, 3) := dX8_round_k101.2.2.1
theorem dX8_round_64 : decode cX8_round 64 = .ok (.getfield 159, 3) := dX8_round_k101.2.2.2.1
theorem dX8_round_67 : decode cX8_round 67 = .ok (.invokevirtual 191, 3) := dX8_round_k101.2.2.2.2.1
theorem dX8_round_70 : decode cX8_round 70 = .ok (.lastore, 1) := dX8_round_k101.2.2.2.2.2
set_option maxRecDepth 100000 in
theorem dX8_round_k102 : (decode cX8_round 71 = .ok (.iconst 0, 1)) ∧ (decode cX8_round 72 = .ok (.istore_n 2, 1)) ∧ (decode cX8_round 73 = .ok (.iload_n 2, 1)) ∧ (decode cX8_round 74 = .ok (.iload_n 1, 1)) ∧ (decode cX8_round 75 = .ok (.if_icmp .ge 29, 3)) ∧ (decode cX8_round 78 = .ok (.aload_n 0, 1)) := by decide +kernel
theorem dX8_round_71 : decode cX8_round 71 = .ok (.iconst 0, 1) := dX8_round_k102.1
theorem dX8_round_72 : decode cX8_round 72 = .ok (.istore_n 2, 1) := dX8_round_k102.2.1
theorem dX8_round_73 : decode cX8_round 73 = .ok (.iload_n 2, 1) := dX8_round_k102.2.2.1
theorem dX8_round_74 : decode cX8_round 74 = .ok (.iload_n 1, 1) := dX8_round_k102.2.2.2.1
theorem dX8_round_75 : decode cX8_round 75 = .ok (.if_icmp .ge 29, 3) := dX8_round_k102.2.2.2.2.1
theorem dX8_round_78 : decode cX8_round 78 = .ok (.aload_n 0, 1) := dX8_round_k102.2.2.2.2.2
set_option maxRecDepth 100000 in
theorem dX8_round_k103 : (decode cX8_round 79 = .ok (.getfield 73, 3)) ∧ (decode cX8_round 82 = .ok (.iload_n 2, 1)) ∧ (decode cX8_round 83 = .ok (.laload, 1)) ∧ (decode cX8_round 84 = .ok (.aload_n 0, 1)) ∧ (decode cX8_round 85 = .ok (.getfield 73, 3)) ∧ (decode cX8_round 88 = .ok (.iload_n 1, 1)) := by decide +kernel
theorem dX8_round_79 : decode cX8_round 79 = .ok (.getfield 73, 3) := dX8_round_k103.1
theorem dX8_round_82 : decode cX8_round 82 = .ok (.iload_n 2, 1) := dX8_round_k103.2.1
theorem dX8_round_83 : decode cX8_round 83 = .ok (.laload, 1) := dX8_round_k103.2.2.1
theorem dX8_round_84 : decode cX8_round 84 = .ok (.aload_n 0, 1) := dX8_round_k103.2.2.2.1
theorem dX8_round_85 : decode cX8_round 85 = .ok (.getfield 73, 3) := dX8_round_k103.2.2.2.2.1
theorem dX8_round_88 : decode cX8_round 88 = .ok (.iload_n 1, 1) := dX8_round_k103.2.2.2.2.2
set_option maxRecDepth 100000 in
theorem dX8_round_k104 : (decode cX8_round 89 = .ok (.laload, 1)) ∧ (decode cX8_round 90 = .ok (.lcmp, 1)) ∧ (decode cX8_round 91 = .ok (.ifCond .ne 7, 3)) ∧ (decode cX8_round 94 = .ok (.iload_n 1, 1)) ∧ (decode cX8_round 95 = .ok (.iload_n 2, 1)) ∧ (decode cX8_round 96 = .ok (.isub, 1)) := by decide +kernel
theorem dX8_round_89 : decode cX8_round 89 = .ok (.laload, 1) := dX8_round_k104.1
theorem dX8_round_90 : decode cX8_round 90 = .ok (.lcmp, 1) := dX8_round_k104.2.1
theorem dX8_round_91 : decode cX8_round 91 = .ok (.ifCond .ne 7, 3) := dX8_round_k104.2.2.1
theorem dX8_round_94 : decode cX8_round 94 = .ok (.iload_n 1, 1) := dX8_round_k104.2.2.2.1
theorem dX8_round_95 : decode cX8_round 95 = .ok (.iload_n 2, 1) := dX8_round_k104.2.2.2.2.1
theorem dX8_round_96 : decode cX8_round 96 = .ok (.isub, 1) := dX8_round_k104.2.2.2.2.2
set_option maxRecDepth 100000 in
theorem dX8_round_k105 : (decode cX8_round 97 = .ok (.ireturn, 1)) ∧ (decode cX8_round 98 = .ok (.iinc 2 1, 3)) ∧ (decode cX8_round 101 = .ok (.goto (-28), 3)) ∧ (decode cX8_round 104 = .ok (.iinc 1 1, 3)) ∧ (decode cX8_round 107 = .ok (.goto (-66), 3)) ∧ (decode cX8_round 110 = .ok (.bipush (-6), 2)) := by decide +kernel
theorem dX8_round_97 : decode cX8_round 97 = .ok (.ireturn, 1) := dX8_round_k105.1
theorem dX8_round_98 : decode cX8_round 98 = .ok (.iinc 2 1, 3) := dX8_round_k105.2.1
theorem dX8_round_101 : decode cX8_round 101 = .ok (.goto (-28), 3) := dX8_round_k105.2.2.1
theorem dX8_round_104 : decode cX8_round 104 = .ok (.iinc 1 1, 3) := dX8_round_k105.2.2.2.1
theorem dX8_round_107 : decode cX8_round 107 = .ok (.goto (-66), 3) := dX8_round_k105.2.2.2.2.1
theorem dX8_round_110 : decode cX8_round 110 = .ok (.bipush (-6), 2) := dX8_round_k105.2.2.2.2.2
theorem dX8_round_112 : decode cX8_round 112 = .ok (.ireturn, 1) := by decide +kernel
set_option maxRecDepth 100000 in
theorem dX8_throng_k106 : (decode cX8_throng 0 = .ok (.iload_n 1, 1)) ∧ (decode cX8_throng 1 = .ok (.iconst 1, 1)) ∧ (decode cX8_throng 2 = .ok (.if_icmp .lt 9, 3)) ∧ (decode cX8_throng 5 = .ok (.iload_n 1, 1)) ∧ (decode cX8_throng 6 = .ok (.bipush 99, 2)) ∧ (decode cX8_throng 8 = .ok (.if_icmp .le 6, 3)) := by decide +kernel
theorem dX8_throng_0 : decode cX8_throng 0 = .ok (.iload_n 1, 1) := dX8_throng_k106.1
theorem dX8_throng_1 : decode cX8_throng 1 = .ok (.iconst 1, 1) := dX8_throng_k106.2.1
theorem dX8_throng_2 : decode cX8_throng 2 = .ok (.if_icmp .lt 9, 3) := dX8_throng_k106.2.2.1
theorem dX8_throng_5 : decode cX8_throng 5 = .ok (.iload_n 1, 1) := dX8_throng_k106.2.2.2.1
theorem dX8_throng_6 : decode cX8_throng 6 = .ok (.bipush 99, 2) := dX8_throng_k106.2.2.2.2.1
theorem dX8_throng_8 : decode cX8_throng 8 = .ok (.if_icmp .le 6, 3) := dX8_throng_k106.2.2.2.2.2
set_option maxRecDepth 100000 in
theorem dX8_throng_k107 : (decode cX8_throng 11 = .ok (.bipush (-2), 2)) ∧ (decode cX8_throng 13 = .ok (.ireturn, 1)) ∧ (decode cX8_throng 14 = .ok (.aload_n 0, 1)) ∧ (decode cX8_throng 15 = .ok (.getfield 34, 3)) ∧ (decode cX8_throng 18 = .ok (.aload_n 0, 1)) ∧ (decode cX8_throng 19 = .ok (.getfield 10, 3)) := by decide +kernel
theorem dX8_throng_11 : decode cX8_throng 11 = .ok (.bipush (-2), 2) := dX8_throng_k107.1
theorem dX8_throng_13 : decode cX8_throng 13 = .ok (.ireturn, 1) := dX8_throng_k107.2.1
theorem dX8_throng_14 : decode cX8_throng 14 = .ok (.aload_n 0, 1) := dX8_throng_k107.2.2.1
theorem dX8_throng_15 : decode cX8_throng 15 = .ok (.getfield 34, 3) := dX8_throng_k107.2.2.2.1
theorem dX8_throng_18 : decode cX8_throng 18 = .ok (.aload_n 0, 1) := dX8_throng_k107.2.2.2.2.1
theorem dX8_throng_19 : decode cX8_throng 19 = .ok (.getfield 10, 3) := dX8_throng_k107.2.2.2.2.2
set_option maxRecDepth 100000 in
theorem dX8_throng_k108 : (decode cX8_throng 22 = .ok (.invokevirtual 175, 3)) ∧ (decode cX8_throng 25 = .ok (.iconst 0, 1)) ∧ (decode cX8_throng 26 = .ok (.istore_n 2, 1)) ∧ (decode cX8_throng 27 = .ok (.iconst 0, 1)) ∧ (decode cX8_throng 28 = .ok (.istore_n 3, 1)) ∧ (decode cX8_throng 29 = .ok (.iload_n 3, 1)) := by decide +kernel
theorem dX8_throng_22 : decode cX8_throng 22 = .ok (.invokevirtual 175, 3) := dX8_throng_k108.1
theorem dX8_throng_25 : decode cX8_throng 25 = .ok (.iconst 0, 1) := dX8_throng_k108.2.1
theorem dX8_throng_26 : decode cX8_throng 26 = .ok (.istore_n 2, 1) := dX8_throng_k108.2.2.1
theorem dX8_throng_27 : decode cX8_throng 27 = .ok (.iconst 0, 1) := dX8_throng_k108.2.2.2.1
theorem dX8_throng_28 : decode cX8_throng 28 = .ok (.istore_n 3, 1) := dX8_throng_k108.2.2.2.2.1
theorem dX8_throng_29 : decode cX8_throng 29 = .ok (.iload_n 3, 1) := dX8_throng_k108.2.2.2.2.2
set_option maxRecDepth 100000 in
theorem dX8_throng_k109 : (decode cX8_throng 30 = .ok (.iload_n 1, 1)) ∧ (decode cX8_throng 31 = .ok (.if_icmp .ge 29, 3)) ∧ (decode cX8_throng 34 = .ok (.aload_n 0, 1)) ∧ (decode cX8_throng 35 = .ok (.getfield 34, 3)) ∧ (decode cX8_throng 38 = .ok (.invokevirtual 195, 3)) ∧ (decode cX8_throng 41 = .ok (.pop, 1)) := by decide +kernel
theorem dX8_throng_30 : decode cX8_throng 30 = .ok (.iload_n 1, 1) := dX8_throng_k109.1
theorem dX8_throng_31 : decode cX8_throng 31 = .ok (.if_icmp .ge 29, 3) := dX8_throng_k109.2.1
theorem dX8_throng_34 : decode cX8_throng 34 = .ok (.aload_n 0, 1) := dX8_throng_k109.2.2.1
theorem dX8_throng_35 : decode cX8_throng 35 = .ok (.getfield 34, 3) := dX8_throng_k109.2.2.2.1
theorem dX8_throng_38 : decode cX8_throng 38 = .ok (.invokevirtual 195, 3) := dX8_throng_k109.2.2.2.2.1
theorem dX8_throng_41 : decode cX8_throng 41 = .ok (.pop, 1) := dX8_throng_k109.2.2.2.2.2
set_option maxRecDepth 100000 in
theorem dX8_throng_k110 : (decode cX8_throng 42 = .ok (.iload_n 2, 1)) ∧ (decode cX8_throng 43 = .ok (.aload_n 0, 1)) ∧ (decode cX8_throng 44 = .ok (.getfield 34, 3)) ∧ (decode cX8_throng 47 = .ok (.invokevirtual 198, 3)) ∧ (decode cX8_throng 50 = .ok (.invokestatic 201, 3)) ∧ (decode cX8_throng 53 = .ok (.istore_n 2, 1)) := by decide +kernel
theorem dX8_throng_42 : decode cX8_throng 42 = .ok (.iload_n 2, 1) := dX8_throng_k110.1
theorem dX8_throng_43 : decode cX8_throng 43 = .ok (.aload_n 0, 1) := dX8_throng_k110.2.1
theorem dX8_throng_44 : decode cX8_throng 44 = .ok (.getfield 34, 3) := dX8_throng_k110.2.2.1
theorem dX8_throng_47 : decode cX8_throng 47 = .ok (.invokevirtual 198, 3) := dX8_throng_k110.2.2.2.1
theorem dX8_throng_50 : decode cX8_throng 50 = .ok (.invokestatic 201, 3) := dX8_throng_k110.2.2.2.2.1
theorem dX8_throng_53 : decode cX8_throng 53 = .ok (.istore_n 2, 1) := dX8_throng_k110.2.2.2.2.2
set_option maxRecDepth 100000 in
theorem dX8_throng_k111 : (decode cX8_throng 54 = .ok (.iinc 3 1, 3)) ∧ (decode cX8_throng 57 = .ok (.goto (-28), 3)) ∧ (decode cX8_throng 60 = .ok (.iload_n 2, 1)) ∧ (decode cX8_throng 61 = .ok (.ireturn, 1)) := by decide +kernel
theorem dX8_throng_54 : decode cX8_throng 54 = .ok (.iinc 3 1, 3) := dX8_throng_k111.1
theorem dX8_throng_57 : decode cX8_throng 57 = .ok (.goto (-28), 3) := dX8_throng_k111.2.1
theorem dX8_throng_60 : decode cX8_throng 60 = .ok (.iload_n 2, 1) := dX8_throng_k111.2.2.1
theorem dX8_throng_61 : decode cX8_throng 61 = .ok (.ireturn, 1) := dX8_throng_k111.2.2.2
set_option maxRecDepth 100000 in
theorem dX8_carried_k112 : (decode cX8_carried 0 = .ok (.iload_n 1, 1)) ∧ (decode cX8_carried 1 = .ok (.ifCond .lt 18, 3)) ∧ (decode cX8_carried 4 = .ok (.iload_n 1, 1)) ∧ (decode cX8_carried 5 = .ok (.bipush 20, 2)) ∧ (decode cX8_carried 7 = .ok (.if_icmp .gt 12, 3)) ∧ (decode cX8_carried 10 = .ok (.iload_n 2, 1)) := by decide +kernel
theorem dX8_carried_0 : decode cX8_carried 0 = .ok (.iload_n 1, 1) := dX8_carried_k112.1
theorem dX8_carried_1 : decode cX8_carried 1 = .ok (.ifCond .lt 18, 3) := dX8_carried_k112.2.1
theorem dX8_carried_4 : decode cX8_carried 4 = .ok (.iload_n 1, 1) := dX8_carried_k112.2.2.1
theorem dX8_carried_5 : decode cX8_carried 5 = .ok (.bipush 20, 2) := dX8_carried_k112.2.2.2.1
theorem dX8_carried_7 : decode cX8_carried 7 = .ok (.if_icmp .gt 12, 3) := dX8_carried_k112.2.2.2.2.1
theorem dX8_carried_10 : decode cX8_carried 10 = .ok (.iload_n 2, 1) := dX8_carried_k112.2.2.2.2.2
set_option maxRecDepth 100000 in
theorem dX8_carried_k113 : (decode cX8_carried 11 = .ok (.ifCond .lt 8, 3)) ∧ (decode cX8_carried 14 = .ok (.iload_n 2, 1)) ∧ (decode cX8_carried 15 = .ok (.iconst 1, 1)) ∧ (decode cX8_carried 16 = .ok (.if_icmp .le 6, 3)) ∧ (decode cX8_carried 19 = .ok (.bipush (-2), 2)) ∧ (decode cX8_carried 21 = .ok (.ireturn, 1)) := by decide +kernel
theorem dX8_carried_11 : decode cX8_carried 11 = .ok (.ifCond .lt 8, 3) := dX8_carried_k113.1
theorem dX8_carried_14 : decode cX8_carried 14 = .ok (.iload_n 2, 1) := dX8_carried_k113.2.1
theorem dX8_carried_15 : decode cX8_carried 15 = .ok (.iconst 1, 1) := dX8_carried_k113.2.2.1
theorem dX8_carried_16 : decode cX8_carried 16 = .ok (.if_icmp .le 6, 3) := dX8_carried_k113.2.2.2.1
theorem dX8_carried_19 : decode cX8_carried 19 = .ok (.bipush (-2), 2) := dX8_carried_k113.2.2.2.2.1
theorem dX8_carried_21 : decode cX8_carried 21 = .ok (.ireturn, 1) := dX8_carried_k113.2.2.2.2.2
set_option maxRecDepth 100000 in
theorem dX8_carried_k114 : (decode cX8_carried 22 = .ok (.aload_n 0, 1)) ∧ (decode cX8_carried 23 = .ok (.iload_n 1, 1)) ∧ (decode cX8_carried 24 = .ok (.invokevirtual 206, 3)) ∧ (decode cX8_carried 27 = .ok (.istore_n 3, 1)) ∧ (decode cX8_carried 28 = .ok (.iconst 0, 1)) ∧ (decode cX8_carried 29 = .ok (.istore 4, 2)) := by decide +kernel
theorem dX8_carried_22 : decode cX8_carried 22 = .ok (.aload_n 0, 1) := dX8_carried_k114.1
theorem dX8_carried_23 : decode cX8_carried 23 = .ok (.iload_n 1, 1) := dX8_carried_k114.2.1
theorem dX8_carried_24 : decode cX8_carried 24 = .ok (.invokevirtual 206, 3) := dX8_carried_k114.2.2.1
theorem dX8_carried_27 : decode cX8_carried 27 = .ok (.istore_n 3, 1) := dX8_carried_k114.2.2.2.1
theorem dX8_carried_28 : decode cX8_carried 28 = .ok (.iconst 0, 1) := dX8_carried_k114.2.2.2.2.1
theorem dX8_carried_29 : decode cX8_carried 29 = .ok (.istore 4, 2) := dX8_carried_k114.2.2.2.2.2
set_option maxRecDepth 100000 in
theorem dX8_carried_k115 : (decode cX8_carried 31 = .ok (.iconst 0, 1)) ∧ (decode cX8_carried 32 = .ok (.istore 5, 2)) ∧ (decode cX8_carried 34 = .ok (.iload 5, 2)) ∧ (decode cX8_carried 36 = .ok (.sipush 144, 3)) ∧ (decode cX8_carried 39 = .ok (.if_icmp .ge 127, 3)) ∧ (decode cX8_carried 42 = .ok (.iload 5, 2)) := by decide +kernel
theorem dX8_carried_31 : decode cX8_carried 31 = .ok (.iconst 0, 1) := dX8_carried_k115.1
theorem dX8_carried_32 : decode cX8_carried 32 = .ok (.istore 5, 2) := dX8_carried_k115.2.1
theorem dX8_carried_34 : decode cX8_carried 34 = .ok (.iload 5, 2) := dX8_carried_k115.2.2.1
theorem dX8_carried_36 : decode cX8_carried 36 = .ok (.sipush 144, 3) := dX8_carried_k115.2.2.2.1
theorem dX8_carried_39 : decode cX8_carried 39 = .ok (.if_icmp .ge 127, 3) := dX8_carried_k115.2.2.2.2.1
theorem dX8_carried_42 : decode cX8_carried 42 = .ok (.iload 5, 2) := dX8_carried_k115.2.2.2.2.2
set_option maxRecDepth 100000 in
theorem dX8_carried_k116 : (decode cX8_carried 44 = .ok (.bipush 24, 2)) ∧ (decode cX8_carried 46 = .ok (.idiv, 1)) ∧ (decode cX8_carried 47 = .ok (.istore 6, 2)) ∧ (decode cX8_carried 49 = .ok (.iload 5, 2)) ∧ (decode cX8_carried 51 = .ok (.iconst 4, 1)) ∧ (decode cX8_carried 52 = .ok (.idiv, 1)) := by decide +kernel
theorem dX8_carried_44 : decode cX8_carried 44 = .ok (.bipush 24, 2) := dX8_carried_k116.1
theorem dX8_carried_46 : decode cX8_carried 46 = .ok (.idiv, 1) := dX8_carried_k116.2.1
theorem dX8_carried_47 : decode cX8_carried 47 = .ok (.istore 6, 2) := dX8_carried_k116.2.2.1
theorem dX8_carried_49 : decode cX8_carried 49 = .ok (.iload 5, 2) := dX8_carried_k116.2.2.2.1
theorem dX8_carried_51 : decode cX8_carried 51 = .ok (.iconst 4, 1) := dX8_carried_k116.2.2.2.2.1
theorem dX8_carried_52 : decode cX8_carried 52 = .ok (.idiv, 1) := dX8_carried_k116.2.2.2.2.2
set_option maxRecDepth 100000 in
theorem dX8_carried_k117 : (decode cX8_carried 53 = .ok (.bipush 6, 2)) ∧ (decode cX8_carried 55 = .ok (.irem, 1)) ∧ (decode cX8_carried 56 = .ok (.istore 7, 2)) ∧ (decode cX8_carried 58 = .ok (.iload 5, 2)) ∧ (decode cX8_carried 60 = .ok (.iconst 4, 1)) ∧ (decode cX8_carried 61 = .ok (.irem, 1)) := by decide +kernel
theorem dX8_carried_53 : decode cX8_carried 53 = .ok (.bipush 6, 2) := dX8_carried_k117.1
theorem dX8_carried_55 : decode cX8_carried 55 = .ok (.irem, 1) := dX8_carried_k117.2.1
theorem dX8_carried_56 : decode cX8_carried 56 = .ok (.istore 7, 2) := dX8_carried_k117.2.2.1
theorem dX8_carried_58 : decode cX8_carried 58 = .ok (.iload 5, 2) := dX8_carried_k117.2.2.2.1
theorem dX8_carried_60 : decode cX8_carried 60 = .ok (.iconst 4, 1) := dX8_carried_k117.2.2.2.2.1
theorem dX8_carried_61 : decode cX8_carried 61 = .ok (.irem, 1) := dX8_carried_k117.2.2.2.2.2
set_option maxRecDepth 100000 in
theorem dX8_carried_k118 : (decode cX8_carried 62 = .ok (.istore 8, 2)) ∧ (decode cX8_carried 64 = .ok (.aload_n 0, 1)) ∧ (decode cX8_carried 65 = .ok (.getfield 10, 3)) ∧ (decode cX8_carried 68 = .ok (.iload 6, 2)) ∧ (decode cX8_carried 70 = .ok (.invokevirtual 85, 3)) ∧ (decode cX8_carried 73 = .ok (.ifCond .eq 35, 3)) := by decide +kernel
theorem dX8_carried_62 : decode cX8_carried 62 = .ok (.istore 8, 2) := dX8_carried_k118.1
theorem dX8_carried_64 : decode cX8_carried 64 = .ok (.aload_n 0, 1) := dX8_carried_k118.2.1
theorem dX8_carried_65 : decode cX8_carried 65 = .ok (.getfield 10, 3) := dX8_carried_k118.2.2.1
theorem dX8_carried_68 : decode cX8_carried 68 = .ok (.iload 6, 2) := dX8_carried_k118.2.2.2.1
theorem dX8_carried_70 : decode cX8_carried 70 = .ok (.invokevirtual 85, 3) := dX8_carried_k118.2.2.2.2.1
theorem dX8_carried_73 : decode cX8_carried 73 = .ok (.ifCond .eq 35, 3) := dX8_carried_k118.2.2.2.2.2
set_option maxRecDepth 100000 in
theorem dX8_carried_k119 : (decode cX8_carried 76 = .ok (.aload_n 0, 1)) ∧ (decode cX8_carried 77 = .ok (.getfield 10, 3)) ∧ (decode cX8_carried 80 = .ok (.iload 7, 2)) ∧ (decode cX8_carried 82 = .ok (.invokevirtual 85, 3)) ∧ (decode cX8_carried 85 = .ok (.ifCond .eq 23, 3)) ∧ (decode cX8_carried 88 = .ok (.aload_n 0, 1)) := by decide +kernel
theorem dX8_carried_76 : decode cX8_carried 76 = .ok (.aload_n 0, 1) := dX8_carried_k119.1
theorem dX8_carried_77 : decode cX8_carried 77 = .ok (.getfield 10, 3) := dX8_carried_k119.2.1
theorem dX8_carried_80 : decode cX8_carried 80 = .ok (.iload 7, 2) := dX8_carried_k119.2.2.1
theorem dX8_carried_82 : decode cX8_carried 82 = .ok (.invokevirtual 85, 3) := dX8_carried_k119.2.2.2.1
theorem dX8_carried_85 : decode cX8_carried 85 = .ok (.ifCond .eq 23, 3) := dX8_carried_k119.2.2.2.2.1
theorem dX8_carried_88 : decode cX8_carried 88 = .ok (.aload_n 0, 1) := dX8_carried_k119.2.2.2.2.2
set_option maxRecDepth 100000 in
theorem dX8_carried_k120 : (decode cX8_carried 89 = .ok (.getfield 10, 3)) ∧ (decode cX8_carried 92 = .ok (.iload 6, 2)) ∧ (decode cX8_carried 94 = .ok (.iload 7, 2)) ∧ (decode cX8_carried 96 = .ok (.iload 8, 2)) ∧ (decode cX8_carried 98 = .ok (.invokevirtual 209, 3)) ∧ (decode cX8_carried 101 = .ok (.ifCond .ne 7, 3)) := by decide +kernel
theorem dX8_carried_89 : decode cX8_carried 89 = .ok (.getfield 10, 3) := dX8_carried_k120.1
theorem dX8_carried_92 : decode cX8_carried 92 = .ok (.iload 6, 2) := dX8_carried_k120.2.1
theorem dX8_carried_94 : decode cX8_carried 94 = .ok (.iload 7, 2) := dX8_carried_k120.2.2.1
theorem dX8_carried_96 : decode cX8_carried 96 = .ok (.iload 8, 2) := dX8_carried_k120.2.2.2.1
theorem dX8_carried_98 : decode cX8_carried 98 = .ok (.invokevirtual 209, 3) := dX8_carried_k120.2.2.2.2.1
theorem dX8_carried_101 : decode cX8_carried 101 = .ok (.ifCond .ne 7, 3) := dX8_carried_k120.2.2.2.2.2
set_option maxRecDepth 100000 in
theorem dX8_carried_k121 : (decode cX8_carried 104 = .ok (.iconst 1, 1)) ∧ (decode cX8_carried 105 = .ok (.goto 4, 3)) ∧ (decode cX8_carried 108 = .ok (.iconst 0, 1)) ∧ (decode cX8_carried 109 = .ok (.istore 9, 2)) ∧ (decode cX8_carried 111 = .ok (.iload 9, 2)) ∧ (decode cX8_carried 113 = .ok (.ifCond .eq 17, 3)) := by decide +kernel
theorem dX8_carried_104 : decode cX8_carried 104 = .ok (.iconst 1, 1) := dX8_carried_k121.1
theorem dX8_carried_105 : decode cX8_carried 105 = .ok (.goto 4, 3) := dX8_carried_k121.2.1
theorem dX8_carried_108 : decode cX8_carried 108 = .ok (.iconst 0, 1) := dX8_carried_k121.2.2.1
theorem dX8_carried_109 : decode cX8_carried 109 = .ok (.istore 9, 2) := dX8_carried_k121.2.2.2.1
theorem dX8_carried_111 : decode cX8_carried 111 = .ok (.iload 9, 2) := dX8_carried_k121.2.2.2.2.1
theorem dX8_carried_113 : decode cX8_carried 113 = .ok (.ifCond .eq 17, 3) := dX8_carried_k121.2.2.2.2.2
set_option maxRecDepth 100000 in
theorem dX8_carried_k122 : (decode cX8_carried 116 = .ok (.aload_n 0, 1)) ∧ (decode cX8_carried 117 = .ok (.iload 6, 2)) ∧ (decode cX8_carried 119 = .ok (.iload 7, 2)) ∧ (decode cX8_carried 121 = .ok (.iload 8, 2)) ∧ (decode cX8_carried 123 = .ok (.iload_n 1, 1)) ∧ (decode cX8_carried 124 = .ok (.invokevirtual 213, 3)) := by decide +kernel
theorem dX8_carried_116 : decode cX8_carried 116 = .ok (.aload_n 0, 1) := dX8_carried_k122.1
theorem dX8_carried_117 : decode cX8_carried 117 = .ok (.iload 6, 2) := dX8_carried_k122.2.1
theorem dX8_carried_119 : decode cX8_carried 119 = .ok (.iload 7, 2) := dX8_carried_k122.2.2.1
theorem dX8_carried_121 : decode cX8_carried 121 = .ok (.iload 8, 2) := dX8_carried_k122.2.2.2.1
theorem dX8_carried_123 : decode cX8_carried 123 = .ok (.iload_n 1, 1) := dX8_carried_k122.2.2.2.2.1
theorem dX8_carried_124 : decode cX8_carried 124 = .ok (.invokevirtual 213, 3) := dX8_carried_k122.2.2.2.2.2
set_option maxRecDepth 100000 in
theorem dX8_carried_k123 : (decode cX8_carried 127 = .ok (.goto 4, 3)) ∧ (decode cX8_carried 130 = .ok (.iload_n 3, 1)) ∧ (decode cX8_carried 131 = .ok (.istore 10, 2)) ∧ (decode cX8_carried 133 = .ok (.iload 10, 2)) ∧ (decode cX8_carried 135 = .ok (.iload_n 3, 1)) ∧ (decode cX8_carried 136 = .ok (.if_icmp .ge 24, 3)) := by decide +kernel
theorem dX8_carried_127 : decode cX8_carried 127 = .ok (.goto 4, 3) := dX8_carried_k123.1
theorem dX8_carried_130 : decode cX8_carried 130 = .ok (.iload_n 3, 1) := dX8_carried_k123.2.1
theorem dX8_carried_131 : decode cX8_carried 131 = .ok (.istore 10, 2) := dX8_carried_k123.2.2.1
theorem dX8_carried_133 : decode cX8_carried 133 = .ok (.iload 10, 2) := dX8_carried_k123.2.2.2.1
theorem dX8_carried_135 : decode cX8_carried 135 = .ok (.iload_n 3, 1) := dX8_carried_k123.2.2.2.2.1
theorem dX8_carried_136 : decode cX8_carried 136 = .ok (.if_icmp .ge 24, 3) := dX8_carried_k123.2.2.2.2.2
set_option maxRecDepth 100000 in
theorem dX8_carried_k124 : (decode cX8_carried 139 = .ok (.iload 10, 2)) ∧ (decode cX8_carried 141 = .ok (.istore_n 3, 1)) ∧ (decode cX8_carried 142 = .ok (.bipush 100, 2)) ∧ (decode cX8_carried 144 = .ok (.iload 6, 2)) ∧ (decode cX8_carried 146 = .ok (.iconst 1, 1)) ∧ (decode cX8_carried 147 = .ok (.iadd, 1)) := by decide +kernel
theorem dX8_carried_139 : decode cX8_carried 139 = .ok (.iload 10, 2) := dX8_carried_k124.1
theorem dX8_carried_141 : decode cX8_carried 141 = .ok (.istore_n 3, 1) := dX8_carried_k124.2.1
theorem dX8_carried_142 : decode cX8_carried 142 = .ok (.bipush 100, 2) := dX8_carried_k124.2.2.1
theorem dX8_carried_144 : decode cX8_carried 144 = .ok (.iload 6, 2) := dX8_carried_k124.2.2.2.1
theorem dX8_carried_146 : decode cX8_carried 146 = .ok (.iconst 1, 1) := dX8_carried_k124.2.2.2.2.1
theorem dX8_carried_147 : decode cX8_carried 147 = .ok (.iadd, 1) := dX8_carried_k124.2.2.2.2.2
set_option maxRecDepth 100000 in
theorem dX8_carried_k125 : (decode cX8_carried 148 = .ok (.imul, 1)) ∧ (decode cX8_carried 149 = .ok (.bipush 10, 2)) ∧ (decode cX8_carried 151 = .ok (.iload 7, 2)) ∧ (decode cX8_carried 153 = .ok (.imul, 1)) ∧ (decode cX8_carried 154 = .ok (.iadd, 1)) ∧ (decode cX8_carried 155 = .ok (.iload 8, 2)) := by decide +kernel
theorem dX8_carried_148 : decode cX8_carried 148 = .ok (.imul, 1) := dX8_carried_k125.1
theorem dX8_carried_149 : decode cX8_carried 149 = .ok (.bipush 10, 2) := dX8_carried_k125.2.1
theorem dX8_carried_151 : decode cX8_carried 151 = .ok (.iload 7, 2) := dX8_carried_k125.2.2.1
theorem dX8_carried_153 : decode cX8_carried 153 = .ok (.imul, 1) := dX8_carried_k125.2.2.2.1
theorem dX8_carried_154 : decode cX8_carried 154 = .ok (.iadd, 1) := dX8_carried_k125.2.2.2.2.1
theorem dX8_carried_155 : decode cX8_carried 155 = .ok (.iload 8, 2) := dX8_carried_k125.2.2.2.2.2
set_option maxRecDepth 100000 in
theorem dX8_carried_k126 : (decode cX8_carried 157 = .ok (.iadd, 1)) ∧ (decode cX8_carried 158 = .ok (.istore 4, 2)) ∧ (decode cX8_carried 160 = .ok (.iinc 5 1, 3)) ∧ (decode cX8_carried 163 = .ok (.goto (-129), 3)) ∧ (decode cX8_carried 166 = .ok (.iload_n 2, 1)) ∧ (decode cX8_carried 167 = .ok (.ifCond .ne 7, 3)) := by decide +kernel
theorem dX8_carried_157 : decode cX8_carried 157 = .ok (.iadd, 1) := dX8_carried_k126.1
theorem dX8_carried_158 : decode cX8_carried 158 = .ok (.istore 4, 2) := dX8_carried_k126.2.1
theorem dX8_carried_160 : decode cX8_carried 160 = .ok (.iinc 5 1, 3) := dX8_carried_k126.2.2.1
theorem dX8_carried_163 : decode cX8_carried 163 = .ok (.goto (-129), 3) := dX8_carried_k126.2.2.2.1
theorem dX8_carried_166 : decode cX8_carried 166 = .ok (.iload_n 2, 1) := dX8_carried_k126.2.2.2.2.1
theorem dX8_carried_167 : decode cX8_carried 167 = .ok (.ifCond .ne 7, 3) := dX8_carried_k126.2.2.2.2.2
set_option maxRecDepth 100000 in
theorem dX8_carried_k127 : (decode cX8_carried 170 = .ok (.iload_n 3, 1)) ∧ (decode cX8_carried 171 = .ok (.goto 5, 3)) ∧ (decode cX8_carried 174 = .ok (.iload 4, 2)) ∧ (decode cX8_carried 176 = .ok (.ireturn, 1)) := by decide +kernel
theorem dX8_carried_170 : decode cX8_carried 170 = .ok (.iload_n 3, 1) := dX8_carried_k127.1
theorem dX8_carried_171 : decode cX8_carried 171 = .ok (.goto 5, 3) := dX8_carried_k127.2.1
theorem dX8_carried_174 : decode cX8_carried 174 = .ok (.iload 4, 2) := dX8_carried_k127.2.2.1
theorem dX8_carried_176 : decode cX8_carried 176 = .ok (.ireturn, 1) := dX8_carried_k127.2.2.2
set_option maxRecDepth 100000 in
theorem dX8_hinges_k128 : (decode cX8_hinges 0 = .ok (.iload_n 1, 1)) ∧ (decode cX8_hinges 1 = .ok (.ifCond .lt 18, 3)) ∧ (decode cX8_hinges 4 = .ok (.iload_n 1, 1)) ∧ (decode cX8_hinges 5 = .ok (.bipush 20, 2)) ∧ (decode cX8_hinges 7 = .ok (.if_icmp .gt 12, 3)) ∧ (decode cX8_hinges 10 = .ok (.iload_n 2, 1)) := by decide +kernel
theorem dX8_hinges_0 : decode cX8_hinges 0 = .ok (.iload_n 1, 1) := dX8_hinges_k128.1
theorem dX8_hinges_1 : decode cX8_hinges 1 = .ok (.ifCond .lt 18, 3) := dX8_hinges_k128.2.1
theorem dX8_hinges_4 : decode cX8_hinges 4 = .ok (.iload_n 1, 1) := dX8_hinges_k128.2.2.1
theorem dX8_hinges_5 : decode cX8_hinges 5 = .ok (.bipush 20, 2) := dX8_hinges_k128.2.2.2.1
theorem dX8_hinges_7 : decode cX8_hinges 7 = .ok (.if_icmp .gt 12, 3) := dX8_hinges_k128.2.2.2.2.1
theorem dX8_hinges_10 : decode cX8_hinges 10 = .ok (.iload_n 2, 1) := dX8_hinges_k128.2.2.2.2.2
set_option maxRecDepth 100000 in
theorem dX8_hinges_k129 : (decode cX8_hinges 11 = .ok (.ifCond .lt 8, 3)) ∧ (decode cX8_hinges 14 = .ok (.iload_n 2, 1)) ∧ (decode cX8_hinges 15 = .ok (.iconst 1, 1)) ∧ (decode cX8_hinges 16 = .ok (.if_icmp .le 6, 3)) ∧ (decode cX8_hinges 19 = .ok (.bipush (-2), 2)) ∧ (decode cX8_hinges 21 = .ok (.ireturn, 1)) := by decide +kernel
theorem dX8_hinges_11 : decode cX8_hinges 11 = .ok (.ifCond .lt 8, 3) := dX8_hinges_k129.1
theorem dX8_hinges_14 : decode cX8_hinges 14 = .ok (.iload_n 2, 1) := dX8_hinges_k129.2.1
theorem dX8_hinges_15 : decode cX8_hinges 15 = .ok (.iconst 1, 1) := dX8_hinges_k129.2.2.1
theorem dX8_hinges_16 : decode cX8_hinges 16 = .ok (.if_icmp .le 6, 3) := dX8_hinges_k129.2.2.2.1
theorem dX8_hinges_19 : decode cX8_hinges 19 = .ok (.bipush (-2), 2) := dX8_hinges_k129.2.2.2.2.1
theorem dX8_hinges_21 : decode cX8_hinges 21 = .ok (.ireturn, 1) := dX8_hinges_k129.2.2.2.2.2
set_option maxRecDepth 100000 in
theorem dX8_hinges_k130 : (decode cX8_hinges 22 = .ok (.aload_n 0, 1)) ∧ (decode cX8_hinges 23 = .ok (.iload_n 1, 1)) ∧ (decode cX8_hinges 24 = .ok (.invokevirtual 206, 3)) ∧ (decode cX8_hinges 27 = .ok (.istore_n 3, 1)) ∧ (decode cX8_hinges 28 = .ok (.bipush (-6), 2)) ∧ (decode cX8_hinges 30 = .ok (.istore 4, 2)) := by decide +kernel
theorem dX8_hinges_22 : decode cX8_hinges 22 = .ok (.aload_n 0, 1) := dX8_hinges_k130.1
theorem dX8_hinges_23 : decode cX8_hinges 23 = .ok (.iload_n 1, 1) := dX8_hinges_k130.2.1
theorem dX8_hinges_24 : decode cX8_hinges 24 = .ok (.invokevirtual 206, 3) := dX8_hinges_k130.2.2.1
theorem dX8_hinges_27 : decode cX8_hinges 27 = .ok (.istore_n 3, 1) := dX8_hinges_k130.2.2.2.1
theorem dX8_hinges_28 : decode cX8_hinges 28 = .ok (.bipush (-6), 2) := dX8_hinges_k130.2.2.2.2.1
theorem dX8_hinges_30 : decode cX8_hinges 30 = .ok (.istore 4, 2) := dX8_hinges_k130.2.2.2.2.2
set_option maxRecDepth 100000 in
theorem dX8_hinges_k131 : (decode cX8_hinges 32 = .ok (.iconst 0, 1)) ∧ (decode cX8_hinges 33 = .ok (.istore 5, 2)) ∧ (decode cX8_hinges 35 = .ok (.iload 5, 2)) ∧ (decode cX8_hinges 37 = .ok (.aload_n 0, 1)) ∧ (decode cX8_hinges 38 = .ok (.getfield 10, 3)) ∧ (decode cX8_hinges 41 = .ok (.getfield 81, 3)) := by decide +kernel
theorem dX8_hinges_32 : decode cX8_hinges 32 = .ok (.iconst 0, 1) := dX8_hinges_k131.1
theorem dX8_hinges_33 : decode cX8_hinges 33 = .ok (.istore 5, 2) := dX8_hinges_k131.2.1
theorem dX8_hinges_35 : decode cX8_hinges 35 = .ok (.iload 5, 2) := dX8_hinges_k131.2.2.1
theorem dX8_hinges_37 : decode cX8_hinges 37 = .ok (.aload_n 0, 1) := dX8_hinges_k131.2.2.2.1
theorem dX8_hinges_38 : decode cX8_hinges 38 = .ok (.getfield 10, 3) := dX8_hinges_k131.2.2.2.2.1
theorem dX8_hinges_41 : decode cX8_hinges 41 = .ok (.getfield 81, 3) := dX8_hinges_k131.2.2.2.2.2
set_option maxRecDepth 100000 in
theorem dX8_hinges_k132 : (decode cX8_hinges 44 = .ok (.if_icmp .ge 81, 3)) ∧ (decode cX8_hinges 47 = .ok (.iload 5, 2)) ∧ (decode cX8_hinges 49 = .ok (.iconst 1, 1)) ∧ (decode cX8_hinges 50 = .ok (.iadd, 1)) ∧ (decode cX8_hinges 51 = .ok (.istore 6, 2)) ∧ (decode cX8_hinges 53 = .ok (.iload 6, 2)) := by decide +kernel
theorem dX8_hinges_44 : decode cX8_hinges 44 = .ok (.if_icmp .ge 81, 3) := dX8_hinges_k132.1
theorem dX8_hinges_47 : decode cX8_hinges 47 = .ok (.iload 5, 2) := dX8_hinges_k132.2.1
theorem dX8_hinges_49 : decode cX8_hinges 49 = .ok (.iconst 1, 1) := dX8_hinges_k132.2.2.1
theorem dX8_hinges_50 : decode cX8_hinges 50 = .ok (.iadd, 1) := dX8_hinges_k132.2.2.2.1
theorem dX8_hinges_51 : decode cX8_hinges 51 = .ok (.istore 6, 2) := dX8_hinges_k132.2.2.2.2.1
theorem dX8_hinges_53 : decode cX8_hinges 53 = .ok (.iload 6, 2) := dX8_hinges_k132.2.2.2.2.2
set_option maxRecDepth 100000 in
theorem dX8_hinges_k133 : (decode cX8_hinges 55 = .ok (.aload_n 0, 1)) ∧ (decode cX8_hinges 56 = .ok (.getfield 10, 3)) ∧ (decode cX8_hinges 59 = .ok (.getfield 81, 3)) ∧ (decode cX8_hinges 62 = .ok (.if_icmp .ge 57, 3)) ∧ (decode cX8_hinges 65 = .ok (.aload_n 0, 1)) ∧ (decode cX8_hinges 66 = .ok (.getfield 10, 3)) := by decide +kernel
theorem dX8_hinges_55 : decode cX8_hinges 55 = .ok (.aload_n 0, 1) := dX8_hinges_k133.1
theorem dX8_hinges_56 : decode cX8_hinges 56 = .ok (.getfield 10, 3) := dX8_hinges_k133.2.1
theorem dX8_hinges_59 : decode cX8_hinges 59 = .ok (.getfield 81, 3) := dX8_hinges_k133.2.2.1
theorem dX8_hinges_62 : decode cX8_hinges 62 = .ok (.if_icmp .ge 57, 3) := dX8_hinges_k133.2.2.2.1
theorem dX8_hinges_65 : decode cX8_hinges 65 = .ok (.aload_n 0, 1) := dX8_hinges_k133.2.2.2.2.1
theorem dX8_hinges_66 : decode cX8_hinges 66 = .ok (.getfield 10, 3) := dX8_hinges_k133.2.2.2.2.2
set_option maxRecDepth 100000 in
theorem dX8_hinges_k134 : (decode cX8_hinges 69 = .ok (.iload 5, 2)) ∧ (decode cX8_hinges 71 = .ok (.iload 6, 2)) ∧ (decode cX8_hinges 73 = .ok (.invokevirtual 104, 3)) ∧ (decode cX8_hinges 76 = .ok (.ifCond .le 15, 3)) ∧ (decode cX8_hinges 79 = .ok (.aload_n 0, 1)) ∧ (decode cX8_hinges 80 = .ok (.iload 5, 2)) := by decide +kernel
theorem dX8_hinges_69 : decode cX8_hinges 69 = .ok (.iload 5, 2) := dX8_hinges_k134.1
theorem dX8_hinges_71 : decode cX8_hinges 71 = .ok (.iload 6, 2) := dX8_hinges_k134.2.1
theorem dX8_hinges_73 : decode cX8_hinges 73 = .ok (.invokevirtual 104, 3) := dX8_hinges_k134.2.2.1
theorem dX8_hinges_76 : decode cX8_hinges 76 = .ok (.ifCond .le 15, 3) := dX8_hinges_k134.2.2.2.1
theorem dX8_hinges_79 : decode cX8_hinges 79 = .ok (.aload_n 0, 1) := dX8_hinges_k134.2.2.2.2.1
theorem dX8_hinges_80 : decode cX8_hinges 80 = .ok (.iload 5, 2) := dX8_hinges_k134.2.2.2.2.2
set_option maxRecDepth 100000 in
theorem dX8_hinges_k135 : (decode cX8_hinges 82 = .ok (.iload 6, 2)) ∧ (decode cX8_hinges 84 = .ok (.iload_n 1, 1)) ∧ (decode cX8_hinges 85 = .ok (.invokevirtual 217, 3)) ∧ (decode cX8_hinges 88 = .ok (.goto 4, 3)) ∧ (decode cX8_hinges 91 = .ok (.iload_n 3, 1)) ∧ (decode cX8_hinges 92 = .ok (.istore 7, 2)) := by decide +kernel
theorem dX8_hinges_82 : decode cX8_hinges 82 = .ok (.iload 6, 2) := dX8_hinges_k135.1
theorem dX8_hinges_84 : decode cX8_hinges 84 = .ok (.iload_n 1, 1) := dX8_hinges_k135.2.1
theorem dX8_hinges_85 : decode cX8_hinges 85 = .ok (.invokevirtual 217, 3) := dX8_hinges_k135.2.2.1
theorem dX8_hinges_88 : decode cX8_hinges 88 = .ok (.goto 4, 3) := dX8_hinges_k135.2.2.2.1
theorem dX8_hinges_91 : decode cX8_hinges 91 = .ok (.iload_n 3, 1) := dX8_hinges_k135.2.2.2.2.1
theorem dX8_hinges_92 : decode cX8_hinges 92 = .ok (.istore 7, 2) := dX8_hinges_k135.2.2.2.2.2
set_option maxRecDepth 100000 in
theorem dX8_hinges_k136 : (decode cX8_hinges 94 = .ok (.iload 7, 2)) ∧ (decode cX8_hinges 96 = .ok (.iload_n 3, 1)) ∧ (decode cX8_hinges 97 = .ok (.if_icmp .ge 16, 3)) ∧ (decode cX8_hinges 100 = .ok (.iload 7, 2)) ∧ (decode cX8_hinges 102 = .ok (.istore_n 3, 1)) ∧ (decode cX8_hinges 103 = .ok (.bipush 10, 2)) := by decide +kernel
theorem dX8_hinges_94 : decode cX8_hinges 94 = .ok (.iload 7, 2) := dX8_hinges_k136.1
theorem dX8_hinges_96 : decode cX8_hinges 96 = .ok (.iload_n 3, 1) := dX8_hinges_k136.2.1
theorem dX8_hinges_97 : decode cX8_hinges 97 = .ok (.if_icmp .ge 16, 3) := dX8_hinges_k136.2.2.1
theorem dX8_hinges_100 : decode cX8_hinges 100 = .ok (.iload 7, 2) := dX8_hinges_k136.2.2.2.1
theorem dX8_hinges_102 : decode cX8_hinges 102 = .ok (.istore_n 3, 1) := dX8_hinges_k136.2.2.2.2.1
theorem dX8_hinges_103 : decode cX8_hinges 103 = .ok (.bipush 10, 2) := dX8_hinges_k136.2.2.2.2.2
set_option maxRecDepth 100000 in
theorem dX8_hinges_k137 : (decode cX8_hinges 105 = .ok (.iload 5, 2)) ∧ (decode cX8_hinges 107 = .ok (.imul, 1)) ∧ (decode cX8_hinges 108 = .ok (.iload 6, 2)) ∧ (decode cX8_hinges 110 = .ok (.iadd, 1)) ∧ (decode cX8_hinges 111 = .ok (.istore 4, 2)) ∧ (decode cX8_hinges 113 = .ok (.iinc 6 1, 3)) := by decide +kernel
theorem dX8_hinges_105 : decode cX8_hinges 105 = .ok (.iload 5, 2) := dX8_hinges_k137.1
theorem dX8_hinges_107 : decode cX8_hinges 107 = .ok (.imul, 1) := dX8_hinges_k137.2.1
theorem dX8_hinges_108 : decode cX8_hinges 108 = .ok (.iload 6, 2) := dX8_hinges_k137.2.2.1
theorem dX8_hinges_110 : decode cX8_hinges 110 = .ok (.iadd, 1) := dX8_hinges_k137.2.2.2.1
theorem dX8_hinges_111 : decode cX8_hinges 111 = .ok (.istore 4, 2) := dX8_hinges_k137.2.2.2.2.1
theorem dX8_hinges_113 : decode cX8_hinges 113 = .ok (.iinc 6 1, 3) := dX8_hinges_k137.2.2.2.2.2
set_option maxRecDepth 100000 in
theorem dX8_hinges_k138 : (decode cX8_hinges 116 = .ok (.goto (-63), 3)) ∧ (decode cX8_hinges 119 = .ok (.iinc 5 1, 3)) ∧ (decode cX8_hinges 122 = .ok (.goto (-87), 3)) ∧ (decode cX8_hinges 125 = .ok (.iload_n 2, 1)) ∧ (decode cX8_hinges 126 = .ok (.ifCond .ne 7, 3)) ∧ (decode cX8_hinges 129 = .ok (.iload_n 3, 1)) := by decide +kernel
theorem dX8_hinges_116 : decode cX8_hinges 116 = .ok (.goto (-63), 3) := dX8_hinges_k138.1
theorem dX8_hinges_119 : decode cX8_hinges 119 = .ok (.iinc 5 1, 3) := dX8_hinges_k138.2.1
theorem dX8_hinges_122 : decode cX8_hinges 122 = .ok (.goto (-87), 3) := dX8_hinges_k138.2.2.1
theorem dX8_hinges_125 : decode cX8_hinges 125 = .ok (.iload_n 2, 1) := dX8_hinges_k138.2.2.2.1
theorem dX8_hinges_126 : decode cX8_hinges 126 = .ok (.ifCond .ne 7, 3) := dX8_hinges_k138.2.2.2.2.1
theorem dX8_hinges_129 : decode cX8_hinges 129 = .ok (.iload_n 3, 1) := dX8_hinges_k138.2.2.2.2.2
set_option maxRecDepth 100000 in
theorem dX8_hinges_k139 : (decode cX8_hinges 130 = .ok (.goto 5, 3)) ∧ (decode cX8_hinges 133 = .ok (.iload 4, 2)) ∧ (decode cX8_hinges 135 = .ok (.ireturn, 1)) := by decide +kernel
theorem dX8_hinges_130 : decode cX8_hinges 130 = .ok (.goto 5, 3) := dX8_hinges_k139.1
theorem dX8_hinges_133 : decode cX8_hinges 133 = .ok (.iload 4, 2) := dX8_hinges_k139.2.1
theorem dX8_hinges_135 : decode cX8_hinges 135 = .ok (.ireturn, 1) := dX8_hinges_k139.2.2
set_option maxRecDepth 100000 in
theorem dX8_best_k140 : (decode cX8_best 0 = .ok (.aload_n 0, 1)) ∧ (decode cX8_best 1 = .ok (.getfield 10, 3)) ∧ (decode cX8_best 4 = .ok (.iload_n 1, 1)) ∧ (decode cX8_best 5 = .ok (.invokevirtual 130, 3)) ∧ (decode cX8_best 8 = .ok (.ifCond .ne 5, 3)) ∧ (decode cX8_best 11 = .ok (.iconst (-1), 1)) := by decide +kernel
theorem dX8_best_0 : decode cX8_best 0 = .ok (.aload_n 0, 1) := dX8_best_k140.1
theorem dX8_best_1 : decode cX8_best 1 = .ok (.getfield 10, 3) := dX8_best_k140.2.1
theorem dX8_best_4 : decode cX8_best 4 = .ok (.iload_n 1, 1) := dX8_best_k140.2.2.1
theorem dX8_best_5 : decode cX8_best 5 = .ok (.invokevirtual 130, 3) := dX8_best_k140.2.2.2.1
theorem dX8_best_8 : decode cX8_best 8 = .ok (.ifCond .ne 5, 3) := dX8_best_k140.2.2.2.2.1
theorem dX8_best_11 : decode cX8_best 11 = .ok (.iconst (-1), 1) := dX8_best_k140.2.2.2.2.2
set_option maxRecDepth 100000 in
theorem dX8_best_k141 : (decode cX8_best 12 = .ok (.ireturn, 1)) ∧ (decode cX8_best 13 = .ok (.aload_n 0, 1)) ∧ (decode cX8_best 14 = .ok (.getfield 10, 3)) ∧ (decode cX8_best 17 = .ok (.getfield 122, 3)) ∧ (decode cX8_best 20 = .ok (.iload_n 1, 1)) ∧ (decode cX8_best 21 = .ok (.iaload, 1)) := by decide +kernel
theorem dX8_best_12 : decode cX8_best 12 = .ok (.ireturn, 1) := dX8_best_k141.1
theorem dX8_best_13 : decode cX8_best 13 = .ok (.aload_n 0, 1) := dX8_best_k141.2.1
theorem dX8_best_14 : decode cX8_best 14 = .ok (.getfield 10, 3) := dX8_best_k141.2.2.1
theorem dX8_best_17 : decode cX8_best 17 = .ok (.getfield 122, 3) := dX8_best_k141.2.2.2.1
theorem dX8_best_20 : decode cX8_best 20 = .ok (.iload_n 1, 1) := dX8_best_k141.2.2.2.2.1
theorem dX8_best_21 : decode cX8_best 21 = .ok (.iaload, 1) := dX8_best_k141.2.2.2.2.2
set_option maxRecDepth 100000 in
theorem dX8_best_k142 : (decode cX8_best 22 = .ok (.istore_n 2, 1)) ∧ (decode cX8_best 23 = .ok (.aload_n 0, 1)) ∧ (decode cX8_best 24 = .ok (.getfield 10, 3)) ∧ (decode cX8_best 27 = .ok (.iload_n 1, 1)) ∧ (decode cX8_best 28 = .ok (.iload_n 2, 1)) ∧ (decode cX8_best 29 = .ok (.invokevirtual 169, 3)) := by decide +kernel
theorem dX8_best_22 : decode cX8_best 22 = .ok (.istore_n 2, 1) := dX8_best_k142.1
theorem dX8_best_23 : decode cX8_best 23 = .ok (.aload_n 0, 1) := dX8_best_k142.2.1
theorem dX8_best_24 : decode cX8_best 24 = .ok (.getfield 10, 3) := dX8_best_k142.2.2.1
theorem dX8_best_27 : decode cX8_best 27 = .ok (.iload_n 1, 1) := dX8_best_k142.2.2.2.1
theorem dX8_best_28 : decode cX8_best 28 = .ok (.iload_n 2, 1) := dX8_best_k142.2.2.2.2.1
theorem dX8_best_29 : decode cX8_best 29 = .ok (.invokevirtual 169, 3) := dX8_best_k142.2.2.2.2.2
set_option maxRecDepth 100000 in
theorem dX8_best_k143 : (decode cX8_best 32 = .ok (.istore_n 3, 1)) ∧ (decode cX8_best 33 = .ok (.iconst 0, 1)) ∧ (decode cX8_best 34 = .ok (.istore 4, 2)) ∧ (decode cX8_best 36 = .ok (.iload 4, 2)) ∧ (decode cX8_best 38 = .ok (.aload_n 0, 1)) ∧ (decode cX8_best 39 = .ok (.getfield 10, 3)) := by decide +kernel
theorem dX8_best_32 : decode cX8_best 32 = .ok (.istore_n 3, 1) := dX8_best_k143.1
theorem dX8_best_33 : decode cX8_best 33 = .ok (.iconst 0, 1) := dX8_best_k143.2.1
theorem dX8_best_34 : decode cX8_best 34 = .ok (.istore 4, 2) := dX8_best_k143.2.2.1
theorem dX8_best_36 : decode cX8_best 36 = .ok (.iload 4, 2) := dX8_best_k143.2.2.2.1
theorem dX8_best_38 : decode cX8_best 38 = .ok (.aload_n 0, 1) := dX8_best_k143.2.2.2.2.1
theorem dX8_best_39 : decode cX8_best 39 = .ok (.getfield 10, 3) := dX8_best_k143.2.2.2.2.2
set_option maxRecDepth 100000 in
theorem dX8_best_k144 : (decode cX8_best 42 = .ok (.getfield 81, 3)) ∧ (decode cX8_best 45 = .ok (.if_icmp .ge 33, 3)) ∧ (decode cX8_best 48 = .ok (.aload_n 0, 1)) ∧ (decode cX8_best 49 = .ok (.getfield 10, 3)) ∧ (decode cX8_best 52 = .ok (.iload_n 1, 1)) ∧ (decode cX8_best 53 = .ok (.iload 4, 2)) := by decide +kernel
theorem dX8_best_42 : decode cX8_best 42 = .ok (.getfield 81, 3) := dX8_best_k144.1
theorem dX8_best_45 : decode cX8_best 45 = .ok (.if_icmp .ge 33, 3) := dX8_best_k144.2.1
theorem dX8_best_48 : decode cX8_best 48 = .ok (.aload_n 0, 1) := dX8_best_k144.2.2.1
theorem dX8_best_49 : decode cX8_best 49 = .ok (.getfield 10, 3) := dX8_best_k144.2.2.2.1
theorem dX8_best_52 : decode cX8_best 52 = .ok (.iload_n 1, 1) := dX8_best_k144.2.2.2.2.1
theorem dX8_best_53 : decode cX8_best 53 = .ok (.iload 4, 2) := dX8_best_k144.2.2.2.2.2
set_option maxRecDepth 100000 in
theorem dX8_best_k145 : (decode cX8_best 55 = .ok (.invokevirtual 169, 3)) ∧ (decode cX8_best 58 = .ok (.istore 5, 2)) ∧ (decode cX8_best 60 = .ok (.iload 5, 2)) ∧ (decode cX8_best 62 = .ok (.iload_n 3, 1)) ∧ (decode cX8_best 63 = .ok (.if_icmp .le 9, 3)) ∧ (decode cX8_best 66 = .ok (.iload 5, 2)) := by decide +kernel
theorem dX8_best_55 : decode cX8_best 55 = .ok (.invokevirtual 169, 3) := dX8_best_k145.1
theorem dX8_best_58 : decode cX8_best 58 = .ok (.istore 5, 2) := dX8_best_k145.2.1
theorem dX8_best_60 : decode cX8_best 60 = .ok (.iload 5, 2) := dX8_best_k145.2.2.1
theorem dX8_best_62 : decode cX8_best 62 = .ok (.iload_n 3, 1) := dX8_best_k145.2.2.2.1
theorem dX8_best_63 : decode cX8_best 63 = .ok (.if_icmp .le 9, 3) := dX8_best_k145.2.2.2.2.1
theorem dX8_best_66 : decode cX8_best 66 = .ok (.iload 5, 2) := dX8_best_k145.2.2.2.2.2
set_option maxRecDepth 100000 in
theorem dX8_best_k146 : (decode cX8_best 68 = .ok (.istore_n 3, 1)) ∧ (decode cX8_best 69 = .ok (.iload 4, 2)) ∧ (decode cX8_best 71 = .ok (.istore_n 2, 1)) ∧ (decode cX8_best 72 = .ok (.iinc 4 1, 3)) ∧ (decode cX8_best 75 = .ok (.goto (-39), 3)) ∧ (decode cX8_best 78 = .ok (.iload_n 2, 1)) := by decide +kernel
theorem dX8_best_68 : decode cX8_best 68 = .ok (.istore_n 3, 1) := dX8_best_k146.1
theorem dX8_best_69 : decode cX8_best 69 = .ok (.iload 4, 2) := dX8_best_k146.2.1
theorem dX8_best_71 : decode cX8_best 71 = .ok (.istore_n 2, 1) := dX8_best_k146.2.2.1
theorem dX8_best_72 : decode cX8_best 72 = .ok (.iinc 4 1, 3) := dX8_best_k146.2.2.2.1
theorem dX8_best_75 : decode cX8_best 75 = .ok (.goto (-39), 3) := dX8_best_k146.2.2.2.2.1
theorem dX8_best_78 : decode cX8_best 78 = .ok (.iload_n 2, 1) := dX8_best_k146.2.2.2.2.2
theorem dX8_best_79 : decode cX8_best 79 = .ok (.ireturn, 1) := by decide +kernel
set_option maxRecDepth 100000 in
theorem dX8_rests_k147 : (decode cX8_rests 0 = .ok (.iload_n 1, 1)) ∧ (decode cX8_rests 1 = .ok (.ifCond .lt 24, 3)) ∧ (decode cX8_rests 4 = .ok (.iload_n 1, 1)) ∧ (decode cX8_rests 5 = .ok (.sipush 255, 3)) ∧ (decode cX8_rests 8 = .ok (.if_icmp .gt 17, 3)) ∧ (decode cX8_rests 11 = .ok (.iload_n 1, 1)) := by decide +kernel
theorem dX8_rests_0 : decode cX8_rests 0 = .ok (.iload_n 1, 1) := dX8_rests_k147.1
theorem dX8_rests_1 : decode cX8_rests 1 = .ok (.ifCond .lt 24, 3) := dX8_rests_k147.2.1
theorem dX8_rests_4 : decode cX8_rests 4 = .ok (.iload_n 1, 1) := dX8_rests_k147.2.2.1
theorem dX8_rests_5 : decode cX8_rests 5 = .ok (.sipush 255, 3) := dX8_rests_k147.2.2.2.1
theorem dX8_rests_8 : decode cX8_rests 8 = .ok (.if_icmp .gt 17, 3) := dX8_rests_k147.2.2.2.2.1
theorem dX8_rests_11 : decode cX8_rests 11 = .ok (.iload_n 1, 1) := dX8_rests_k147.2.2.2.2.2
set_option maxRecDepth 100000 in
theorem dX8_rests_k148 : (decode cX8_rests 12 = .ok (.aload_n 0, 1)) ∧ (decode cX8_rests 13 = .ok (.getfield 10, 3)) ∧ (decode cX8_rests 16 = .ok (.getfield 119, 3)) ∧ (decode cX8_rests 19 = .ok (.iconst (-1), 1)) ∧ (decode cX8_rests 20 = .ok (.ixor, 1)) ∧ (decode cX8_rests 21 = .ok (.iand, 1)) := by decide +kernel
theorem dX8_rests_12 : decode cX8_rests 12 = .ok (.aload_n 0, 1) := dX8_rests_k148.1
theorem dX8_rests_13 : decode cX8_rests 13 = .ok (.getfield 10, 3) := dX8_rests_k148.2.1
theorem dX8_rests_16 : decode cX8_rests 16 = .ok (.getfield 119, 3) := dX8_rests_k148.2.2.1
theorem dX8_rests_19 : decode cX8_rests 19 = .ok (.iconst (-1), 1) := dX8_rests_k148.2.2.2.1
theorem dX8_rests_20 : decode cX8_rests 20 = .ok (.ixor, 1) := dX8_rests_k148.2.2.2.2.1
theorem dX8_rests_21 : decode cX8_rests 21 = .ok (.iand, 1) := dX8_rests_k148.2.2.2.2.2
set_option maxRecDepth 100000 in
theorem dX8_rests_k149 : (decode cX8_rests 22 = .ok (.ifCond .eq 6, 3)) ∧ (decode cX8_rests 25 = .ok (.bipush (-2), 2)) ∧ (decode cX8_rests 27 = .ok (.ireturn, 1)) ∧ (decode cX8_rests 28 = .ok (.iload_n 2, 1)) ∧ (decode cX8_rests 29 = .ok (.iconst (-1), 1)) ∧ (decode cX8_rests 30 = .ok (.if_icmp .eq 13, 3)) := by decide +kernel
theorem dX8_rests_22 : decode cX8_rests 22 = .ok (.ifCond .eq 6, 3) := dX8_rests_k149.1
theorem dX8_rests_25 : decode cX8_rests 25 = .ok (.bipush (-2), 2) := dX8_rests_k149.2.1
theorem dX8_rests_27 : decode cX8_rests 27 = .ok (.ireturn, 1) := dX8_rests_k149.2.2.1
theorem dX8_rests_28 : decode cX8_rests 28 = .ok (.iload_n 2, 1) := dX8_rests_k149.2.2.2.1
theorem dX8_rests_29 : decode cX8_rests 29 = .ok (.iconst (-1), 1) := dX8_rests_k149.2.2.2.2.1
theorem dX8_rests_30 : decode cX8_rests 30 = .ok (.if_icmp .eq 13, 3) := dX8_rests_k149.2.2.2.2.2
set_option maxRecDepth 100000 in
theorem dX8_rests_k150 : (decode cX8_rests 33 = .ok (.iload_n 1, 1)) ∧ (decode cX8_rests 34 = .ok (.iload_n 2, 1)) ∧ (decode cX8_rests 35 = .ok (.invokestatic 220, 3)) ∧ (decode cX8_rests 38 = .ok (.ifCond .ne 5, 3)) ∧ (decode cX8_rests 41 = .ok (.iconst (-1), 1)) ∧ (decode cX8_rests 42 = .ok (.ireturn, 1)) := by decide +kernel
theorem dX8_rests_33 : decode cX8_rests 33 = .ok (.iload_n 1, 1) := dX8_rests_k150.1
theorem dX8_rests_34 : decode cX8_rests 34 = .ok (.iload_n 2, 1) := dX8_rests_k150.2.1
theorem dX8_rests_35 : decode cX8_rests 35 = .ok (.invokestatic 220, 3) := dX8_rests_k150.2.2.1
theorem dX8_rests_38 : decode cX8_rests 38 = .ok (.ifCond .ne 5, 3) := dX8_rests_k150.2.2.2.1
theorem dX8_rests_41 : decode cX8_rests 41 = .ok (.iconst (-1), 1) := dX8_rests_k150.2.2.2.2.1
theorem dX8_rests_42 : decode cX8_rests 42 = .ok (.ireturn, 1) := dX8_rests_k150.2.2.2.2.2
set_option maxRecDepth 100000 in
theorem dX8_rests_k151 : (decode cX8_rests 43 = .ok (.iload_n 1, 1)) ∧ (decode cX8_rests 44 = .ok (.invokestatic 125, 3)) ∧ (decode cX8_rests 47 = .ok (.bipush 6, 2)) ∧ (decode cX8_rests 49 = .ok (.if_icmp .le 6, 3)) ∧ (decode cX8_rests 52 = .ok (.bipush (-4), 2)) ∧ (decode cX8_rests 54 = .ok (.ireturn, 1)) := by decide +kernel
theorem dX8_rests_43 : decode cX8_rests 43 = .ok (.iload_n 1, 1) := dX8_rests_k151.1
theorem dX8_rests_44 : decode cX8_rests 44 = .ok (.invokestatic 125, 3) := dX8_rests_k151.2.1
theorem dX8_rests_47 : decode cX8_rests 47 = .ok (.bipush 6, 2) := dX8_rests_k151.2.2.1
theorem dX8_rests_49 : decode cX8_rests 49 = .ok (.if_icmp .le 6, 3) := dX8_rests_k151.2.2.2.1
theorem dX8_rests_52 : decode cX8_rests 52 = .ok (.bipush (-4), 2) := dX8_rests_k151.2.2.2.2.1
theorem dX8_rests_54 : decode cX8_rests 54 = .ok (.ireturn, 1) := dX8_rests_k151.2.2.2.2.2
set_option maxRecDepth 100000 in
theorem dX8_rests_k152 : (decode cX8_rests 55 = .ok (.aload_n 0, 1)) ∧ (decode cX8_rests 56 = .ok (.getfield 48, 3)) ∧ (decode cX8_rests 59 = .ok (.aload_n 0, 1)) ∧ (decode cX8_rests 60 = .ok (.getfield 10, 3)) ∧ (decode cX8_rests 63 = .ok (.iload_n 1, 1)) ∧ (decode cX8_rests 64 = .ok (.invokevirtual 224, 3)) := by decide +kernel
theorem dX8_rests_55 : decode cX8_rests 55 = .ok (.aload_n 0, 1) := dX8_rests_k152.1
theorem dX8_rests_56 : decode cX8_rests 56 = .ok (.getfield 48, 3) := dX8_rests_k152.2.1
theorem dX8_rests_59 : decode cX8_rests 59 = .ok (.aload_n 0, 1) := dX8_rests_k152.2.2.1
theorem dX8_rests_60 : decode cX8_rests 60 = .ok (.getfield 10, 3) := dX8_rests_k152.2.2.2.1
theorem dX8_rests_63 : decode cX8_rests 63 = .ok (.iload_n 1, 1) := dX8_rests_k152.2.2.2.2.1
theorem dX8_rests_64 : decode cX8_rests 64 = .ok (.invokevirtual 224, 3) := dX8_rests_k152.2.2.2.2.2
set_option maxRecDepth 100000 in
theorem dX8_rests_k153 : (decode cX8_rests 67 = .ok (.iload_n 2, 1)) ∧ (decode cX8_rests 68 = .ok (.iconst (-1), 1)) ∧ (decode cX8_rests 69 = .ok (.if_icmp .ne 13, 3)) ∧ (decode cX8_rests 72 = .ok (.aload_n 0, 1)) ∧ (decode cX8_rests 73 = .ok (.getfield 48, 3)) ∧ (decode cX8_rests 76 = .ok (.getfield 228, 3)) := by decide +kernel
theorem dX8_rests_67 : decode cX8_rests 67 = .ok (.iload_n 2, 1) := dX8_rests_k153.1
theorem dX8_rests_68 : decode cX8_rests 68 = .ok (.iconst (-1), 1) := dX8_rests_k153.2.1
theorem dX8_rests_69 : decode cX8_rests 69 = .ok (.if_icmp .ne 13, 3) := dX8_rests_k153.2.2.1
theorem dX8_rests_72 : decode cX8_rests 72 = .ok (.aload_n 0, 1) := dX8_rests_k153.2.2.2.1
theorem dX8_rests_73 : decode cX8_rests 73 = .ok (.getfield 48, 3) := dX8_rests_k153.2.2.2.2.1
theorem dX8_rests_76 : decode cX8_rests 76 = .ok (.getfield 228, 3) := dX8_rests_k153.2.2.2.2.2
set_option maxRecDepth 100000 in
theorem dX8_rests_k154 : (decode cX8_rests 79 = .ok (.goto 11, 3)) ∧ (decode cX8_rests 82 = .ok (.aload_n 0, 1)) ∧ (decode cX8_rests 83 = .ok (.getfield 48, 3)) ∧ (decode cX8_rests 86 = .ok (.iload_n 2, 1)) ∧ (decode cX8_rests 87 = .ok (.invokevirtual 231, 3)) ∧ (decode cX8_rests 90 = .ok (.ireturn, 1)) := by decide +kernel
theorem dX8_rests_79 : decode cX8_rests 79 = .ok (.goto 11, 3) := dX8_rests_k154.1
theorem dX8_rests_82 : decode cX8_rests 82 = .ok (.aload_n 0, 1) := dX8_rests_k154.2.1
theorem dX8_rests_83 : decode cX8_rests 83 = .ok (.getfield 48, 3) := dX8_rests_k154.2.2.1
theorem dX8_rests_86 : decode cX8_rests 86 = .ok (.iload_n 2, 1) := dX8_rests_k154.2.2.2.1
theorem dX8_rests_87 : decode cX8_rests 87 = .ok (.invokevirtual 231, 3) := dX8_rests_k154.2.2.2.2.1
theorem dX8_rests_90 : decode cX8_rests 90 = .ok (.ireturn, 1) := dX8_rests_k154.2.2.2.2.2
set_option maxRecDepth 100000 in
theorem dX8_led_k155 : (decode cX8_led 0 = .ok (.aload_n 0, 1)) ∧ (decode cX8_led 1 = .ok (.getfield 10, 3)) ∧ (decode cX8_led 4 = .ok (.iload_n 1, 1)) ∧ (decode cX8_led 5 = .ok (.invokevirtual 85, 3)) ∧ (decode cX8_led 8 = .ok (.ifCond .ne 5, 3)) ∧ (decode cX8_led 11 = .ok (.iconst (-1), 1)) := by decide +kernel
theorem dX8_led_0 : decode cX8_led 0 = .ok (.aload_n 0, 1) := dX8_led_k155.1
theorem dX8_led_1 : decode cX8_led 1 = .ok (.getfield 10, 3) := dX8_led_k155.2.1
theorem dX8_led_4 : decode cX8_led 4 = .ok (.iload_n 1, 1) := dX8_led_k155.2.2.1
theorem dX8_led_5 : decode cX8_led 5 = .ok (.invokevirtual 85, 3) := dX8_led_k155.2.2.2.1
theorem dX8_led_8 : decode cX8_led 8 = .ok (.ifCond .ne 5, 3) := dX8_led_k155.2.2.2.2.1
theorem dX8_led_11 : decode cX8_led 11 = .ok (.iconst (-1), 1) := dX8_led_k155.2.2.2.2.2
set_option maxRecDepth 100000 in
theorem dX8_led_k156 : (decode cX8_led 12 = .ok (.ireturn, 1)) ∧ (decode cX8_led 13 = .ok (.iload_n 2, 1)) ∧ (decode cX8_led 14 = .ok (.iconst 1, 1)) ∧ (decode cX8_led 15 = .ok (.if_icmp .lt 30, 3)) ∧ (decode cX8_led 18 = .ok (.iload_n 2, 1)) ∧ (decode cX8_led 19 = .ok (.bipush 8, 2)) := by decide +kernel
theorem dX8_led_12 : decode cX8_led 12 = .ok (.ireturn, 1) := dX8_led_k156.1
theorem dX8_led_13 : decode cX8_led 13 = .ok (.iload_n 2, 1) := dX8_led_k156.2.1
theorem dX8_led_14 : decode cX8_led 14 = .ok (.iconst 1, 1) := dX8_led_k156.2.2.1
theorem dX8_led_15 : decode cX8_led 15 = .ok (.if_icmp .lt 30, 3) := dX8_led_k156.2.2.2.1
theorem dX8_led_18 : decode cX8_led 18 = .ok (.iload_n 2, 1) := dX8_led_k156.2.2.2.2.1
theorem dX8_led_19 : decode cX8_led 19 = .ok (.bipush 8, 2) := dX8_led_k156.2.2.2.2.2
set_option maxRecDepth 100000 in
theorem dX8_led_k157 : (decode cX8_led 21 = .ok (.if_icmp .gt 24, 3)) ∧ (decode cX8_led 24 = .ok (.iload_n 3, 1)) ∧ (decode cX8_led 25 = .ok (.ifCond .lt 20, 3)) ∧ (decode cX8_led 28 = .ok (.iload_n 3, 1)) ∧ (decode cX8_led 29 = .ok (.bipush 20, 2)) ∧ (decode cX8_led 31 = .ok (.if_icmp .gt 14, 3)) := by decide +kernel
theorem dX8_led_21 : decode cX8_led 21 = .ok (.if_icmp .gt 24, 3) := dX8_led_k157.1
theorem dX8_led_24 : decode cX8_led 24 = .ok (.iload_n 3, 1) := dX8_led_k157.2.1
theorem dX8_led_25 : decode cX8_led 25 = .ok (.ifCond .lt 20, 3) := dX8_led_k157.2.2.1
theorem dX8_led_28 : decode cX8_led 28 = .ok (.iload_n 3, 1) := dX8_led_k157.2.2.2.1
theorem dX8_led_29 : decode cX8_led 29 = .ok (.bipush 20, 2) := dX8_led_k157.2.2.2.2.1
theorem dX8_led_31 : decode cX8_led 31 = .ok (.if_icmp .gt 14, 3) := dX8_led_k157.2.2.2.2.2
set_option maxRecDepth 100000 in
theorem dX8_led_k158 : (decode cX8_led 34 = .ok (.iload 4, 2)) ∧ (decode cX8_led 36 = .ok (.ifCond .lt 9, 3)) ∧ (decode cX8_led 39 = .ok (.iload 4, 2)) ∧ (decode cX8_led 41 = .ok (.iconst 1, 1)) ∧ (decode cX8_led 42 = .ok (.if_icmp .le 6, 3)) ∧ (decode cX8_led 45 = .ok (.bipush (-2), 2)) := by decide +kernel
theorem dX8_led_34 : decode cX8_led 34 = .ok (.iload 4, 2) := dX8_led_k158.1
theorem dX8_led_36 : decode cX8_led 36 = .ok (.ifCond .lt 9, 3) := dX8_led_k158.2.1
theorem dX8_led_39 : decode cX8_led 39 = .ok (.iload 4, 2) := dX8_led_k158.2.2.1
theorem dX8_led_41 : decode cX8_led 41 = .ok (.iconst 1, 1) := dX8_led_k158.2.2.2.1
theorem dX8_led_42 : decode cX8_led 42 = .ok (.if_icmp .le 6, 3) := dX8_led_k158.2.2.2.2.1
theorem dX8_led_45 : decode cX8_led 45 = .ok (.bipush (-2), 2) := dX8_led_k158.2.2.2.2.2
set_option maxRecDepth 100000 in
theorem dX8_led_k159 : (decode cX8_led 47 = .ok (.ireturn, 1)) ∧ (decode cX8_led 48 = .ok (.aload_n 0, 1)) ∧ (decode cX8_led 49 = .ok (.getfield 10, 3)) ∧ (decode cX8_led 52 = .ok (.invokevirtual 234, 3)) ∧ (decode cX8_led 55 = .ok (.istore 5, 2)) ∧ (decode cX8_led 57 = .ok (.iconst 0, 1)) := by decide +kernel
theorem dX8_led_47 : decode cX8_led 47 = .ok (.ireturn, 1) := dX8_led_k159.1
theorem dX8_led_48 : decode cX8_led 48 = .ok (.aload_n 0, 1) := dX8_led_k159.2.1
theorem dX8_led_49 : decode cX8_led 49 = .ok (.getfield 10, 3) := dX8_led_k159.2.2.1
theorem dX8_led_52 : decode cX8_led 52 = .ok (.invokevirtual 234, 3) := dX8_led_k159.2.2.2.1
theorem dX8_led_55 : decode cX8_led 55 = .ok (.istore 5, 2) := dX8_led_k159.2.2.2.2.1
theorem dX8_led_57 : decode cX8_led 57 = .ok (.iconst 0, 1) := dX8_led_k159.2.2.2.2.2
set_option maxRecDepth 100000 in
theorem dX8_led_k160 : (decode cX8_led 58 = .ok (.istore 6, 2)) ∧ (decode cX8_led 60 = .ok (.iload 6, 2)) ∧ (decode cX8_led 62 = .ok (.iload 5, 2)) ∧ (decode cX8_led 64 = .ok (.invokestatic 125, 3)) ∧ (decode cX8_led 67 = .ok (.if_icmp .gt 70, 3)) ∧ (decode cX8_led 70 = .ok (.iconst 0, 1)) := by decide +kernel
theorem dX8_led_58 : decode cX8_led 58 = .ok (.istore 6, 2) := dX8_led_k160.1
theorem dX8_led_60 : decode cX8_led 60 = .ok (.iload 6, 2) := dX8_led_k160.2.1
theorem dX8_led_62 : decode cX8_led 62 = .ok (.iload 5, 2) := dX8_led_k160.2.2.1
theorem dX8_led_64 : decode cX8_led 64 = .ok (.invokestatic 125, 3) := dX8_led_k160.2.2.2.1
theorem dX8_led_67 : decode cX8_led 67 = .ok (.if_icmp .gt 70, 3) := dX8_led_k160.2.2.2.2.1
theorem dX8_led_70 : decode cX8_led 70 = .ok (.iconst 0, 1) := dX8_led_k160.2.2.2.2.2
set_option maxRecDepth 100000 in
theorem dX8_led_k161 : (decode cX8_led 71 = .ok (.istore 7, 2)) ∧ (decode cX8_led 73 = .ok (.iload 7, 2)) ∧ (decode cX8_led 75 = .ok (.iload 5, 2)) ∧ (decode cX8_led 77 = .ok (.if_icmp .gt 54, 3)) ∧ (decode cX8_led 80 = .ok (.iload 7, 2)) ∧ (decode cX8_led 82 = .ok (.invokestatic 125, 3)) := by decide +kernel
theorem dX8_led_71 : decode cX8_led 71 = .ok (.istore 7, 2) := dX8_led_k161.1
theorem dX8_led_73 : decode cX8_led 73 = .ok (.iload 7, 2) := dX8_led_k161.2.1
theorem dX8_led_75 : decode cX8_led 75 = .ok (.iload 5, 2) := dX8_led_k161.2.2.1
theorem dX8_led_77 : decode cX8_led 77 = .ok (.if_icmp .gt 54, 3) := dX8_led_k161.2.2.2.1
theorem dX8_led_80 : decode cX8_led 80 = .ok (.iload 7, 2) := dX8_led_k161.2.2.2.2.1
theorem dX8_led_82 : decode cX8_led 82 = .ok (.invokestatic 125, 3) := dX8_led_k161.2.2.2.2.2
set_option maxRecDepth 100000 in
theorem dX8_led_k162 : (decode cX8_led 85 = .ok (.iload 6, 2)) ∧ (decode cX8_led 87 = .ok (.if_icmp .ne 38, 3)) ∧ (decode cX8_led 90 = .ok (.iload 7, 2)) ∧ (decode cX8_led 92 = .ok (.iload 5, 2)) ∧ (decode cX8_led 94 = .ok (.iconst (-1), 1)) ∧ (decode cX8_led 95 = .ok (.ixor, 1)) := by decide +kernel
theorem dX8_led_85 : decode cX8_led 85 = .ok (.iload 6, 2) := dX8_led_k162.1
theorem dX8_led_87 : decode cX8_led 87 = .ok (.if_icmp .ne 38, 3) := dX8_led_k162.2.1
theorem dX8_led_90 : decode cX8_led 90 = .ok (.iload 7, 2) := dX8_led_k162.2.2.1
theorem dX8_led_92 : decode cX8_led 92 = .ok (.iload 5, 2) := dX8_led_k162.2.2.2.1
theorem dX8_led_94 : decode cX8_led 94 = .ok (.iconst (-1), 1) := dX8_led_k162.2.2.2.2.1
theorem dX8_led_95 : decode cX8_led 95 = .ok (.ixor, 1) := dX8_led_k162.2.2.2.2.2
set_option maxRecDepth 100000 in
theorem dX8_led_k163 : (decode cX8_led 96 = .ok (.iand, 1)) ∧ (decode cX8_led 97 = .ok (.ifCond .ne 28, 3)) ∧ (decode cX8_led 100 = .ok (.aload_n 0, 1)) ∧ (decode cX8_led 101 = .ok (.iload 7, 2)) ∧ (decode cX8_led 103 = .ok (.iload_n 1, 1)) ∧ (decode cX8_led 104 = .ok (.iload_n 2, 1)) := by decide +kernel
theorem dX8_led_96 : decode cX8_led 96 = .ok (.iand, 1) := dX8_led_k163.1
theorem dX8_led_97 : decode cX8_led 97 = .ok (.ifCond .ne 28, 3) := dX8_led_k163.2.1
theorem dX8_led_100 : decode cX8_led 100 = .ok (.aload_n 0, 1) := dX8_led_k163.2.2.1
theorem dX8_led_101 : decode cX8_led 101 = .ok (.iload 7, 2) := dX8_led_k163.2.2.2.1
theorem dX8_led_103 : decode cX8_led 103 = .ok (.iload_n 1, 1) := dX8_led_k163.2.2.2.2.1
theorem dX8_led_104 : decode cX8_led 104 = .ok (.iload_n 2, 1) := dX8_led_k163.2.2.2.2.2
set_option maxRecDepth 100000 in
theorem dX8_led_k164 : (decode cX8_led 105 = .ok (.iload_n 3, 1)) ∧ (decode cX8_led 106 = .ok (.invokevirtual 237, 3)) ∧ (decode cX8_led 109 = .ok (.ifCond .eq 16, 3)) ∧ (decode cX8_led 112 = .ok (.iload 4, 2)) ∧ (decode cX8_led 114 = .ok (.ifCond .ne 8, 3)) ∧ (decode cX8_led 117 = .ok (.iload 6, 2)) := by decide +kernel
theorem dX8_led_105 : decode cX8_led 105 = .ok (.iload_n 3, 1) := dX8_led_k164.1
theorem dX8_led_106 : decode cX8_led 106 = .ok (.invokevirtual 237, 3) := dX8_led_k164.2.1
theorem dX8_led_109 : decode cX8_led 109 = .ok (.ifCond .eq 16, 3) := dX8_led_k164.2.2.1
theorem dX8_led_112 : decode cX8_led 112 = .ok (.iload 4, 2) := dX8_led_k164.2.2.2.1
theorem dX8_led_114 : decode cX8_led 114 = .ok (.ifCond .ne 8, 3) := dX8_led_k164.2.2.2.2.1
theorem dX8_led_117 : decode cX8_led 117 = .ok (.iload 6, 2) := dX8_led_k164.2.2.2.2.2
set_option maxRecDepth 100000 in
theorem dX8_led_k165 : (decode cX8_led 119 = .ok (.goto 5, 3)) ∧ (decode cX8_led 122 = .ok (.iload 7, 2)) ∧ (decode cX8_led 124 = .ok (.ireturn, 1)) ∧ (decode cX8_led 125 = .ok (.iinc 7 1, 3)) ∧ (decode cX8_led 128 = .ok (.goto (-55), 3)) ∧ (decode cX8_led 131 = .ok (.iinc 6 1, 3)) := by decide +kernel
theorem dX8_led_119 : decode cX8_led 119 = .ok (.goto 5, 3) := dX8_led_k165.1
theorem dX8_led_122 : decode cX8_led 122 = .ok (.iload 7, 2) := dX8_led_k165.2.1
theorem dX8_led_124 : decode cX8_led 124 = .ok (.ireturn, 1) := dX8_led_k165.2.2.1
theorem dX8_led_125 : decode cX8_led 125 = .ok (.iinc 7 1, 3) := dX8_led_k165.2.2.2.1
theorem dX8_led_128 : decode cX8_led 128 = .ok (.goto (-55), 3) := dX8_led_k165.2.2.2.2.1
theorem dX8_led_131 : decode cX8_led 131 = .ok (.iinc 6 1, 3) := dX8_led_k165.2.2.2.2.2
set_option maxRecDepth 100000 in
theorem dX8_led_k166 : (decode cX8_led 134 = .ok (.goto (-74), 3)) ∧ (decode cX8_led 137 = .ok (.bipush (-6), 2)) ∧ (decode cX8_led 139 = .ok (.ireturn, 1)) := by decide +kernel
theorem dX8_led_134 : decode cX8_led 134 = .ok (.goto (-74), 3) := dX8_led_k166.1
theorem dX8_led_137 : decode cX8_led 137 = .ok (.bipush (-6), 2) := dX8_led_k166.2.1
theorem dX8_led_139 : decode cX8_led 139 = .ok (.ireturn, 1) := dX8_led_k166.2.2
set_option maxRecDepth 100000 in
theorem dX8_excuses_k167 : (decode cX8_excuses 0 = .ok (.aload_n 0, 1)) ∧ (decode cX8_excuses 1 = .ok (.getfield 10, 3)) ∧ (decode cX8_excuses 4 = .ok (.iload_n 1, 1)) ∧ (decode cX8_excuses 5 = .ok (.invokevirtual 130, 3)) ∧ (decode cX8_excuses 8 = .ok (.ifCond .eq 14, 3)) ∧ (decode cX8_excuses 11 = .ok (.aload_n 0, 1)) := by decide +kernel
theorem dX8_excuses_0 : decode cX8_excuses 0 = .ok (.aload_n 0, 1) := dX8_excuses_k167.1
theorem dX8_excuses_1 : decode cX8_excuses 1 = .ok (.getfield 10, 3) := dX8_excuses_k167.2.1
theorem dX8_excuses_4 : decode cX8_excuses 4 = .ok (.iload_n 1, 1) := dX8_excuses_k167.2.2.1
theorem dX8_excuses_5 : decode cX8_excuses 5 = .ok (.invokevirtual 130, 3) := dX8_excuses_k167.2.2.2.1
theorem dX8_excuses_8 : decode cX8_excuses 8 = .ok (.ifCond .eq 14, 3) := dX8_excuses_k167.2.2.2.2.1
theorem dX8_excuses_11 : decode cX8_excuses 11 = .ok (.aload_n 0, 1) := dX8_excuses_k167.2.2.2.2.2
set_option maxRecDepth 100000 in
theorem dX8_excuses_k168 : (decode cX8_excuses 12 = .ok (.getfield 10, 3)) ∧ (decode cX8_excuses 15 = .ok (.iload_n 2, 1)) ∧ (decode cX8_excuses 16 = .ok (.invokevirtual 85, 3)) ∧ (decode cX8_excuses 19 = .ok (.ifCond .ne 5, 3)) ∧ (decode cX8_excuses 22 = .ok (.iconst (-1), 1)) ∧ (decode cX8_excuses 23 = .ok (.ireturn, 1)) := by decide +kernel
theorem dX8_excuses_12 : decode cX8_excuses 12 = .ok (.getfield 10, 3) := dX8_excuses_k168.1
theorem dX8_excuses_15 : decode cX8_excuses 15 = .ok (.iload_n 2, 1) := dX8_excuses_k168.2.1
theorem dX8_excuses_16 : decode cX8_excuses 16 = .ok (.invokevirtual 85, 3) := dX8_excuses_k168.2.2.1
theorem dX8_excuses_19 : decode cX8_excuses 19 = .ok (.ifCond .ne 5, 3) := dX8_excuses_k168.2.2.2.1
theorem dX8_excuses_22 : decode cX8_excuses 22 = .ok (.iconst (-1), 1) := dX8_excuses_k168.2.2.2.2.1
theorem dX8_excuses_23 : decode cX8_excuses 23 = .ok (.ireturn, 1) := dX8_excuses_k168.2.2.2.2.2
set_option maxRecDepth 100000 in
theorem dX8_excuses_k169 : (decode cX8_excuses 24 = .ok (.aload_n 0, 1)) ∧ (decode cX8_excuses 25 = .ok (.getfield 55, 3)) ∧ (decode cX8_excuses 28 = .ok (.aload_n 0, 1)) ∧ (decode cX8_excuses 29 = .ok (.getfield 10, 3)) ∧ (decode cX8_excuses 32 = .ok (.iload_n 2, 1)) ∧ (decode cX8_excuses 33 = .ok (.invokevirtual 241, 3)) := by decide +kernel
theorem dX8_excuses_24 : decode cX8_excuses 24 = .ok (.aload_n 0, 1) := dX8_excuses_k169.1
theorem dX8_excuses_25 : decode cX8_excuses 25 = .ok (.getfield 55, 3) := dX8_excuses_k169.2.1
theorem dX8_excuses_28 : decode cX8_excuses 28 = .ok (.aload_n 0, 1) := dX8_excuses_k169.2.2.1
theorem dX8_excuses_29 : decode cX8_excuses 29 = .ok (.getfield 10, 3) := dX8_excuses_k169.2.2.2.1
theorem dX8_excuses_32 : decode cX8_excuses 32 = .ok (.iload_n 2, 1) := dX8_excuses_k169.2.2.2.2.1
theorem dX8_excuses_33 : decode cX8_excuses 33 = .ok (.invokevirtual 241, 3) := dX8_excuses_k169.2.2.2.2.2
set_option maxRecDepth 100000 in
theorem dX8_excuses_k170 : (decode cX8_excuses 36 = .ok (.aload_n 0, 1)) ∧ (decode cX8_excuses 37 = .ok (.getfield 10, 3)) ∧ (decode cX8_excuses 40 = .ok (.getfield 122, 3)) ∧ (decode cX8_excuses 43 = .ok (.iload_n 1, 1)) ∧ (decode cX8_excuses 44 = .ok (.iaload, 1)) ∧ (decode cX8_excuses 45 = .ok (.istore 4, 2)) := by decide +kernel
theorem dX8_excuses_36 : decode cX8_excuses 36 = .ok (.aload_n 0, 1) := dX8_excuses_k170.1
theorem dX8_excuses_37 : decode cX8_excuses 37 = .ok (.getfield 10, 3) := dX8_excuses_k170.2.1
theorem dX8_excuses_40 : decode cX8_excuses 40 = .ok (.getfield 122, 3) := dX8_excuses_k170.2.2.1
theorem dX8_excuses_43 : decode cX8_excuses 43 = .ok (.iload_n 1, 1) := dX8_excuses_k170.2.2.2.1
theorem dX8_excuses_44 : decode cX8_excuses 44 = .ok (.iaload, 1) := dX8_excuses_k170.2.2.2.2.1
theorem dX8_excuses_45 : decode cX8_excuses 45 = .ok (.istore 4, 2) := dX8_excuses_k170.2.2.2.2.2
set_option maxRecDepth 100000 in
theorem dX8_excuses_k171 : (decode cX8_excuses 47 = .ok (.iload_n 3, 1)) ∧ (decode cX8_excuses 48 = .ok (.iconst (-1), 1)) ∧ (decode cX8_excuses 49 = .ok (.if_icmp .ne 15, 3)) ∧ (decode cX8_excuses 52 = .ok (.aload_n 0, 1)) ∧ (decode cX8_excuses 53 = .ok (.getfield 55, 3)) ∧ (decode cX8_excuses 56 = .ok (.iload 4, 2)) := by decide +kernel
theorem dX8_excuses_47 : decode cX8_excuses 47 = .ok (.iload_n 3, 1) := dX8_excuses_k171.1
theorem dX8_excuses_48 : decode cX8_excuses 48 = .ok (.iconst (-1), 1) := dX8_excuses_k171.2.1
theorem dX8_excuses_49 : decode cX8_excuses 49 = .ok (.if_icmp .ne 15, 3) := dX8_excuses_k171.2.2.1
theorem dX8_excuses_52 : decode cX8_excuses 52 = .ok (.aload_n 0, 1) := dX8_excuses_k171.2.2.2.1
theorem dX8_excuses_53 : decode cX8_excuses 53 = .ok (.getfield 55, 3) := dX8_excuses_k171.2.2.2.2.1
theorem dX8_excuses_56 : decode cX8_excuses 56 = .ok (.iload 4, 2) := dX8_excuses_k171.2.2.2.2.2
set_option maxRecDepth 100000 in
theorem dX8_excuses_k172 : (decode cX8_excuses 58 = .ok (.invokevirtual 243, 3)) ∧ (decode cX8_excuses 61 = .ok (.goto 17, 3)) ∧ (decode cX8_excuses 64 = .ok (.aload_n 0, 1)) ∧ (decode cX8_excuses 65 = .ok (.getfield 55, 3)) ∧ (decode cX8_excuses 68 = .ok (.aload_n 0, 1)) ∧ (decode cX8_excuses 69 = .ok (.getfield 10, 3)) := by decide +kernel
theorem dX8_excuses_58 : decode cX8_excuses 58 = .ok (.invokevirtual 243, 3) := dX8_excuses_k172.1
theorem dX8_excuses_61 : decode cX8_excuses 61 = .ok (.goto 17, 3) := dX8_excuses_k172.2.1
theorem dX8_excuses_64 : decode cX8_excuses 64 = .ok (.aload_n 0, 1) := dX8_excuses_k172.2.2.1
theorem dX8_excuses_65 : decode cX8_excuses 65 = .ok (.getfield 55, 3) := dX8_excuses_k172.2.2.2.1
theorem dX8_excuses_68 : decode cX8_excuses 68 = .ok (.aload_n 0, 1) := dX8_excuses_k172.2.2.2.2.1
theorem dX8_excuses_69 : decode cX8_excuses 69 = .ok (.getfield 10, 3) := dX8_excuses_k172.2.2.2.2.2
set_option maxRecDepth 100000 in
theorem dX8_excuses_k173 : (decode cX8_excuses 72 = .ok (.iload 4, 2)) ∧ (decode cX8_excuses 74 = .ok (.iload_n 3, 1)) ∧ (decode cX8_excuses 75 = .ok (.invokevirtual 246, 3)) ∧ (decode cX8_excuses 78 = .ok (.ireturn, 1)) := by decide +kernel
theorem dX8_excuses_72 : decode cX8_excuses 72 = .ok (.iload 4, 2) := dX8_excuses_k173.1
theorem dX8_excuses_74 : decode cX8_excuses 74 = .ok (.iload_n 3, 1) := dX8_excuses_k173.2.1
theorem dX8_excuses_75 : decode cX8_excuses 75 = .ok (.invokevirtual 246, 3) := dX8_excuses_k173.2.2.1
theorem dX8_excuses_78 : decode cX8_excuses 78 = .ok (.ireturn, 1) := dX8_excuses_k173.2.2.2
set_option maxRecDepth 100000 in
theorem dX8_seen_k174 : (decode cX8_seen 0 = .ok (.iload_n 1, 1)) ∧ (decode cX8_seen 1 = .ok (.ifCond .lt 20, 3)) ∧ (decode cX8_seen 4 = .ok (.iload_n 1, 1)) ∧ (decode cX8_seen 5 = .ok (.bipush 8, 2)) ∧ (decode cX8_seen 7 = .ok (.if_icmp .ge 14, 3)) ∧ (decode cX8_seen 10 = .ok (.aload_n 0, 1)) := by decide +kernel
theorem dX8_seen_0 : decode cX8_seen 0 = .ok (.iload_n 1, 1) := dX8_seen_k174.1
theorem dX8_seen_1 : decode cX8_seen 1 = .ok (.ifCond .lt 20, 3) := dX8_seen_k174.2.1
theorem dX8_seen_4 : decode cX8_seen 4 = .ok (.iload_n 1, 1) := dX8_seen_k174.2.2.1
theorem dX8_seen_5 : decode cX8_seen 5 = .ok (.bipush 8, 2) := dX8_seen_k174.2.2.2.1
theorem dX8_seen_7 : decode cX8_seen 7 = .ok (.if_icmp .ge 14, 3) := dX8_seen_k174.2.2.2.2.1
theorem dX8_seen_10 : decode cX8_seen 10 = .ok (.aload_n 0, 1) := dX8_seen_k174.2.2.2.2.2
set_option maxRecDepth 100000 in
theorem dX8_seen_k175 : (decode cX8_seen 11 = .ok (.getfield 10, 3)) ∧ (decode cX8_seen 14 = .ok (.iload_n 2, 1)) ∧ (decode cX8_seen 15 = .ok (.invokevirtual 85, 3)) ∧ (decode cX8_seen 18 = .ok (.ifCond .ne 5, 3)) ∧ (decode cX8_seen 21 = .ok (.iconst (-1), 1)) ∧ (decode cX8_seen 22 = .ok (.ireturn, 1)) := by decide +kernel
theorem dX8_seen_11 : decode cX8_seen 11 = .ok (.getfield 10, 3) := dX8_seen_k175.1
theorem dX8_seen_14 : decode cX8_seen 14 = .ok (.iload_n 2, 1) := dX8_seen_k175.2.1
theorem dX8_seen_15 : decode cX8_seen 15 = .ok (.invokevirtual 85, 3) := dX8_seen_k175.2.2.1
theorem dX8_seen_18 : decode cX8_seen 18 = .ok (.ifCond .ne 5, 3) := dX8_seen_k175.2.2.2.1
theorem dX8_seen_21 : decode cX8_seen 21 = .ok (.iconst (-1), 1) := dX8_seen_k175.2.2.2.2.1
theorem dX8_seen_22 : decode cX8_seen 22 = .ok (.ireturn, 1) := dX8_seen_k175.2.2.2.2.2
set_option maxRecDepth 100000 in
theorem dX8_seen_k176 : (decode cX8_seen 23 = .ok (.aload_n 0, 1)) ∧ (decode cX8_seen 24 = .ok (.getfield 10, 3)) ∧ (decode cX8_seen 27 = .ok (.getfield 250, 3)) ∧ (decode cX8_seen 30 = .ok (.bipush 6, 2)) ∧ (decode cX8_seen 32 = .ok (.if_icmp .lt 6, 3)) ∧ (decode cX8_seen 35 = .ok (.bipush (-4), 2)) := by decide +kernel
theorem dX8_seen_23 : decode cX8_seen 23 = .ok (.aload_n 0, 1) := dX8_seen_k176.1
theorem dX8_seen_24 : decode cX8_seen 24 = .ok (.getfield 10, 3) := dX8_seen_k176.2.1
theorem dX8_seen_27 : decode cX8_seen 27 = .ok (.getfield 250, 3) := dX8_seen_k176.2.2.1
theorem dX8_seen_30 : decode cX8_seen 30 = .ok (.bipush 6, 2) := dX8_seen_k176.2.2.2.1
theorem dX8_seen_32 : decode cX8_seen 32 = .ok (.if_icmp .lt 6, 3) := dX8_seen_k176.2.2.2.2.1
theorem dX8_seen_35 : decode cX8_seen 35 = .ok (.bipush (-4), 2) := dX8_seen_k176.2.2.2.2.2
set_option maxRecDepth 100000 in
theorem dX8_seen_k177 : (decode cX8_seen 37 = .ok (.ireturn, 1)) ∧ (decode cX8_seen 38 = .ok (.aload_n 0, 1)) ∧ (decode cX8_seen 39 = .ok (.getfield 10, 3)) ∧ (decode cX8_seen 42 = .ok (.getfield 253, 3)) ∧ (decode cX8_seen 45 = .ok (.aload_n 0, 1)) ∧ (decode cX8_seen 46 = .ok (.getfield 10, 3)) := by decide +kernel
theorem dX8_seen_37 : decode cX8_seen 37 = .ok (.ireturn, 1) := dX8_seen_k177.1
theorem dX8_seen_38 : decode cX8_seen 38 = .ok (.aload_n 0, 1) := dX8_seen_k177.2.1
theorem dX8_seen_39 : decode cX8_seen 39 = .ok (.getfield 10, 3) := dX8_seen_k177.2.2.1
theorem dX8_seen_42 : decode cX8_seen 42 = .ok (.getfield 253, 3) := dX8_seen_k177.2.2.2.1
theorem dX8_seen_45 : decode cX8_seen 45 = .ok (.aload_n 0, 1) := dX8_seen_k177.2.2.2.2.1
theorem dX8_seen_46 : decode cX8_seen 46 = .ok (.getfield 10, 3) := dX8_seen_k177.2.2.2.2.2
set_option maxRecDepth 100000 in
theorem dX8_seen_k178 : (decode cX8_seen 49 = .ok (.getfield 250, 3)) ∧ (decode cX8_seen 52 = .ok (.iload_n 1, 1)) ∧ (decode cX8_seen 53 = .ok (.iastore, 1)) ∧ (decode cX8_seen 54 = .ok (.aload_n 0, 1)) ∧ (decode cX8_seen 55 = .ok (.getfield 10, 3)) ∧ (decode cX8_seen 58 = .ok (.getfield 256, 3)) := by decide +kernel
theorem dX8_seen_49 : decode cX8_seen 49 = .ok (.getfield 250, 3) := dX8_seen_k178.1
theorem dX8_seen_52 : decode cX8_seen 52 = .ok (.iload_n 1, 1) := dX8_seen_k178.2.1
theorem dX8_seen_53 : decode cX8_seen 53 = .ok (.iastore, 1) := dX8_seen_k178.2.2.1
theorem dX8_seen_54 : decode cX8_seen 54 = .ok (.aload_n 0, 1) := dX8_seen_k178.2.2.2.1
theorem dX8_seen_55 : decode cX8_seen 55 = .ok (.getfield 10, 3) := dX8_seen_k178.2.2.2.2.1
theorem dX8_seen_58 : decode cX8_seen 58 = .ok (.getfield 256, 3) := dX8_seen_k178.2.2.2.2.2
set_option maxRecDepth 100000 in
theorem dX8_seen_k179 : (decode cX8_seen 61 = .ok (.aload_n 0, 1)) ∧ (decode cX8_seen 62 = .ok (.getfield 10, 3)) ∧ (decode cX8_seen 65 = .ok (.getfield 250, 3)) ∧ (decode cX8_seen 68 = .ok (.iload_n 2, 1)) ∧ (decode cX8_seen 69 = .ok (.iastore, 1)) ∧ (decode cX8_seen 70 = .ok (.aload_n 0, 1)) := by decide +kernel
theorem dX8_seen_61 : decode cX8_seen 61 = .ok (.aload_n 0, 1) := dX8_seen_k179.1
theorem dX8_seen_62 : decode cX8_seen 62 = .ok (.getfield 10, 3) := dX8_seen_k179.2.1
theorem dX8_seen_65 : decode cX8_seen 65 = .ok (.getfield 250, 3) := dX8_seen_k179.2.2.1
theorem dX8_seen_68 : decode cX8_seen 68 = .ok (.iload_n 2, 1) := dX8_seen_k179.2.2.2.1
theorem dX8_seen_69 : decode cX8_seen 69 = .ok (.iastore, 1) := dX8_seen_k179.2.2.2.2.1
theorem dX8_seen_70 : decode cX8_seen 70 = .ok (.aload_n 0, 1) := dX8_seen_k179.2.2.2.2.2
set_option maxRecDepth 100000 in
theorem dX8_seen_k180 : (decode cX8_seen 71 = .ok (.getfield 10, 3)) ∧ (decode cX8_seen 74 = .ok (.dup, 1)) ∧ (decode cX8_seen 75 = .ok (.getfield 250, 3)) ∧ (decode cX8_seen 78 = .ok (.iconst 1, 1)) ∧ (decode cX8_seen 79 = .ok (.iadd, 1)) ∧ (decode cX8_seen 80 = .ok (.putfield 250, 3)) := by decide +kernel
theorem dX8_seen_71 : decode cX8_seen 71 = .ok (.getfield 10, 3) := dX8_seen_k180.1
theorem dX8_seen_74 : decode cX8_seen 74 = .ok (.dup, 1) := dX8_seen_k180.2.1
theorem dX8_seen_75 : decode cX8_seen 75 = .ok (.getfield 250, 3) := dX8_seen_k180.2.2.1
theorem dX8_seen_78 : decode cX8_seen 78 = .ok (.iconst 1, 1) := dX8_seen_k180.2.2.2.1
theorem dX8_seen_79 : decode cX8_seen 79 = .ok (.iadd, 1) := dX8_seen_k180.2.2.2.2.1
theorem dX8_seen_80 : decode cX8_seen 80 = .ok (.putfield 250, 3) := dX8_seen_k180.2.2.2.2.2
set_option maxRecDepth 100000 in
theorem dX8_seen_k181 : (decode cX8_seen 83 = .ok (.aload_n 0, 1)) ∧ (decode cX8_seen 84 = .ok (.getfield 10, 3)) ∧ (decode cX8_seen 87 = .ok (.getfield 250, 3)) ∧ (decode cX8_seen 90 = .ok (.ireturn, 1)) := by decide +kernel
theorem dX8_seen_83 : decode cX8_seen 83 = .ok (.aload_n 0, 1) := dX8_seen_k181.1
theorem dX8_seen_84 : decode cX8_seen 84 = .ok (.getfield 10, 3) := dX8_seen_k181.2.1
theorem dX8_seen_87 : decode cX8_seen 87 = .ok (.getfield 250, 3) := dX8_seen_k181.2.2.1
theorem dX8_seen_90 : decode cX8_seen 90 = .ok (.ireturn, 1) := dX8_seen_k181.2.2.2
set_option maxRecDepth 100000 in
theorem dX8_forget_k182 : (decode cX8_forget 0 = .ok (.aload_n 0, 1)) ∧ (decode cX8_forget 1 = .ok (.getfield 10, 3)) ∧ (decode cX8_forget 4 = .ok (.getfield 250, 3)) ∧ (decode cX8_forget 7 = .ok (.istore_n 1, 1)) ∧ (decode cX8_forget 8 = .ok (.aload_n 0, 1)) ∧ (decode cX8_forget 9 = .ok (.getfield 10, 3)) := by decide +kernel
theorem dX8_forget_0 : decode cX8_forget 0 = .ok (.aload_n 0, 1) := dX8_forget_k182.1
theorem dX8_forget_1 : decode cX8_forget 1 = .ok (.getfield 10, 3) := dX8_forget_k182.2.1
theorem dX8_forget_4 : decode cX8_forget 4 = .ok (.getfield 250, 3) := dX8_forget_k182.2.2.1
theorem dX8_forget_7 : decode cX8_forget 7 = .ok (.istore_n 1, 1) := dX8_forget_k182.2.2.2.1
theorem dX8_forget_8 : decode cX8_forget 8 = .ok (.aload_n 0, 1) := dX8_forget_k182.2.2.2.2.1
theorem dX8_forget_9 : decode cX8_forget 9 = .ok (.getfield 10, 3) := dX8_forget_k182.2.2.2.2.2
set_option maxRecDepth 100000 in
theorem dX8_forget_k183 : (decode cX8_forget 12 = .ok (.iconst 0, 1)) ∧ (decode cX8_forget 13 = .ok (.putfield 250, 3)) ∧ (decode cX8_forget 16 = .ok (.iload_n 1, 1)) ∧ (decode cX8_forget 17 = .ok (.ireturn, 1)) := by decide +kernel
theorem dX8_forget_12 : decode cX8_forget 12 = .ok (.iconst 0, 1) := dX8_forget_k183.1
theorem dX8_forget_13 : decode cX8_forget 13 = .ok (.putfield 250, 3) := dX8_forget_k183.2.1
theorem dX8_forget_16 : decode cX8_forget 16 = .ok (.iload_n 1, 1) := dX8_forget_k183.2.2.1
theorem dX8_forget_17 : decode cX8_forget 17 = .ok (.ireturn, 1) := dX8_forget_k183.2.2.2
set_option maxRecDepth 100000 in
theorem dX8_tastes_k184 : (decode cX8_tastes 0 = .ok (.aload_n 0, 1)) ∧ (decode cX8_tastes 1 = .ok (.getfield 10, 3)) ∧ (decode cX8_tastes 4 = .ok (.iload_n 1, 1)) ∧ (decode cX8_tastes 5 = .ok (.invokevirtual 130, 3)) ∧ (decode cX8_tastes 8 = .ok (.ifCond .ne 5, 3)) ∧ (decode cX8_tastes 11 = .ok (.iconst (-1), 1)) := by decide +kernel
theorem dX8_tastes_0 : decode cX8_tastes 0 = .ok (.aload_n 0, 1) := dX8_tastes_k184.1
theorem dX8_tastes_1 : decode cX8_tastes 1 = .ok (.getfield 10, 3) := dX8_tastes_k184.2.1
theorem dX8_tastes_4 : decode cX8_tastes 4 = .ok (.iload_n 1, 1) := dX8_tastes_k184.2.2.1
theorem dX8_tastes_5 : decode cX8_tastes 5 = .ok (.invokevirtual 130, 3) := dX8_tastes_k184.2.2.2.1
theorem dX8_tastes_8 : decode cX8_tastes 8 = .ok (.ifCond .ne 5, 3) := dX8_tastes_k184.2.2.2.2.1
theorem dX8_tastes_11 : decode cX8_tastes 11 = .ok (.iconst (-1), 1) := dX8_tastes_k184.2.2.2.2.2
set_option maxRecDepth 100000 in
theorem dX8_tastes_k185 : (decode cX8_tastes 12 = .ok (.ireturn, 1)) ∧ (decode cX8_tastes 13 = .ok (.iload_n 2, 1)) ∧ (decode cX8_tastes 14 = .ok (.ifCond .lt 8, 3)) ∧ (decode cX8_tastes 17 = .ok (.iload_n 2, 1)) ∧ (decode cX8_tastes 18 = .ok (.iconst 5, 1)) ∧ (decode cX8_tastes 19 = .ok (.if_icmp .lt 6, 3)) := by decide +kernel
theorem dX8_tastes_12 : decode cX8_tastes 12 = .ok (.ireturn, 1) := dX8_tastes_k185.1
theorem dX8_tastes_13 : decode cX8_tastes 13 = .ok (.iload_n 2, 1) := dX8_tastes_k185.2.1
theorem dX8_tastes_14 : decode cX8_tastes 14 = .ok (.ifCond .lt 8, 3) := dX8_tastes_k185.2.2.1
theorem dX8_tastes_17 : decode cX8_tastes 17 = .ok (.iload_n 2, 1) := dX8_tastes_k185.2.2.2.1
theorem dX8_tastes_18 : decode cX8_tastes 18 = .ok (.iconst 5, 1) := dX8_tastes_k185.2.2.2.2.1
theorem dX8_tastes_19 : decode cX8_tastes 19 = .ok (.if_icmp .lt 6, 3) := dX8_tastes_k185.2.2.2.2.2
set_option maxRecDepth 100000 in
theorem dX8_tastes_k186 : (decode cX8_tastes 22 = .ok (.bipush (-2), 2)) ∧ (decode cX8_tastes 24 = .ok (.ireturn, 1)) ∧ (decode cX8_tastes 25 = .ok (.aload_n 0, 1)) ∧ (decode cX8_tastes 26 = .ok (.getfield 34, 3)) ∧ (decode cX8_tastes 29 = .ok (.aload_n 0, 1)) ∧ (decode cX8_tastes 30 = .ok (.getfield 10, 3)) := by decide +kernel
theorem dX8_tastes_22 : decode cX8_tastes 22 = .ok (.bipush (-2), 2) := dX8_tastes_k186.1
theorem dX8_tastes_24 : decode cX8_tastes 24 = .ok (.ireturn, 1) := dX8_tastes_k186.2.1
theorem dX8_tastes_25 : decode cX8_tastes 25 = .ok (.aload_n 0, 1) := dX8_tastes_k186.2.2.1
theorem dX8_tastes_26 : decode cX8_tastes 26 = .ok (.getfield 34, 3) := dX8_tastes_k186.2.2.2.1
theorem dX8_tastes_29 : decode cX8_tastes 29 = .ok (.aload_n 0, 1) := dX8_tastes_k186.2.2.2.2.1
theorem dX8_tastes_30 : decode cX8_tastes 30 = .ok (.getfield 10, 3) := dX8_tastes_k186.2.2.2.2.2
set_option maxRecDepth 100000 in
theorem dX8_tastes_k187 : (decode cX8_tastes 33 = .ok (.invokevirtual 175, 3)) ∧ (decode cX8_tastes 36 = .ok (.iconst 0, 1)) ∧ (decode cX8_tastes 37 = .ok (.istore_n 3, 1)) ∧ (decode cX8_tastes 38 = .ok (.iconst 0, 1)) ∧ (decode cX8_tastes 39 = .ok (.istore 4, 2)) := by decide +kernel
theorem dX8_tastes_33 : decode cX8_tastes 33 = .ok (.invokevirtual 175, 3) := dX8_tastes_k187.1
theorem dX8_tastes_36 : decode cX8_tastes 36 = .ok (.iconst 0, 1) := dX8_tastes_k187.2.1
theorem dX8_tastes_37 : decode cX8_tastes 37 = .ok (.istore_n 3, 1) := dX8_tastes_k187.2.2.1
theorem dX8_tastes_38 : decode cX8_tastes 38 = .ok (.iconst 0, 1) := dX8_tastes_k187.2.2.2.1
theorem dX8_tastes_39 : decode cX8_tastes 39 = .ok (.istore 4, 2) := dX8_tastes_k187.2.2.2.2
