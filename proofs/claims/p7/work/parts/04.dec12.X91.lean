set_option maxRecDepth 100000 in
theorem dX9_shut_k0 : (decode cX9_shut 15 = .ok (.iinc 1 1, 3)) ∧ (decode cX9_shut 18 = .ok (.goto (-16), 3)) ∧ (decode cX9_shut 21 = .ok (.return_, 1)) := by decide +kernel
theorem dX9_shut_15 : decode cX9_shut 15 = .ok (.iinc 1 1, 3) := dX9_shut_k0.1
theorem dX9_shut_18 : decode cX9_shut 18 = .ok (.goto (-16), 3) := dX9_shut_k0.2.1
theorem dX9_shut_21 : decode cX9_shut 21 = .ok (.return_, 1) := dX9_shut_k0.2.2
set_option maxRecDepth 100000 in
theorem dX9_pass_k1 : (decode cX9_pass 0 = .ok (.aload_n 0, 1)) ∧ (decode cX9_pass 1 = .ok (.invokevirtual 145, 3)) ∧ (decode cX9_pass 4 = .ok (.iconst 0, 1)) ∧ (decode cX9_pass 5 = .ok (.istore_n 1, 1)) ∧ (decode cX9_pass 6 = .ok (.iconst 0, 1)) ∧ (decode cX9_pass 7 = .ok (.istore_n 2, 1)) := by decide +kernel
theorem dX9_pass_0 : decode cX9_pass 0 = .ok (.aload_n 0, 1) := dX9_pass_k1.1
theorem dX9_pass_1 : decode cX9_pass 1 = .ok (.invokevirtual 145, 3) := dX9_pass_k1.2.1
theorem dX9_pass_4 : decode cX9_pass 4 = .ok (.iconst 0, 1) := dX9_pass_k1.2.2.1
theorem dX9_pass_5 : decode cX9_pass 5 = .ok (.istore_n 1, 1) := dX9_pass_k1.2.2.2.1
theorem dX9_pass_6 : decode cX9_pass 6 = .ok (.iconst 0, 1) := dX9_pass_k1.2.2.2.2.1
theorem dX9_pass_7 : decode cX9_pass 7 = .ok (.istore_n 2, 1) := dX9_pass_k1.2.2.2.2.2
set_option maxRecDepth 100000 in
theorem dX9_pass_k2 : (decode cX9_pass 8 = .ok (.iload_n 2, 1)) ∧ (decode cX9_pass 9 = .ok (.bipush 8, 2)) ∧ (decode cX9_pass 11 = .ok (.if_icmp .ge 95, 3)) ∧ (decode cX9_pass 14 = .ok (.aload_n 0, 1)) ∧ (decode cX9_pass 15 = .ok (.getfield 88, 3)) ∧ (decode cX9_pass 18 = .ok (.iload_n 2, 1)) := by decide +kernel
theorem dX9_pass_8 : decode cX9_pass 8 = .ok (.iload_n 2, 1) := dX9_pass_k2.1
theorem dX9_pass_9 : decode cX9_pass 9 = .ok (.bipush 8, 2) := dX9_pass_k2.2.1
theorem dX9_pass_11 : decode cX9_pass 11 = .ok (.if_icmp .ge 95, 3) := dX9_pass_k2.2.2.1
theorem dX9_pass_14 : decode cX9_pass 14 = .ok (.aload_n 0, 1) := dX9_pass_k2.2.2.2.1
theorem dX9_pass_15 : decode cX9_pass 15 = .ok (.getfield 88, 3) := dX9_pass_k2.2.2.2.2.1
theorem dX9_pass_18 : decode cX9_pass 18 = .ok (.iload_n 2, 1) := dX9_pass_k2.2.2.2.2.2
set_option maxRecDepth 100000 in
theorem dX9_pass_k3 : (decode cX9_pass 19 = .ok (.invokestatic 98, 3)) ∧ (decode cX9_pass 22 = .ok (.ifCond .eq 78, 3)) ∧ (decode cX9_pass 25 = .ok (.aload_n 0, 1)) ∧ (decode cX9_pass 26 = .ok (.getfield 50, 3)) ∧ (decode cX9_pass 29 = .ok (.iload_n 2, 1)) ∧ (decode cX9_pass 30 = .ok (.iaload, 1)) := by decide +kernel
theorem dX9_pass_19 : decode cX9_pass 19 = .ok (.invokestatic 98, 3) := dX9_pass_k3.1
theorem dX9_pass_22 : decode cX9_pass 22 = .ok (.ifCond .eq 78, 3) := dX9_pass_k3.2.1
theorem dX9_pass_25 : decode cX9_pass 25 = .ok (.aload_n 0, 1) := dX9_pass_k3.2.2.1
theorem dX9_pass_26 : decode cX9_pass 26 = .ok (.getfield 50, 3) := dX9_pass_k3.2.2.2.1
theorem dX9_pass_29 : decode cX9_pass 29 = .ok (.iload_n 2, 1) := dX9_pass_k3.2.2.2.2.1
theorem dX9_pass_30 : decode cX9_pass 30 = .ok (.iaload, 1) := dX9_pass_k3.2.2.2.2.2
set_option maxRecDepth 100000 in
theorem dX9_pass_k4 : (decode cX9_pass 31 = .ok (.ifCond .ne 69, 3)) ∧ (decode cX9_pass 34 = .ok (.aload_n 0, 1)) ∧ (decode cX9_pass 35 = .ok (.getfield 47, 3)) ∧ (decode cX9_pass 38 = .ok (.iload_n 2, 1)) ∧ (decode cX9_pass 39 = .ok (.iaload, 1)) ∧ (decode cX9_pass 40 = .ok (.istore_n 3, 1)) := by decide +kernel
theorem dX9_pass_31 : decode cX9_pass 31 = .ok (.ifCond .ne 69, 3) := dX9_pass_k4.1
theorem dX9_pass_34 : decode cX9_pass 34 = .ok (.aload_n 0, 1) := dX9_pass_k4.2.1
theorem dX9_pass_35 : decode cX9_pass 35 = .ok (.getfield 47, 3) := dX9_pass_k4.2.2.1
theorem dX9_pass_38 : decode cX9_pass 38 = .ok (.iload_n 2, 1) := dX9_pass_k4.2.2.2.1
theorem dX9_pass_39 : decode cX9_pass 39 = .ok (.iaload, 1) := dX9_pass_k4.2.2.2.2.1
theorem dX9_pass_40 : decode cX9_pass 40 = .ok (.istore_n 3, 1) := dX9_pass_k4.2.2.2.2.2
set_option maxRecDepth 100000 in
theorem dX9_pass_k5 : (decode cX9_pass 41 = .ok (.aload_n 0, 1)) ∧ (decode cX9_pass 42 = .ok (.iload_n 2, 1)) ∧ (decode cX9_pass 43 = .ok (.bipush (-6), 2)) ∧ (decode cX9_pass 45 = .ok (.iconst 0, 1)) ∧ (decode cX9_pass 46 = .ok (.invokevirtual 148, 3)) ∧ (decode cX9_pass 49 = .ok (.istore 4, 2)) := by decide +kernel
theorem dX9_pass_41 : decode cX9_pass 41 = .ok (.aload_n 0, 1) := dX9_pass_k5.1
theorem dX9_pass_42 : decode cX9_pass 42 = .ok (.iload_n 2, 1) := dX9_pass_k5.2.1
theorem dX9_pass_43 : decode cX9_pass 43 = .ok (.bipush (-6), 2) := dX9_pass_k5.2.2.1
theorem dX9_pass_45 : decode cX9_pass 45 = .ok (.iconst 0, 1) := dX9_pass_k5.2.2.2.1
theorem dX9_pass_46 : decode cX9_pass 46 = .ok (.invokevirtual 148, 3) := dX9_pass_k5.2.2.2.2.1
theorem dX9_pass_49 : decode cX9_pass 49 = .ok (.istore 4, 2) := dX9_pass_k5.2.2.2.2.2
set_option maxRecDepth 100000 in
theorem dX9_pass_k6 : (decode cX9_pass 51 = .ok (.iload 4, 2)) ∧ (decode cX9_pass 53 = .ok (.iload_n 3, 1)) ∧ (decode cX9_pass 54 = .ok (.if_icmp .eq 46, 3)) ∧ (decode cX9_pass 57 = .ok (.aload_n 0, 1)) ∧ (decode cX9_pass 58 = .ok (.getfield 62, 3)) ∧ (decode cX9_pass 61 = .ok (.bipush 6, 2)) := by decide +kernel
theorem dX9_pass_51 : decode cX9_pass 51 = .ok (.iload 4, 2) := dX9_pass_k6.1
theorem dX9_pass_53 : decode cX9_pass 53 = .ok (.iload_n 3, 1) := dX9_pass_k6.2.1
theorem dX9_pass_54 : decode cX9_pass 54 = .ok (.if_icmp .eq 46, 3) := dX9_pass_k6.2.2.1
theorem dX9_pass_57 : decode cX9_pass 57 = .ok (.aload_n 0, 1) := dX9_pass_k6.2.2.2.1
theorem dX9_pass_58 : decode cX9_pass 58 = .ok (.getfield 62, 3) := dX9_pass_k6.2.2.2.2.1
theorem dX9_pass_61 : decode cX9_pass 61 = .ok (.bipush 6, 2) := dX9_pass_k6.2.2.2.2.2
set_option maxRecDepth 100000 in
theorem dX9_pass_k7 : (decode cX9_pass 63 = .ok (.iload_n 3, 1)) ∧ (decode cX9_pass 64 = .ok (.imul, 1)) ∧ (decode cX9_pass 65 = .ok (.iload 4, 2)) ∧ (decode cX9_pass 67 = .ok (.iadd, 1)) ∧ (decode cX9_pass 68 = .ok (.dup2, 1)) ∧ (decode cX9_pass 69 = .ok (.iaload, 1)) := by decide +kernel
theorem dX9_pass_63 : decode cX9_pass 63 = .ok (.iload_n 3, 1) := dX9_pass_k7.1
theorem dX9_pass_64 : decode cX9_pass 64 = .ok (.imul, 1) := dX9_pass_k7.2.1
theorem dX9_pass_65 : decode cX9_pass 65 = .ok (.iload 4, 2) := dX9_pass_k7.2.2.1
theorem dX9_pass_67 : decode cX9_pass 67 = .ok (.iadd, 1) := dX9_pass_k7.2.2.2.1
theorem dX9_pass_68 : decode cX9_pass 68 = .ok (.dup2, 1) := dX9_pass_k7.2.2.2.2.1
theorem dX9_pass_69 : decode cX9_pass 69 = .ok (.iaload, 1) := dX9_pass_k7.2.2.2.2.2
set_option maxRecDepth 100000 in
theorem dX9_pass_k8 : (decode cX9_pass 70 = .ok (.iconst 1, 1)) ∧ (decode cX9_pass 71 = .ok (.iadd, 1)) ∧ (decode cX9_pass 72 = .ok (.iastore, 1)) ∧ (decode cX9_pass 73 = .ok (.aload_n 0, 1)) ∧ (decode cX9_pass 74 = .ok (.getfield 62, 3)) ∧ (decode cX9_pass 77 = .ok (.bipush 6, 2)) := by decide +kernel
theorem dX9_pass_70 : decode cX9_pass 70 = .ok (.iconst 1, 1) := dX9_pass_k8.1
theorem dX9_pass_71 : decode cX9_pass 71 = .ok (.iadd, 1) := dX9_pass_k8.2.1
theorem dX9_pass_72 : decode cX9_pass 72 = .ok (.iastore, 1) := dX9_pass_k8.2.2.1
theorem dX9_pass_73 : decode cX9_pass 73 = .ok (.aload_n 0, 1) := dX9_pass_k8.2.2.2.1
theorem dX9_pass_74 : decode cX9_pass 74 = .ok (.getfield 62, 3) := dX9_pass_k8.2.2.2.2.1
theorem dX9_pass_77 : decode cX9_pass 77 = .ok (.bipush 6, 2) := dX9_pass_k8.2.2.2.2.2
set_option maxRecDepth 100000 in
theorem dX9_pass_k9 : (decode cX9_pass 79 = .ok (.iload 4, 2)) ∧ (decode cX9_pass 81 = .ok (.imul, 1)) ∧ (decode cX9_pass 82 = .ok (.iload_n 3, 1)) ∧ (decode cX9_pass 83 = .ok (.iadd, 1)) ∧ (decode cX9_pass 84 = .ok (.dup2, 1)) ∧ (decode cX9_pass 85 = .ok (.iaload, 1)) := by decide +kernel
theorem dX9_pass_79 : decode cX9_pass 79 = .ok (.iload 4, 2) := dX9_pass_k9.1
theorem dX9_pass_81 : decode cX9_pass 81 = .ok (.imul, 1) := dX9_pass_k9.2.1
theorem dX9_pass_82 : decode cX9_pass 82 = .ok (.iload_n 3, 1) := dX9_pass_k9.2.2.1
theorem dX9_pass_83 : decode cX9_pass 83 = .ok (.iadd, 1) := dX9_pass_k9.2.2.2.1
theorem dX9_pass_84 : decode cX9_pass 84 = .ok (.dup2, 1) := dX9_pass_k9.2.2.2.2.1
theorem dX9_pass_85 : decode cX9_pass 85 = .ok (.iaload, 1) := dX9_pass_k9.2.2.2.2.2
set_option maxRecDepth 100000 in
theorem dX9_pass_k10 : (decode cX9_pass 86 = .ok (.iconst 1, 1)) ∧ (decode cX9_pass 87 = .ok (.iadd, 1)) ∧ (decode cX9_pass 88 = .ok (.iastore, 1)) ∧ (decode cX9_pass 89 = .ok (.aload_n 0, 1)) ∧ (decode cX9_pass 90 = .ok (.getfield 47, 3)) ∧ (decode cX9_pass 93 = .ok (.iload_n 2, 1)) := by decide +kernel
theorem dX9_pass_86 : decode cX9_pass 86 = .ok (.iconst 1, 1) := dX9_pass_k10.1
theorem dX9_pass_87 : decode cX9_pass 87 = .ok (.iadd, 1) := dX9_pass_k10.2.1
theorem dX9_pass_88 : decode cX9_pass 88 = .ok (.iastore, 1) := dX9_pass_k10.2.2.1
theorem dX9_pass_89 : decode cX9_pass 89 = .ok (.aload_n 0, 1) := dX9_pass_k10.2.2.2.1
theorem dX9_pass_90 : decode cX9_pass 90 = .ok (.getfield 47, 3) := dX9_pass_k10.2.2.2.2.1
theorem dX9_pass_93 : decode cX9_pass 93 = .ok (.iload_n 2, 1) := dX9_pass_k10.2.2.2.2.2
set_option maxRecDepth 100000 in
theorem dX9_pass_k11 : (decode cX9_pass 94 = .ok (.iload 4, 2)) ∧ (decode cX9_pass 96 = .ok (.iastore, 1)) ∧ (decode cX9_pass 97 = .ok (.iinc 1 1, 3)) ∧ (decode cX9_pass 100 = .ok (.iinc 2 1, 3)) ∧ (decode cX9_pass 103 = .ok (.goto (-95), 3)) ∧ (decode cX9_pass 106 = .ok (.iconst 0, 1)) := by decide +kernel
theorem dX9_pass_94 : decode cX9_pass 94 = .ok (.iload 4, 2) := dX9_pass_k11.1
theorem dX9_pass_96 : decode cX9_pass 96 = .ok (.iastore, 1) := dX9_pass_k11.2.1
theorem dX9_pass_97 : decode cX9_pass 97 = .ok (.iinc 1 1, 3) := dX9_pass_k11.2.2.1
theorem dX9_pass_100 : decode cX9_pass 100 = .ok (.iinc 2 1, 3) := dX9_pass_k11.2.2.2.1
theorem dX9_pass_103 : decode cX9_pass 103 = .ok (.goto (-95), 3) := dX9_pass_k11.2.2.2.2.1
theorem dX9_pass_106 : decode cX9_pass 106 = .ok (.iconst 0, 1) := dX9_pass_k11.2.2.2.2.2
set_option maxRecDepth 100000 in
theorem dX9_pass_k12 : (decode cX9_pass 107 = .ok (.istore_n 2, 1)) ∧ (decode cX9_pass 108 = .ok (.iload_n 2, 1)) ∧ (decode cX9_pass 109 = .ok (.bipush 8, 2)) ∧ (decode cX9_pass 111 = .ok (.if_icmp .ge 60, 3)) ∧ (decode cX9_pass 114 = .ok (.aload_n 0, 1)) ∧ (decode cX9_pass 115 = .ok (.getfield 88, 3)) := by decide +kernel
theorem dX9_pass_107 : decode cX9_pass 107 = .ok (.istore_n 2, 1) := dX9_pass_k12.1
theorem dX9_pass_108 : decode cX9_pass 108 = .ok (.iload_n 2, 1) := dX9_pass_k12.2.1
theorem dX9_pass_109 : decode cX9_pass 109 = .ok (.bipush 8, 2) := dX9_pass_k12.2.2.1
theorem dX9_pass_111 : decode cX9_pass 111 = .ok (.if_icmp .ge 60, 3) := dX9_pass_k12.2.2.2.1
theorem dX9_pass_114 : decode cX9_pass 114 = .ok (.aload_n 0, 1) := dX9_pass_k12.2.2.2.2.1
theorem dX9_pass_115 : decode cX9_pass 115 = .ok (.getfield 88, 3) := dX9_pass_k12.2.2.2.2.2
set_option maxRecDepth 100000 in
theorem dX9_pass_k13 : (decode cX9_pass 118 = .ok (.iload_n 2, 1)) ∧ (decode cX9_pass 119 = .ok (.invokestatic 98, 3)) ∧ (decode cX9_pass 122 = .ok (.ifCond .eq 43, 3)) ∧ (decode cX9_pass 125 = .ok (.aload_n 0, 1)) ∧ (decode cX9_pass 126 = .ok (.getfield 50, 3)) ∧ (decode cX9_pass 129 = .ok (.iload_n 2, 1)) := by decide +kernel
theorem dX9_pass_118 : decode cX9_pass 118 = .ok (.iload_n 2, 1) := dX9_pass_k13.1
theorem dX9_pass_119 : decode cX9_pass 119 = .ok (.invokestatic 98, 3) := dX9_pass_k13.2.1
theorem dX9_pass_122 : decode cX9_pass 122 = .ok (.ifCond .eq 43, 3) := dX9_pass_k13.2.2.1
theorem dX9_pass_125 : decode cX9_pass 125 = .ok (.aload_n 0, 1) := dX9_pass_k13.2.2.2.1
theorem dX9_pass_126 : decode cX9_pass 126 = .ok (.getfield 50, 3) := dX9_pass_k13.2.2.2.2.1
theorem dX9_pass_129 : decode cX9_pass 129 = .ok (.iload_n 2, 1) := dX9_pass_k13.2.2.2.2.2
set_option maxRecDepth 100000 in
theorem dX9_pass_k14 : (decode cX9_pass 130 = .ok (.iaload, 1)) ∧ (decode cX9_pass 131 = .ok (.iconst 1, 1)) ∧ (decode cX9_pass 132 = .ok (.if_icmp .ne 33, 3)) ∧ (decode cX9_pass 135 = .ok (.aload_n 0, 1)) ∧ (decode cX9_pass 136 = .ok (.getfield 56, 3)) ∧ (decode cX9_pass 139 = .ok (.iload_n 2, 1)) := by decide +kernel
theorem dX9_pass_130 : decode cX9_pass 130 = .ok (.iaload, 1) := dX9_pass_k14.1
theorem dX9_pass_131 : decode cX9_pass 131 = .ok (.iconst 1, 1) := dX9_pass_k14.2.1
theorem dX9_pass_132 : decode cX9_pass 132 = .ok (.if_icmp .ne 33, 3) := dX9_pass_k14.2.2.1
theorem dX9_pass_135 : decode cX9_pass 135 = .ok (.aload_n 0, 1) := dX9_pass_k14.2.2.2.1
theorem dX9_pass_136 : decode cX9_pass 136 = .ok (.getfield 56, 3) := dX9_pass_k14.2.2.2.2.1
theorem dX9_pass_139 : decode cX9_pass 139 = .ok (.iload_n 2, 1) := dX9_pass_k14.2.2.2.2.2
set_option maxRecDepth 100000 in
theorem dX9_pass_k15 : (decode cX9_pass 140 = .ok (.dup2, 1)) ∧ (decode cX9_pass 141 = .ok (.iaload, 1)) ∧ (decode cX9_pass 142 = .ok (.iconst 1, 1)) ∧ (decode cX9_pass 143 = .ok (.isub, 1)) ∧ (decode cX9_pass 144 = .ok (.iastore, 1)) ∧ (decode cX9_pass 145 = .ok (.aload_n 0, 1)) := by decide +kernel
theorem dX9_pass_140 : decode cX9_pass 140 = .ok (.dup2, 1) := dX9_pass_k15.1
theorem dX9_pass_141 : decode cX9_pass 141 = .ok (.iaload, 1) := dX9_pass_k15.2.1
theorem dX9_pass_142 : decode cX9_pass 142 = .ok (.iconst 1, 1) := dX9_pass_k15.2.2.1
theorem dX9_pass_143 : decode cX9_pass 143 = .ok (.isub, 1) := dX9_pass_k15.2.2.2.1
theorem dX9_pass_144 : decode cX9_pass 144 = .ok (.iastore, 1) := dX9_pass_k15.2.2.2.2.1
theorem dX9_pass_145 : decode cX9_pass 145 = .ok (.aload_n 0, 1) := dX9_pass_k15.2.2.2.2.2
set_option maxRecDepth 100000 in
theorem dX9_pass_k16 : (decode cX9_pass 146 = .ok (.getfield 50, 3)) ∧ (decode cX9_pass 149 = .ok (.iload_n 2, 1)) ∧ (decode cX9_pass 150 = .ok (.aload_n 0, 1)) ∧ (decode cX9_pass 151 = .ok (.getfield 56, 3)) ∧ (decode cX9_pass 154 = .ok (.iload_n 2, 1)) ∧ (decode cX9_pass 155 = .ok (.iaload, 1)) := by decide +kernel
theorem dX9_pass_146 : decode cX9_pass 146 = .ok (.getfield 50, 3) := dX9_pass_k16.1
theorem dX9_pass_149 : decode cX9_pass 149 = .ok (.iload_n 2, 1) := dX9_pass_k16.2.1
theorem dX9_pass_150 : decode cX9_pass 150 = .ok (.aload_n 0, 1) := dX9_pass_k16.2.2.1
theorem dX9_pass_151 : decode cX9_pass 151 = .ok (.getfield 56, 3) := dX9_pass_k16.2.2.2.1
theorem dX9_pass_154 : decode cX9_pass 154 = .ok (.iload_n 2, 1) := dX9_pass_k16.2.2.2.2.1
theorem dX9_pass_155 : decode cX9_pass 155 = .ok (.iaload, 1) := dX9_pass_k16.2.2.2.2.2
set_option maxRecDepth 100000 in
theorem dX9_pass_k17 : (decode cX9_pass 156 = .ok (.ifCond .ne 7, 3)) ∧ (decode cX9_pass 159 = .ok (.iconst 0, 1)) ∧ (decode cX9_pass 160 = .ok (.goto 4, 3)) ∧ (decode cX9_pass 163 = .ok (.iconst 1, 1)) ∧ (decode cX9_pass 164 = .ok (.iastore, 1)) ∧ (decode cX9_pass 165 = .ok (.iinc 2 1, 3)) := by decide +kernel
theorem dX9_pass_156 : decode cX9_pass 156 = .ok (.ifCond .ne 7, 3) := dX9_pass_k17.1
theorem dX9_pass_159 : decode cX9_pass 159 = .ok (.iconst 0, 1) := dX9_pass_k17.2.1
theorem dX9_pass_160 : decode cX9_pass 160 = .ok (.goto 4, 3) := dX9_pass_k17.2.2.1
theorem dX9_pass_163 : decode cX9_pass 163 = .ok (.iconst 1, 1) := dX9_pass_k17.2.2.2.1
theorem dX9_pass_164 : decode cX9_pass 164 = .ok (.iastore, 1) := dX9_pass_k17.2.2.2.2.1
theorem dX9_pass_165 : decode cX9_pass 165 = .ok (.iinc 2 1, 3) := dX9_pass_k17.2.2.2.2.2
set_option maxRecDepth 100000 in
theorem dX9_pass_k18 : (decode cX9_pass 168 = .ok (.goto (-60), 3)) ∧ (decode cX9_pass 171 = .ok (.iload_n 1, 1)) ∧ (decode cX9_pass 172 = .ok (.ireturn, 1)) := by decide +kernel
theorem dX9_pass_168 : decode cX9_pass 168 = .ok (.goto (-60), 3) := dX9_pass_k18.1
theorem dX9_pass_171 : decode cX9_pass 171 = .ok (.iload_n 1, 1) := dX9_pass_k18.2.1
theorem dX9_pass_172 : decode cX9_pass 172 = .ok (.ireturn, 1) := dX9_pass_k18.2.2
set_option maxRecDepth 100000 in
theorem dX9_isBusy_k19 : (decode cX9_isBusy 0 = .ok (.aload_n 0, 1)) ∧ (decode cX9_isBusy 1 = .ok (.getfield 50, 3)) ∧ (decode cX9_isBusy 4 = .ok (.iload_n 1, 1)) ∧ (decode cX9_isBusy 5 = .ok (.iaload, 1)) ∧ (decode cX9_isBusy 6 = .ok (.ifCond .le 7, 3)) ∧ (decode cX9_isBusy 9 = .ok (.iconst 1, 1)) := by decide +kernel
theorem dX9_isBusy_0 : decode cX9_isBusy 0 = .ok (.aload_n 0, 1) := dX9_isBusy_k19.1
theorem dX9_isBusy_1 : decode cX9_isBusy 1 = .ok (.getfield 50, 3) := dX9_isBusy_k19.2.1
theorem dX9_isBusy_4 : decode cX9_isBusy 4 = .ok (.iload_n 1, 1) := dX9_isBusy_k19.2.2.1
theorem dX9_isBusy_5 : decode cX9_isBusy 5 = .ok (.iaload, 1) := dX9_isBusy_k19.2.2.2.1
theorem dX9_isBusy_6 : decode cX9_isBusy 6 = .ok (.ifCond .le 7, 3) := dX9_isBusy_k19.2.2.2.2.1
theorem dX9_isBusy_9 : decode cX9_isBusy 9 = .ok (.iconst 1, 1) := dX9_isBusy_k19.2.2.2.2.2
set_option maxRecDepth 100000 in
theorem dX9_isBusy_k20 : (decode cX9_isBusy 10 = .ok (.goto 4, 3)) ∧ (decode cX9_isBusy 13 = .ok (.iconst 0, 1)) ∧ (decode cX9_isBusy 14 = .ok (.ireturn, 1)) := by decide +kernel
theorem dX9_isBusy_10 : decode cX9_isBusy 10 = .ok (.goto 4, 3) := dX9_isBusy_k20.1
theorem dX9_isBusy_13 : decode cX9_isBusy 13 = .ok (.iconst 0, 1) := dX9_isBusy_k20.2.1
theorem dX9_isBusy_14 : decode cX9_isBusy 14 = .ok (.ireturn, 1) := dX9_isBusy_k20.2.2
set_option maxRecDepth 100000 in
theorem dX9_whyNotTalk_k21 : (decode cX9_whyNotTalk 0 = .ok (.aload_n 0, 1)) ∧ (decode cX9_whyNotTalk 1 = .ok (.iload_n 1, 1)) ∧ (decode cX9_whyNotTalk 2 = .ok (.invokevirtual 121, 3)) ∧ (decode cX9_whyNotTalk 5 = .ok (.ifCond .eq 11, 3)) ∧ (decode cX9_whyNotTalk 8 = .ok (.aload_n 0, 1)) ∧ (decode cX9_whyNotTalk 9 = .ok (.iload_n 2, 1)) := by decide +kernel
theorem dX9_whyNotTalk_0 : decode cX9_whyNotTalk 0 = .ok (.aload_n 0, 1) := dX9_whyNotTalk_k21.1
theorem dX9_whyNotTalk_1 : decode cX9_whyNotTalk 1 = .ok (.iload_n 1, 1) := dX9_whyNotTalk_k21.2.1
theorem dX9_whyNotTalk_2 : decode cX9_whyNotTalk 2 = .ok (.invokevirtual 121, 3) := dX9_whyNotTalk_k21.2.2.1
theorem dX9_whyNotTalk_5 : decode cX9_whyNotTalk 5 = .ok (.ifCond .eq 11, 3) := dX9_whyNotTalk_k21.2.2.2.1
theorem dX9_whyNotTalk_8 : decode cX9_whyNotTalk 8 = .ok (.aload_n 0, 1) := dX9_whyNotTalk_k21.2.2.2.2.1
theorem dX9_whyNotTalk_9 : decode cX9_whyNotTalk 9 = .ok (.iload_n 2, 1) := dX9_whyNotTalk_k21.2.2.2.2.2
set_option maxRecDepth 100000 in
theorem dX9_whyNotTalk_k22 : (decode cX9_whyNotTalk 10 = .ok (.invokevirtual 121, 3)) ∧ (decode cX9_whyNotTalk 13 = .ok (.ifCond .ne 7, 3)) ∧ (decode cX9_whyNotTalk 16 = .ok (.iconst 1, 1)) ∧ (decode cX9_whyNotTalk 17 = .ok (.goto 43, 3)) ∧ (decode cX9_whyNotTalk 20 = .ok (.aload_n 0, 1)) ∧ (decode cX9_whyNotTalk 21 = .ok (.iload_n 1, 1)) := by decide +kernel
theorem dX9_whyNotTalk_10 : decode cX9_whyNotTalk 10 = .ok (.invokevirtual 121, 3) := dX9_whyNotTalk_k22.1
theorem dX9_whyNotTalk_13 : decode cX9_whyNotTalk 13 = .ok (.ifCond .ne 7, 3) := dX9_whyNotTalk_k22.2.1
theorem dX9_whyNotTalk_16 : decode cX9_whyNotTalk 16 = .ok (.iconst 1, 1) := dX9_whyNotTalk_k22.2.2.1
theorem dX9_whyNotTalk_17 : decode cX9_whyNotTalk 17 = .ok (.goto 43, 3) := dX9_whyNotTalk_k22.2.2.2.1
theorem dX9_whyNotTalk_20 : decode cX9_whyNotTalk 20 = .ok (.aload_n 0, 1) := dX9_whyNotTalk_k22.2.2.2.2.1
theorem dX9_whyNotTalk_21 : decode cX9_whyNotTalk 21 = .ok (.iload_n 1, 1) := dX9_whyNotTalk_k22.2.2.2.2.2
set_option maxRecDepth 100000 in
theorem dX9_whyNotTalk_k23 : (decode cX9_whyNotTalk 22 = .ok (.invokevirtual 151, 3)) ∧ (decode cX9_whyNotTalk 25 = .ok (.ifCond .ne 11, 3)) ∧ (decode cX9_whyNotTalk 28 = .ok (.aload_n 0, 1)) ∧ (decode cX9_whyNotTalk 29 = .ok (.iload_n 2, 1)) ∧ (decode cX9_whyNotTalk 30 = .ok (.invokevirtual 151, 3)) ∧ (decode cX9_whyNotTalk 33 = .ok (.ifCond .eq 7, 3)) := by decide +kernel
theorem dX9_whyNotTalk_22 : decode cX9_whyNotTalk 22 = .ok (.invokevirtual 151, 3) := dX9_whyNotTalk_k23.1
theorem dX9_whyNotTalk_25 : decode cX9_whyNotTalk 25 = .ok (.ifCond .ne 11, 3) := dX9_whyNotTalk_k23.2.1
theorem dX9_whyNotTalk_28 : decode cX9_whyNotTalk 28 = .ok (.aload_n 0, 1) := dX9_whyNotTalk_k23.2.2.1
theorem dX9_whyNotTalk_29 : decode cX9_whyNotTalk 29 = .ok (.iload_n 2, 1) := dX9_whyNotTalk_k23.2.2.2.1
theorem dX9_whyNotTalk_30 : decode cX9_whyNotTalk 30 = .ok (.invokevirtual 151, 3) := dX9_whyNotTalk_k23.2.2.2.2.1
theorem dX9_whyNotTalk_33 : decode cX9_whyNotTalk 33 = .ok (.ifCond .eq 7, 3) := dX9_whyNotTalk_k23.2.2.2.2.2
set_option maxRecDepth 100000 in
theorem dX9_whyNotTalk_k24 : (decode cX9_whyNotTalk 36 = .ok (.iconst 2, 1)) ∧ (decode cX9_whyNotTalk 37 = .ok (.goto 23, 3)) ∧ (decode cX9_whyNotTalk 40 = .ok (.aload_n 0, 1)) ∧ (decode cX9_whyNotTalk 41 = .ok (.getfield 47, 3)) ∧ (decode cX9_whyNotTalk 44 = .ok (.iload_n 1, 1)) ∧ (decode cX9_whyNotTalk 45 = .ok (.iaload, 1)) := by decide +kernel
theorem dX9_whyNotTalk_36 : decode cX9_whyNotTalk 36 = .ok (.iconst 2, 1) := dX9_whyNotTalk_k24.1
theorem dX9_whyNotTalk_37 : decode cX9_whyNotTalk 37 = .ok (.goto 23, 3) := dX9_whyNotTalk_k24.2.1
theorem dX9_whyNotTalk_40 : decode cX9_whyNotTalk 40 = .ok (.aload_n 0, 1) := dX9_whyNotTalk_k24.2.2.1
theorem dX9_whyNotTalk_41 : decode cX9_whyNotTalk 41 = .ok (.getfield 47, 3) := dX9_whyNotTalk_k24.2.2.2.1
theorem dX9_whyNotTalk_44 : decode cX9_whyNotTalk 44 = .ok (.iload_n 1, 1) := dX9_whyNotTalk_k24.2.2.2.2.1
theorem dX9_whyNotTalk_45 : decode cX9_whyNotTalk 45 = .ok (.iaload, 1) := dX9_whyNotTalk_k24.2.2.2.2.2
set_option maxRecDepth 100000 in
theorem dX9_whyNotTalk_k25 : (decode cX9_whyNotTalk 46 = .ok (.aload_n 0, 1)) ∧ (decode cX9_whyNotTalk 47 = .ok (.getfield 47, 3)) ∧ (decode cX9_whyNotTalk 50 = .ok (.iload_n 2, 1)) ∧ (decode cX9_whyNotTalk 51 = .ok (.iaload, 1)) ∧ (decode cX9_whyNotTalk 52 = .ok (.if_icmp .eq 7, 3)) ∧ (decode cX9_whyNotTalk 55 = .ok (.iconst 3, 1)) := by decide +kernel
theorem dX9_whyNotTalk_46 : decode cX9_whyNotTalk 46 = .ok (.aload_n 0, 1) := dX9_whyNotTalk_k25.1
theorem dX9_whyNotTalk_47 : decode cX9_whyNotTalk 47 = .ok (.getfield 47, 3) := dX9_whyNotTalk_k25.2.1
theorem dX9_whyNotTalk_50 : decode cX9_whyNotTalk 50 = .ok (.iload_n 2, 1) := dX9_whyNotTalk_k25.2.2.1
theorem dX9_whyNotTalk_51 : decode cX9_whyNotTalk 51 = .ok (.iaload, 1) := dX9_whyNotTalk_k25.2.2.2.1
theorem dX9_whyNotTalk_52 : decode cX9_whyNotTalk 52 = .ok (.if_icmp .eq 7, 3) := dX9_whyNotTalk_k25.2.2.2.2.1
theorem dX9_whyNotTalk_55 : decode cX9_whyNotTalk 55 = .ok (.iconst 3, 1) := dX9_whyNotTalk_k25.2.2.2.2.2
set_option maxRecDepth 100000 in
theorem dX9_whyNotTalk_k26 : (decode cX9_whyNotTalk 56 = .ok (.goto 4, 3)) ∧ (decode cX9_whyNotTalk 59 = .ok (.iconst 0, 1)) ∧ (decode cX9_whyNotTalk 60 = .ok (.ireturn, 1)) := by decide +kernel
theorem dX9_whyNotTalk_56 : decode cX9_whyNotTalk 56 = .ok (.goto 4, 3) := dX9_whyNotTalk_k26.1
theorem dX9_whyNotTalk_59 : decode cX9_whyNotTalk 59 = .ok (.iconst 0, 1) := dX9_whyNotTalk_k26.2.1
theorem dX9_whyNotTalk_60 : decode cX9_whyNotTalk 60 = .ok (.ireturn, 1) := dX9_whyNotTalk_k26.2.2
set_option maxRecDepth 100000 in
theorem dX9_talk_k27 : (decode cX9_talk 0 = .ok (.aload_n 0, 1)) ∧ (decode cX9_talk 1 = .ok (.getfield 50, 3)) ∧ (decode cX9_talk 4 = .ok (.iload_n 1, 1)) ∧ (decode cX9_talk 5 = .ok (.iconst 1, 1)) ∧ (decode cX9_talk 6 = .ok (.iastore, 1)) ∧ (decode cX9_talk 7 = .ok (.aload_n 0, 1)) := by decide +kernel
theorem dX9_talk_0 : decode cX9_talk 0 = .ok (.aload_n 0, 1) := dX9_talk_k27.1
theorem dX9_talk_1 : decode cX9_talk 1 = .ok (.getfield 50, 3) := dX9_talk_k27.2.1
theorem dX9_talk_4 : decode cX9_talk 4 = .ok (.iload_n 1, 1) := dX9_talk_k27.2.2.1
theorem dX9_talk_5 : decode cX9_talk 5 = .ok (.iconst 1, 1) := dX9_talk_k27.2.2.2.1
theorem dX9_talk_6 : decode cX9_talk 6 = .ok (.iastore, 1) := dX9_talk_k27.2.2.2.2.1
theorem dX9_talk_7 : decode cX9_talk 7 = .ok (.aload_n 0, 1) := dX9_talk_k27.2.2.2.2.2
set_option maxRecDepth 100000 in
theorem dX9_talk_k28 : (decode cX9_talk 8 = .ok (.getfield 50, 3)) ∧ (decode cX9_talk 11 = .ok (.iload_n 2, 1)) ∧ (decode cX9_talk 12 = .ok (.iconst 1, 1)) ∧ (decode cX9_talk 13 = .ok (.iastore, 1)) ∧ (decode cX9_talk 14 = .ok (.aload_n 0, 1)) ∧ (decode cX9_talk 15 = .ok (.getfield 53, 3)) := by decide +kernel
theorem dX9_talk_8 : decode cX9_talk 8 = .ok (.getfield 50, 3) := dX9_talk_k28.1
theorem dX9_talk_11 : decode cX9_talk 11 = .ok (.iload_n 2, 1) := dX9_talk_k28.2.1
theorem dX9_talk_12 : decode cX9_talk 12 = .ok (.iconst 1, 1) := dX9_talk_k28.2.2.1
theorem dX9_talk_13 : decode cX9_talk 13 = .ok (.iastore, 1) := dX9_talk_k28.2.2.2.1
theorem dX9_talk_14 : decode cX9_talk 14 = .ok (.aload_n 0, 1) := dX9_talk_k28.2.2.2.2.1
theorem dX9_talk_15 : decode cX9_talk 15 = .ok (.getfield 53, 3) := dX9_talk_k28.2.2.2.2.2
set_option maxRecDepth 100000 in
theorem dX9_talk_k29 : (decode cX9_talk 18 = .ok (.iload_n 1, 1)) ∧ (decode cX9_talk 19 = .ok (.iload_n 2, 1)) ∧ (decode cX9_talk 20 = .ok (.iastore, 1)) ∧ (decode cX9_talk 21 = .ok (.aload_n 0, 1)) ∧ (decode cX9_talk 22 = .ok (.getfield 53, 3)) ∧ (decode cX9_talk 25 = .ok (.iload_n 2, 1)) := by decide +kernel
theorem dX9_talk_18 : decode cX9_talk 18 = .ok (.iload_n 1, 1) := dX9_talk_k29.1
theorem dX9_talk_19 : decode cX9_talk 19 = .ok (.iload_n 2, 1) := dX9_talk_k29.2.1
theorem dX9_talk_20 : decode cX9_talk 20 = .ok (.iastore, 1) := dX9_talk_k29.2.2.1
theorem dX9_talk_21 : decode cX9_talk 21 = .ok (.aload_n 0, 1) := dX9_talk_k29.2.2.2.1
theorem dX9_talk_22 : decode cX9_talk 22 = .ok (.getfield 53, 3) := dX9_talk_k29.2.2.2.2.1
theorem dX9_talk_25 : decode cX9_talk 25 = .ok (.iload_n 2, 1) := dX9_talk_k29.2.2.2.2.2
set_option maxRecDepth 100000 in
theorem dX9_talk_k30 : (decode cX9_talk 26 = .ok (.iload_n 1, 1)) ∧ (decode cX9_talk 27 = .ok (.iastore, 1)) ∧ (decode cX9_talk 28 = .ok (.aload_n 0, 1)) ∧ (decode cX9_talk 29 = .ok (.getfield 56, 3)) ∧ (decode cX9_talk 32 = .ok (.iload_n 1, 1)) ∧ (decode cX9_talk 33 = .ok (.iload_n 3, 1)) := by decide +kernel
theorem dX9_talk_26 : decode cX9_talk 26 = .ok (.iload_n 1, 1) := dX9_talk_k30.1
theorem dX9_talk_27 : decode cX9_talk 27 = .ok (.iastore, 1) := dX9_talk_k30.2.1
theorem dX9_talk_28 : decode cX9_talk 28 = .ok (.aload_n 0, 1) := dX9_talk_k30.2.2.1
theorem dX9_talk_29 : decode cX9_talk 29 = .ok (.getfield 56, 3) := dX9_talk_k30.2.2.2.1
theorem dX9_talk_32 : decode cX9_talk 32 = .ok (.iload_n 1, 1) := dX9_talk_k30.2.2.2.2.1
theorem dX9_talk_33 : decode cX9_talk 33 = .ok (.iload_n 3, 1) := dX9_talk_k30.2.2.2.2.2
set_option maxRecDepth 100000 in
theorem dX9_talk_k31 : (decode cX9_talk 34 = .ok (.iastore, 1)) ∧ (decode cX9_talk 35 = .ok (.aload_n 0, 1)) ∧ (decode cX9_talk 36 = .ok (.getfield 56, 3)) ∧ (decode cX9_talk 39 = .ok (.iload_n 2, 1)) ∧ (decode cX9_talk 40 = .ok (.iload_n 3, 1)) ∧ (decode cX9_talk 41 = .ok (.iastore, 1)) := by decide +kernel
theorem dX9_talk_34 : decode cX9_talk 34 = .ok (.iastore, 1) := dX9_talk_k31.1
theorem dX9_talk_35 : decode cX9_talk 35 = .ok (.aload_n 0, 1) := dX9_talk_k31.2.1
theorem dX9_talk_36 : decode cX9_talk 36 = .ok (.getfield 56, 3) := dX9_talk_k31.2.2.1
theorem dX9_talk_39 : decode cX9_talk 39 = .ok (.iload_n 2, 1) := dX9_talk_k31.2.2.2.1
theorem dX9_talk_40 : decode cX9_talk 40 = .ok (.iload_n 3, 1) := dX9_talk_k31.2.2.2.2.1
theorem dX9_talk_41 : decode cX9_talk 41 = .ok (.iastore, 1) := dX9_talk_k31.2.2.2.2.2
theorem dX9_talk_42 : decode cX9_talk 42 = .ok (.return_, 1) := by decide +kernel
set_option maxRecDepth 100000 in
theorem dX9_sittingIn_k32 : (decode cX9_sittingIn 0 = .ok (.iconst 0, 1)) ∧ (decode cX9_sittingIn 1 = .ok (.istore_n 2, 1)) ∧ (decode cX9_sittingIn 2 = .ok (.iconst 0, 1)) ∧ (decode cX9_sittingIn 3 = .ok (.istore_n 3, 1)) ∧ (decode cX9_sittingIn 4 = .ok (.iload_n 3, 1)) ∧ (decode cX9_sittingIn 5 = .ok (.bipush 8, 2)) := by decide +kernel
theorem dX9_sittingIn_0 : decode cX9_sittingIn 0 = .ok (.iconst 0, 1) := dX9_sittingIn_k32.1
theorem dX9_sittingIn_1 : decode cX9_sittingIn 1 = .ok (.istore_n 2, 1) := dX9_sittingIn_k32.2.1
theorem dX9_sittingIn_2 : decode cX9_sittingIn 2 = .ok (.iconst 0, 1) := dX9_sittingIn_k32.2.2.1
theorem dX9_sittingIn_3 : decode cX9_sittingIn 3 = .ok (.istore_n 3, 1) := dX9_sittingIn_k32.2.2.2.1
theorem dX9_sittingIn_4 : decode cX9_sittingIn 4 = .ok (.iload_n 3, 1) := dX9_sittingIn_k32.2.2.2.2.1
theorem dX9_sittingIn_5 : decode cX9_sittingIn 5 = .ok (.bipush 8, 2) := dX9_sittingIn_k32.2.2.2.2.2
set_option maxRecDepth 100000 in
theorem dX9_sittingIn_k33 : (decode cX9_sittingIn 7 = .ok (.if_icmp .ge 48, 3)) ∧ (decode cX9_sittingIn 10 = .ok (.iload_n 2, 1)) ∧ (decode cX9_sittingIn 11 = .ok (.aload_n 0, 1)) ∧ (decode cX9_sittingIn 12 = .ok (.getfield 88, 3)) ∧ (decode cX9_sittingIn 15 = .ok (.iload_n 3, 1)) ∧ (decode cX9_sittingIn 16 = .ok (.invokestatic 98, 3)) := by decide +kernel
theorem dX9_sittingIn_7 : decode cX9_sittingIn 7 = .ok (.if_icmp .ge 48, 3) := dX9_sittingIn_k33.1
theorem dX9_sittingIn_10 : decode cX9_sittingIn 10 = .ok (.iload_n 2, 1) := dX9_sittingIn_k33.2.1
theorem dX9_sittingIn_11 : decode cX9_sittingIn 11 = .ok (.aload_n 0, 1) := dX9_sittingIn_k33.2.2.1
theorem dX9_sittingIn_12 : decode cX9_sittingIn 12 = .ok (.getfield 88, 3) := dX9_sittingIn_k33.2.2.2.1
theorem dX9_sittingIn_15 : decode cX9_sittingIn 15 = .ok (.iload_n 3, 1) := dX9_sittingIn_k33.2.2.2.2.1
theorem dX9_sittingIn_16 : decode cX9_sittingIn 16 = .ok (.invokestatic 98, 3) := dX9_sittingIn_k33.2.2.2.2.2
set_option maxRecDepth 100000 in
theorem dX9_sittingIn_k34 : (decode cX9_sittingIn 19 = .ok (.ifCond .eq 27, 3)) ∧ (decode cX9_sittingIn 22 = .ok (.aload_n 0, 1)) ∧ (decode cX9_sittingIn 23 = .ok (.getfield 50, 3)) ∧ (decode cX9_sittingIn 26 = .ok (.iload_n 3, 1)) ∧ (decode cX9_sittingIn 27 = .ok (.iaload, 1)) ∧ (decode cX9_sittingIn 28 = .ok (.iconst 2, 1)) := by decide +kernel
theorem dX9_sittingIn_19 : decode cX9_sittingIn 19 = .ok (.ifCond .eq 27, 3) := dX9_sittingIn_k34.1
theorem dX9_sittingIn_22 : decode cX9_sittingIn 22 = .ok (.aload_n 0, 1) := dX9_sittingIn_k34.2.1
theorem dX9_sittingIn_23 : decode cX9_sittingIn 23 = .ok (.getfield 50, 3) := dX9_sittingIn_k34.2.2.1
theorem dX9_sittingIn_26 : decode cX9_sittingIn 26 = .ok (.iload_n 3, 1) := dX9_sittingIn_k34.2.2.2.1
theorem dX9_sittingIn_27 : decode cX9_sittingIn 27 = .ok (.iaload, 1) := dX9_sittingIn_k34.2.2.2.2.1
theorem dX9_sittingIn_28 : decode cX9_sittingIn 28 = .ok (.iconst 2, 1) := dX9_sittingIn_k34.2.2.2.2.2
set_option maxRecDepth 100000 in
theorem dX9_sittingIn_k35 : (decode cX9_sittingIn 29 = .ok (.if_icmp .ne 17, 3)) ∧ (decode cX9_sittingIn 32 = .ok (.aload_n 0, 1)) ∧ (decode cX9_sittingIn 33 = .ok (.getfield 47, 3)) ∧ (decode cX9_sittingIn 36 = .ok (.iload_n 3, 1)) ∧ (decode cX9_sittingIn 37 = .ok (.iaload, 1)) ∧ (decode cX9_sittingIn 38 = .ok (.iload_n 1, 1)) := by decide +kernel
theorem dX9_sittingIn_29 : decode cX9_sittingIn 29 = .ok (.if_icmp .ne 17, 3) := dX9_sittingIn_k35.1
theorem dX9_sittingIn_32 : decode cX9_sittingIn 32 = .ok (.aload_n 0, 1) := dX9_sittingIn_k35.2.1
theorem dX9_sittingIn_33 : decode cX9_sittingIn 33 = .ok (.getfield 47, 3) := dX9_sittingIn_k35.2.2.1
theorem dX9_sittingIn_36 : decode cX9_sittingIn 36 = .ok (.iload_n 3, 1) := dX9_sittingIn_k35.2.2.2.1
theorem dX9_sittingIn_37 : decode cX9_sittingIn 37 = .ok (.iaload, 1) := dX9_sittingIn_k35.2.2.2.2.1
theorem dX9_sittingIn_38 : decode cX9_sittingIn 38 = .ok (.iload_n 1, 1) := dX9_sittingIn_k35.2.2.2.2.2
set_option maxRecDepth 100000 in
theorem dX9_sittingIn_k36 : (decode cX9_sittingIn 39 = .ok (.if_icmp .ne 7, 3)) ∧ (decode cX9_sittingIn 42 = .ok (.iconst 1, 1)) ∧ (decode cX9_sittingIn 43 = .ok (.goto 4, 3)) ∧ (decode cX9_sittingIn 46 = .ok (.iconst 0, 1)) ∧ (decode cX9_sittingIn 47 = .ok (.iadd, 1)) ∧ (decode cX9_sittingIn 48 = .ok (.istore_n 2, 1)) := by decide +kernel
theorem dX9_sittingIn_39 : decode cX9_sittingIn 39 = .ok (.if_icmp .ne 7, 3) := dX9_sittingIn_k36.1
theorem dX9_sittingIn_42 : decode cX9_sittingIn 42 = .ok (.iconst 1, 1) := dX9_sittingIn_k36.2.1
theorem dX9_sittingIn_43 : decode cX9_sittingIn 43 = .ok (.goto 4, 3) := dX9_sittingIn_k36.2.2.1
theorem dX9_sittingIn_46 : decode cX9_sittingIn 46 = .ok (.iconst 0, 1) := dX9_sittingIn_k36.2.2.2.1
theorem dX9_sittingIn_47 : decode cX9_sittingIn 47 = .ok (.iadd, 1) := dX9_sittingIn_k36.2.2.2.2.1
theorem dX9_sittingIn_48 : decode cX9_sittingIn 48 = .ok (.istore_n 2, 1) := dX9_sittingIn_k36.2.2.2.2.2
set_option maxRecDepth 100000 in
theorem dX9_sittingIn_k37 : (decode cX9_sittingIn 49 = .ok (.iinc 3 1, 3)) ∧ (decode cX9_sittingIn 52 = .ok (.goto (-48), 3)) ∧ (decode cX9_sittingIn 55 = .ok (.iload_n 2, 1)) ∧ (decode cX9_sittingIn 56 = .ok (.ireturn, 1)) := by decide +kernel
theorem dX9_sittingIn_49 : decode cX9_sittingIn 49 = .ok (.iinc 3 1, 3) := dX9_sittingIn_k37.1
theorem dX9_sittingIn_52 : decode cX9_sittingIn 52 = .ok (.goto (-48), 3) := dX9_sittingIn_k37.2.1
theorem dX9_sittingIn_55 : decode cX9_sittingIn 55 = .ok (.iload_n 2, 1) := dX9_sittingIn_k37.2.2.1
theorem dX9_sittingIn_56 : decode cX9_sittingIn 56 = .ok (.ireturn, 1) := dX9_sittingIn_k37.2.2.2
set_option maxRecDepth 100000 in
theorem dX9_whyNotDo_k38 : (decode cX9_whyNotDo 0 = .ok (.aload_n 0, 1)) ∧ (decode cX9_whyNotDo 1 = .ok (.iload_n 1, 1)) ∧ (decode cX9_whyNotDo 2 = .ok (.invokevirtual 121, 3)) ∧ (decode cX9_whyNotDo 5 = .ok (.ifCond .ne 5, 3)) ∧ (decode cX9_whyNotDo 8 = .ok (.iconst 1, 1)) ∧ (decode cX9_whyNotDo 9 = .ok (.ireturn, 1)) := by decide +kernel
theorem dX9_whyNotDo_0 : decode cX9_whyNotDo 0 = .ok (.aload_n 0, 1) := dX9_whyNotDo_k38.1
theorem dX9_whyNotDo_1 : decode cX9_whyNotDo 1 = .ok (.iload_n 1, 1) := dX9_whyNotDo_k38.2.1
theorem dX9_whyNotDo_2 : decode cX9_whyNotDo 2 = .ok (.invokevirtual 121, 3) := dX9_whyNotDo_k38.2.2.1
theorem dX9_whyNotDo_5 : decode cX9_whyNotDo 5 = .ok (.ifCond .ne 5, 3) := dX9_whyNotDo_k38.2.2.2.1
theorem dX9_whyNotDo_8 : decode cX9_whyNotDo 8 = .ok (.iconst 1, 1) := dX9_whyNotDo_k38.2.2.2.2.1
theorem dX9_whyNotDo_9 : decode cX9_whyNotDo 9 = .ok (.ireturn, 1) := dX9_whyNotDo_k38.2.2.2.2.2
set_option maxRecDepth 100000 in
theorem dX9_whyNotDo_k39 : (decode cX9_whyNotDo 10 = .ok (.aload_n 0, 1)) ∧ (decode cX9_whyNotDo 11 = .ok (.iload_n 1, 1)) ∧ (decode cX9_whyNotDo 12 = .ok (.invokevirtual 151, 3)) ∧ (decode cX9_whyNotDo 15 = .ok (.iload_n 2, 1)) ∧ (decode cX9_whyNotDo 16 = .ok (.bipush 94, 2)) ∧ (decode cX9_whyNotDo 18 = .ok (.if_icmp .ne 7, 3)) := by decide +kernel
theorem dX9_whyNotDo_10 : decode cX9_whyNotDo 10 = .ok (.aload_n 0, 1) := dX9_whyNotDo_k39.1
theorem dX9_whyNotDo_11 : decode cX9_whyNotDo 11 = .ok (.iload_n 1, 1) := dX9_whyNotDo_k39.2.1
theorem dX9_whyNotDo_12 : decode cX9_whyNotDo 12 = .ok (.invokevirtual 151, 3) := dX9_whyNotDo_k39.2.2.1
theorem dX9_whyNotDo_15 : decode cX9_whyNotDo 15 = .ok (.iload_n 2, 1) := dX9_whyNotDo_k39.2.2.2.1
theorem dX9_whyNotDo_16 : decode cX9_whyNotDo 16 = .ok (.bipush 94, 2) := dX9_whyNotDo_k39.2.2.2.2.1
theorem dX9_whyNotDo_18 : decode cX9_whyNotDo 18 = .ok (.if_icmp .ne 7, 3) := dX9_whyNotDo_k39.2.2.2.2.2
set_option maxRecDepth 100000 in
theorem dX9_whyNotDo_k40 : (decode cX9_whyNotDo 21 = .ok (.iconst 1, 1)) ∧ (decode cX9_whyNotDo 22 = .ok (.goto 4, 3)) ∧ (decode cX9_whyNotDo 25 = .ok (.iconst 0, 1)) ∧ (decode cX9_whyNotDo 26 = .ok (.if_icmp .eq 5, 3)) ∧ (decode cX9_whyNotDo 29 = .ok (.iconst 2, 1)) ∧ (decode cX9_whyNotDo 30 = .ok (.ireturn, 1)) := by decide +kernel
theorem dX9_whyNotDo_21 : decode cX9_whyNotDo 21 = .ok (.iconst 1, 1) := dX9_whyNotDo_k40.1
theorem dX9_whyNotDo_22 : decode cX9_whyNotDo 22 = .ok (.goto 4, 3) := dX9_whyNotDo_k40.2.1
theorem dX9_whyNotDo_25 : decode cX9_whyNotDo 25 = .ok (.iconst 0, 1) := dX9_whyNotDo_k40.2.2.1
theorem dX9_whyNotDo_26 : decode cX9_whyNotDo 26 = .ok (.if_icmp .eq 5, 3) := dX9_whyNotDo_k40.2.2.2.1
theorem dX9_whyNotDo_29 : decode cX9_whyNotDo 29 = .ok (.iconst 2, 1) := dX9_whyNotDo_k40.2.2.2.2.1
theorem dX9_whyNotDo_30 : decode cX9_whyNotDo 30 = .ok (.ireturn, 1) := dX9_whyNotDo_k40.2.2.2.2.2
set_option maxRecDepth 100000 in
theorem dX9_whyNotDo_k41 : (decode cX9_whyNotDo 31 = .ok (.iload_n 2, 1)) ∧ (decode cX9_whyNotDo 32 = .ok (.bipush 95, 2)) ∧ (decode cX9_whyNotDo 34 = .ok (.if_icmp .ne 33, 3)) ∧ (decode cX9_whyNotDo 37 = .ok (.aload_n 0, 1)) ∧ (decode cX9_whyNotDo 38 = .ok (.aload_n 0, 1)) ∧ (decode cX9_whyNotDo 39 = .ok (.getfield 47, 3)) := by decide +kernel
theorem dX9_whyNotDo_31 : decode cX9_whyNotDo 31 = .ok (.iload_n 2, 1) := dX9_whyNotDo_k41.1
theorem dX9_whyNotDo_32 : decode cX9_whyNotDo 32 = .ok (.bipush 95, 2) := dX9_whyNotDo_k41.2.1
theorem dX9_whyNotDo_34 : decode cX9_whyNotDo 34 = .ok (.if_icmp .ne 33, 3) := dX9_whyNotDo_k41.2.2.1
theorem dX9_whyNotDo_37 : decode cX9_whyNotDo 37 = .ok (.aload_n 0, 1) := dX9_whyNotDo_k41.2.2.2.1
theorem dX9_whyNotDo_38 : decode cX9_whyNotDo 38 = .ok (.aload_n 0, 1) := dX9_whyNotDo_k41.2.2.2.2.1
theorem dX9_whyNotDo_39 : decode cX9_whyNotDo 39 = .ok (.getfield 47, 3) := dX9_whyNotDo_k41.2.2.2.2.2
set_option maxRecDepth 100000 in
theorem dX9_whyNotDo_k42 : (decode cX9_whyNotDo 42 = .ok (.iload_n 1, 1)) ∧ (decode cX9_whyNotDo 43 = .ok (.iaload, 1)) ∧ (decode cX9_whyNotDo 44 = .ok (.invokevirtual 154, 3)) ∧ (decode cX9_whyNotDo 47 = .ok (.aload_n 0, 1)) ∧ (decode cX9_whyNotDo 48 = .ok (.getfield 20, 3)) ∧ (decode cX9_whyNotDo 51 = .ok (.aload_n 0, 1)) := by decide +kernel
theorem dX9_whyNotDo_42 : decode cX9_whyNotDo 42 = .ok (.iload_n 1, 1) := dX9_whyNotDo_k42.1
theorem dX9_whyNotDo_43 : decode cX9_whyNotDo 43 = .ok (.iaload, 1) := dX9_whyNotDo_k42.2.1
theorem dX9_whyNotDo_44 : decode cX9_whyNotDo 44 = .ok (.invokevirtual 154, 3) := dX9_whyNotDo_k42.2.2.1
theorem dX9_whyNotDo_47 : decode cX9_whyNotDo 47 = .ok (.aload_n 0, 1) := dX9_whyNotDo_k42.2.2.2.1
theorem dX9_whyNotDo_48 : decode cX9_whyNotDo 48 = .ok (.getfield 20, 3) := dX9_whyNotDo_k42.2.2.2.2.1
theorem dX9_whyNotDo_51 : decode cX9_whyNotDo 51 = .ok (.aload_n 0, 1) := dX9_whyNotDo_k42.2.2.2.2.2
set_option maxRecDepth 100000 in
theorem dX9_whyNotDo_k43 : (decode cX9_whyNotDo 52 = .ok (.getfield 47, 3)) ∧ (decode cX9_whyNotDo 55 = .ok (.iload_n 1, 1)) ∧ (decode cX9_whyNotDo 56 = .ok (.iaload, 1)) ∧ (decode cX9_whyNotDo 57 = .ok (.iaload, 1)) ∧ (decode cX9_whyNotDo 58 = .ok (.if_icmp .ge 7, 3)) ∧ (decode cX9_whyNotDo 61 = .ok (.iconst 0, 1)) := by decide +kernel
theorem dX9_whyNotDo_52 : decode cX9_whyNotDo 52 = .ok (.getfield 47, 3) := dX9_whyNotDo_k43.1
theorem dX9_whyNotDo_55 : decode cX9_whyNotDo 55 = .ok (.iload_n 1, 1) := dX9_whyNotDo_k43.2.1
theorem dX9_whyNotDo_56 : decode cX9_whyNotDo 56 = .ok (.iaload, 1) := dX9_whyNotDo_k43.2.2.1
theorem dX9_whyNotDo_57 : decode cX9_whyNotDo 57 = .ok (.iaload, 1) := dX9_whyNotDo_k43.2.2.2.1
theorem dX9_whyNotDo_58 : decode cX9_whyNotDo 58 = .ok (.if_icmp .ge 7, 3) := dX9_whyNotDo_k43.2.2.2.2.1
theorem dX9_whyNotDo_61 : decode cX9_whyNotDo 61 = .ok (.iconst 0, 1) := dX9_whyNotDo_k43.2.2.2.2.2
set_option maxRecDepth 100000 in
theorem dX9_whyNotDo_k44 : (decode cX9_whyNotDo 62 = .ok (.goto 4, 3)) ∧ (decode cX9_whyNotDo 65 = .ok (.iconst 4, 1)) ∧ (decode cX9_whyNotDo 66 = .ok (.ireturn, 1)) ∧ (decode cX9_whyNotDo 67 = .ok (.iload_n 2, 1)) ∧ (decode cX9_whyNotDo 68 = .ok (.bipush 94, 2)) ∧ (decode cX9_whyNotDo 70 = .ok (.if_icmp .eq 25, 3)) := by decide +kernel
theorem dX9_whyNotDo_62 : decode cX9_whyNotDo 62 = .ok (.goto 4, 3) := dX9_whyNotDo_k44.1
theorem dX9_whyNotDo_65 : decode cX9_whyNotDo 65 = .ok (.iconst 4, 1) := dX9_whyNotDo_k44.2.1
theorem dX9_whyNotDo_66 : decode cX9_whyNotDo 66 = .ok (.ireturn, 1) := dX9_whyNotDo_k44.2.2.1
theorem dX9_whyNotDo_67 : decode cX9_whyNotDo 67 = .ok (.iload_n 2, 1) := dX9_whyNotDo_k44.2.2.2.1
theorem dX9_whyNotDo_68 : decode cX9_whyNotDo 68 = .ok (.bipush 94, 2) := dX9_whyNotDo_k44.2.2.2.2.1
theorem dX9_whyNotDo_70 : decode cX9_whyNotDo 70 = .ok (.if_icmp .eq 25, 3) := dX9_whyNotDo_k44.2.2.2.2.2
set_option maxRecDepth 100000 in
theorem dX9_whyNotDo_k45 : (decode cX9_whyNotDo 73 = .ok (.aload_n 0, 1)) ∧ (decode cX9_whyNotDo 74 = .ok (.getfield 23, 3)) ∧ (decode cX9_whyNotDo 77 = .ok (.bipush 6, 2)) ∧ (decode cX9_whyNotDo 79 = .ok (.aload_n 0, 1)) ∧ (decode cX9_whyNotDo 80 = .ok (.getfield 47, 3)) ∧ (decode cX9_whyNotDo 83 = .ok (.iload_n 1, 1)) := by decide +kernel
theorem dX9_whyNotDo_73 : decode cX9_whyNotDo 73 = .ok (.aload_n 0, 1) := dX9_whyNotDo_k45.1
theorem dX9_whyNotDo_74 : decode cX9_whyNotDo 74 = .ok (.getfield 23, 3) := dX9_whyNotDo_k45.2.1
theorem dX9_whyNotDo_77 : decode cX9_whyNotDo 77 = .ok (.bipush 6, 2) := dX9_whyNotDo_k45.2.2.1
theorem dX9_whyNotDo_79 : decode cX9_whyNotDo 79 = .ok (.aload_n 0, 1) := dX9_whyNotDo_k45.2.2.2.1
theorem dX9_whyNotDo_80 : decode cX9_whyNotDo 80 = .ok (.getfield 47, 3) := dX9_whyNotDo_k45.2.2.2.2.1
theorem dX9_whyNotDo_83 : decode cX9_whyNotDo 83 = .ok (.iload_n 1, 1) := dX9_whyNotDo_k45.2.2.2.2.2
set_option maxRecDepth 100000 in
theorem dX9_whyNotDo_k46 : (decode cX9_whyNotDo 84 = .ok (.iaload, 1)) ∧ (decode cX9_whyNotDo 85 = .ok (.imul, 1)) ∧ (decode cX9_whyNotDo 86 = .ok (.iload_n 2, 1)) ∧ (decode cX9_whyNotDo 87 = .ok (.iadd, 1)) ∧ (decode cX9_whyNotDo 88 = .ok (.bipush 97, 2)) ∧ (decode cX9_whyNotDo 90 = .ok (.isub, 1)) := by decide +kernel
theorem dX9_whyNotDo_84 : decode cX9_whyNotDo 84 = .ok (.iaload, 1) := dX9_whyNotDo_k46.1
theorem dX9_whyNotDo_85 : decode cX9_whyNotDo 85 = .ok (.imul, 1) := dX9_whyNotDo_k46.2.1
theorem dX9_whyNotDo_86 : decode cX9_whyNotDo 86 = .ok (.iload_n 2, 1) := dX9_whyNotDo_k46.2.2.1
theorem dX9_whyNotDo_87 : decode cX9_whyNotDo 87 = .ok (.iadd, 1) := dX9_whyNotDo_k46.2.2.2.1
theorem dX9_whyNotDo_88 : decode cX9_whyNotDo 88 = .ok (.bipush 97, 2) := dX9_whyNotDo_k46.2.2.2.2.1
theorem dX9_whyNotDo_90 : decode cX9_whyNotDo 90 = .ok (.isub, 1) := dX9_whyNotDo_k46.2.2.2.2.2
set_option maxRecDepth 100000 in
theorem dX9_whyNotDo_k47 : (decode cX9_whyNotDo 91 = .ok (.iaload, 1)) ∧ (decode cX9_whyNotDo 92 = .ok (.ifCond .le 7, 3)) ∧ (decode cX9_whyNotDo 95 = .ok (.iconst 0, 1)) ∧ (decode cX9_whyNotDo 96 = .ok (.goto 4, 3)) ∧ (decode cX9_whyNotDo 99 = .ok (.iconst 5, 1)) ∧ (decode cX9_whyNotDo 100 = .ok (.ireturn, 1)) := by decide +kernel
theorem dX9_whyNotDo_91 : decode cX9_whyNotDo 91 = .ok (.iaload, 1) := dX9_whyNotDo_k47.1
theorem dX9_whyNotDo_92 : decode cX9_whyNotDo 92 = .ok (.ifCond .le 7, 3) := dX9_whyNotDo_k47.2.1
theorem dX9_whyNotDo_95 : decode cX9_whyNotDo 95 = .ok (.iconst 0, 1) := dX9_whyNotDo_k47.2.2.1
theorem dX9_whyNotDo_96 : decode cX9_whyNotDo 96 = .ok (.goto 4, 3) := dX9_whyNotDo_k47.2.2.2.1
theorem dX9_whyNotDo_99 : decode cX9_whyNotDo 99 = .ok (.iconst 5, 1) := dX9_whyNotDo_k47.2.2.2.2.1
theorem dX9_whyNotDo_100 : decode cX9_whyNotDo 100 = .ok (.ireturn, 1) := dX9_whyNotDo_k47.2.2.2.2.2
set_option maxRecDepth 100000 in
theorem dX9_act_k48 : (decode cX9_act 0 = .ok (.iload_n 2, 1)) ∧ (decode cX9_act 1 = .ok (.bipush 94, 2)) ∧ (decode cX9_act 3 = .ok (.if_icmp .ne 55, 3)) ∧ (decode cX9_act 6 = .ok (.aload_n 0, 1)) ∧ (decode cX9_act 7 = .ok (.getfield 50, 3)) ∧ (decode cX9_act 10 = .ok (.iload_n 1, 1)) := by decide +kernel
theorem dX9_act_0 : decode cX9_act 0 = .ok (.iload_n 2, 1) := dX9_act_k48.1
theorem dX9_act_1 : decode cX9_act 1 = .ok (.bipush 94, 2) := dX9_act_k48.2.1
theorem dX9_act_3 : decode cX9_act 3 = .ok (.if_icmp .ne 55, 3) := dX9_act_k48.2.2.1
theorem dX9_act_6 : decode cX9_act 6 = .ok (.aload_n 0, 1) := dX9_act_k48.2.2.2.1
theorem dX9_act_7 : decode cX9_act 7 = .ok (.getfield 50, 3) := dX9_act_k48.2.2.2.2.1
theorem dX9_act_10 : decode cX9_act 10 = .ok (.iload_n 1, 1) := dX9_act_k48.2.2.2.2.2
set_option maxRecDepth 100000 in
theorem dX9_act_k49 : (decode cX9_act 11 = .ok (.iaload, 1)) ∧ (decode cX9_act 12 = .ok (.iconst 1, 1)) ∧ (decode cX9_act 13 = .ok (.if_icmp .ne 12, 3)) ∧ (decode cX9_act 16 = .ok (.aload_n 0, 1)) ∧ (decode cX9_act 17 = .ok (.getfield 53, 3)) ∧ (decode cX9_act 20 = .ok (.iload_n 1, 1)) := by decide +kernel
theorem dX9_act_11 : decode cX9_act 11 = .ok (.iaload, 1) := dX9_act_k49.1
theorem dX9_act_12 : decode cX9_act 12 = .ok (.iconst 1, 1) := dX9_act_k49.2.1
theorem dX9_act_13 : decode cX9_act 13 = .ok (.if_icmp .ne 12, 3) := dX9_act_k49.2.2.1
theorem dX9_act_16 : decode cX9_act 16 = .ok (.aload_n 0, 1) := dX9_act_k49.2.2.2.1
theorem dX9_act_17 : decode cX9_act 17 = .ok (.getfield 53, 3) := dX9_act_k49.2.2.2.2.1
theorem dX9_act_20 : decode cX9_act 20 = .ok (.iload_n 1, 1) := dX9_act_k49.2.2.2.2.2
set_option maxRecDepth 100000 in
theorem dX9_act_k50 : (decode cX9_act 21 = .ok (.iaload, 1)) ∧ (decode cX9_act 22 = .ok (.goto 4, 3)) ∧ (decode cX9_act 25 = .ok (.iload_n 1, 1)) ∧ (decode cX9_act 26 = .ok (.istore_n 3, 1)) ∧ (decode cX9_act 27 = .ok (.aload_n 0, 1)) ∧ (decode cX9_act 28 = .ok (.getfield 50, 3)) := by decide +kernel
theorem dX9_act_21 : decode cX9_act 21 = .ok (.iaload, 1) := dX9_act_k50.1
theorem dX9_act_22 : decode cX9_act 22 = .ok (.goto 4, 3) := dX9_act_k50.2.1
theorem dX9_act_25 : decode cX9_act 25 = .ok (.iload_n 1, 1) := dX9_act_k50.2.2.1
theorem dX9_act_26 : decode cX9_act 26 = .ok (.istore_n 3, 1) := dX9_act_k50.2.2.2.1
theorem dX9_act_27 : decode cX9_act 27 = .ok (.aload_n 0, 1) := dX9_act_k50.2.2.2.2.1
theorem dX9_act_28 : decode cX9_act 28 = .ok (.getfield 50, 3) := dX9_act_k50.2.2.2.2.2
set_option maxRecDepth 100000 in
theorem dX9_act_k51 : (decode cX9_act 31 = .ok (.iload_n 3, 1)) ∧ (decode cX9_act 32 = .ok (.iconst 0, 1)) ∧ (decode cX9_act 33 = .ok (.iastore, 1)) ∧ (decode cX9_act 34 = .ok (.aload_n 0, 1)) ∧ (decode cX9_act 35 = .ok (.getfield 56, 3)) ∧ (decode cX9_act 38 = .ok (.iload_n 3, 1)) := by decide +kernel
theorem dX9_act_31 : decode cX9_act 31 = .ok (.iload_n 3, 1) := dX9_act_k51.1
theorem dX9_act_32 : decode cX9_act 32 = .ok (.iconst 0, 1) := dX9_act_k51.2.1
theorem dX9_act_33 : decode cX9_act 33 = .ok (.iastore, 1) := dX9_act_k51.2.2.1
theorem dX9_act_34 : decode cX9_act 34 = .ok (.aload_n 0, 1) := dX9_act_k51.2.2.2.1
theorem dX9_act_35 : decode cX9_act 35 = .ok (.getfield 56, 3) := dX9_act_k51.2.2.2.2.1
theorem dX9_act_38 : decode cX9_act 38 = .ok (.iload_n 3, 1) := dX9_act_k51.2.2.2.2.2
set_option maxRecDepth 100000 in
theorem dX9_act_k52 : (decode cX9_act 39 = .ok (.iconst 0, 1)) ∧ (decode cX9_act 40 = .ok (.iastore, 1)) ∧ (decode cX9_act 41 = .ok (.aload_n 0, 1)) ∧ (decode cX9_act 42 = .ok (.getfield 50, 3)) ∧ (decode cX9_act 45 = .ok (.iload_n 1, 1)) ∧ (decode cX9_act 46 = .ok (.iconst 0, 1)) := by decide +kernel
theorem dX9_act_39 : decode cX9_act 39 = .ok (.iconst 0, 1) := dX9_act_k52.1
theorem dX9_act_40 : decode cX9_act 40 = .ok (.iastore, 1) := dX9_act_k52.2.1
theorem dX9_act_41 : decode cX9_act 41 = .ok (.aload_n 0, 1) := dX9_act_k52.2.2.1
theorem dX9_act_42 : decode cX9_act 42 = .ok (.getfield 50, 3) := dX9_act_k52.2.2.2.1
theorem dX9_act_45 : decode cX9_act 45 = .ok (.iload_n 1, 1) := dX9_act_k52.2.2.2.2.1
theorem dX9_act_46 : decode cX9_act 46 = .ok (.iconst 0, 1) := dX9_act_k52.2.2.2.2.2
set_option maxRecDepth 100000 in
theorem dX9_act_k53 : (decode cX9_act 47 = .ok (.iastore, 1)) ∧ (decode cX9_act 48 = .ok (.aload_n 0, 1)) ∧ (decode cX9_act 49 = .ok (.getfield 56, 3)) ∧ (decode cX9_act 52 = .ok (.iload_n 1, 1)) ∧ (decode cX9_act 53 = .ok (.iconst 0, 1)) ∧ (decode cX9_act 54 = .ok (.iastore, 1)) := by decide +kernel
theorem dX9_act_47 : decode cX9_act 47 = .ok (.iastore, 1) := dX9_act_k53.1
theorem dX9_act_48 : decode cX9_act 48 = .ok (.aload_n 0, 1) := dX9_act_k53.2.1
theorem dX9_act_49 : decode cX9_act 49 = .ok (.getfield 56, 3) := dX9_act_k53.2.2.1
theorem dX9_act_52 : decode cX9_act 52 = .ok (.iload_n 1, 1) := dX9_act_k53.2.2.2.1
theorem dX9_act_53 : decode cX9_act 53 = .ok (.iconst 0, 1) := dX9_act_k53.2.2.2.2.1
theorem dX9_act_54 : decode cX9_act 54 = .ok (.iastore, 1) := dX9_act_k53.2.2.2.2.2
set_option maxRecDepth 100000 in
theorem dX9_act_k54 : (decode cX9_act 55 = .ok (.goto 41, 3)) ∧ (decode cX9_act 58 = .ok (.aload_n 0, 1)) ∧ (decode cX9_act 59 = .ok (.getfield 50, 3)) ∧ (decode cX9_act 62 = .ok (.iload_n 1, 1)) ∧ (decode cX9_act 63 = .ok (.iload_n 2, 1)) ∧ (decode cX9_act 64 = .ok (.bipush 95, 2)) := by decide +kernel
theorem dX9_act_55 : decode cX9_act 55 = .ok (.goto 41, 3) := dX9_act_k54.1
theorem dX9_act_58 : decode cX9_act 58 = .ok (.aload_n 0, 1) := dX9_act_k54.2.1
theorem dX9_act_59 : decode cX9_act 59 = .ok (.getfield 50, 3) := dX9_act_k54.2.2.1
theorem dX9_act_62 : decode cX9_act 62 = .ok (.iload_n 1, 1) := dX9_act_k54.2.2.2.1
theorem dX9_act_63 : decode cX9_act 63 = .ok (.iload_n 2, 1) := dX9_act_k54.2.2.2.2.1
theorem dX9_act_64 : decode cX9_act 64 = .ok (.bipush 95, 2) := dX9_act_k54.2.2.2.2.2
set_option maxRecDepth 100000 in
theorem dX9_act_k55 : (decode cX9_act 66 = .ok (.if_icmp .ne 7, 3)) ∧ (decode cX9_act 69 = .ok (.iconst 2, 1)) ∧ (decode cX9_act 70 = .ok (.goto 4, 3)) ∧ (decode cX9_act 73 = .ok (.iconst 3, 1)) ∧ (decode cX9_act 74 = .ok (.iastore, 1)) ∧ (decode cX9_act 75 = .ok (.aload_n 0, 1)) := by decide +kernel
theorem dX9_act_66 : decode cX9_act 66 = .ok (.if_icmp .ne 7, 3) := dX9_act_k55.1
theorem dX9_act_69 : decode cX9_act 69 = .ok (.iconst 2, 1) := dX9_act_k55.2.1
theorem dX9_act_70 : decode cX9_act 70 = .ok (.goto 4, 3) := dX9_act_k55.2.2.1
theorem dX9_act_73 : decode cX9_act 73 = .ok (.iconst 3, 1) := dX9_act_k55.2.2.2.1
theorem dX9_act_74 : decode cX9_act 74 = .ok (.iastore, 1) := dX9_act_k55.2.2.2.2.1
theorem dX9_act_75 : decode cX9_act 75 = .ok (.aload_n 0, 1) := dX9_act_k55.2.2.2.2.2
set_option maxRecDepth 100000 in
theorem dX9_act_k56 : (decode cX9_act 76 = .ok (.getfield 53, 3)) ∧ (decode cX9_act 79 = .ok (.iload_n 1, 1)) ∧ (decode cX9_act 80 = .ok (.iload_n 2, 1)) ∧ (decode cX9_act 81 = .ok (.bipush 95, 2)) ∧ (decode cX9_act 83 = .ok (.if_icmp .ne 8, 3)) ∧ (decode cX9_act 86 = .ok (.bipush (-6), 2)) := by decide +kernel
theorem dX9_act_76 : decode cX9_act 76 = .ok (.getfield 53, 3) := dX9_act_k56.1
theorem dX9_act_79 : decode cX9_act 79 = .ok (.iload_n 1, 1) := dX9_act_k56.2.1
theorem dX9_act_80 : decode cX9_act 80 = .ok (.iload_n 2, 1) := dX9_act_k56.2.2.1
theorem dX9_act_81 : decode cX9_act 81 = .ok (.bipush 95, 2) := dX9_act_k56.2.2.2.1
theorem dX9_act_83 : decode cX9_act 83 = .ok (.if_icmp .ne 8, 3) := dX9_act_k56.2.2.2.2.1
theorem dX9_act_86 : decode cX9_act 86 = .ok (.bipush (-6), 2) := dX9_act_k56.2.2.2.2.2
set_option maxRecDepth 100000 in
theorem dX9_act_k57 : (decode cX9_act 88 = .ok (.goto 7, 3)) ∧ (decode cX9_act 91 = .ok (.iload_n 2, 1)) ∧ (decode cX9_act 92 = .ok (.bipush 97, 2)) ∧ (decode cX9_act 94 = .ok (.isub, 1)) ∧ (decode cX9_act 95 = .ok (.iastore, 1)) ∧ (decode cX9_act 96 = .ok (.return_, 1)) := by decide +kernel
theorem dX9_act_88 : decode cX9_act 88 = .ok (.goto 7, 3) := dX9_act_k57.1
theorem dX9_act_91 : decode cX9_act 91 = .ok (.iload_n 2, 1) := dX9_act_k57.2.1
theorem dX9_act_92 : decode cX9_act 92 = .ok (.bipush 97, 2) := dX9_act_k57.2.2.1
theorem dX9_act_94 : decode cX9_act 94 = .ok (.isub, 1) := dX9_act_k57.2.2.2.1
theorem dX9_act_95 : decode cX9_act 95 = .ok (.iastore, 1) := dX9_act_k57.2.2.2.2.1
theorem dX9_act_96 : decode cX9_act 96 = .ok (.return_, 1) := dX9_act_k57.2.2.2.2.2
set_option maxRecDepth 100000 in
theorem dX9_whyNotCarry_k58 : (decode cX9_whyNotCarry 0 = .ok (.iload_n 1, 1)) ∧ (decode cX9_whyNotCarry 1 = .ok (.iload_n 2, 1)) ∧ (decode cX9_whyNotCarry 2 = .ok (.if_icmp .eq 31, 3)) ∧ (decode cX9_whyNotCarry 5 = .ok (.aload_n 0, 1)) ∧ (decode cX9_whyNotCarry 6 = .ok (.getfield 59, 3)) ∧ (decode cX9_whyNotCarry 9 = .ok (.iconst 4, 1)) := by decide +kernel
theorem dX9_whyNotCarry_0 : decode cX9_whyNotCarry 0 = .ok (.iload_n 1, 1) := dX9_whyNotCarry_k58.1
theorem dX9_whyNotCarry_1 : decode cX9_whyNotCarry 1 = .ok (.iload_n 2, 1) := dX9_whyNotCarry_k58.2.1
theorem dX9_whyNotCarry_2 : decode cX9_whyNotCarry 2 = .ok (.if_icmp .eq 31, 3) := dX9_whyNotCarry_k58.2.2.1
theorem dX9_whyNotCarry_5 : decode cX9_whyNotCarry 5 = .ok (.aload_n 0, 1) := dX9_whyNotCarry_k58.2.2.2.1
theorem dX9_whyNotCarry_6 : decode cX9_whyNotCarry 6 = .ok (.getfield 59, 3) := dX9_whyNotCarry_k58.2.2.2.2.1
theorem dX9_whyNotCarry_9 : decode cX9_whyNotCarry 9 = .ok (.iconst 4, 1) := dX9_whyNotCarry_k58.2.2.2.2.2
set_option maxRecDepth 100000 in
theorem dX9_whyNotCarry_k59 : (decode cX9_whyNotCarry 10 = .ok (.iload_n 1, 1)) ∧ (decode cX9_whyNotCarry 11 = .ok (.imul, 1)) ∧ (decode cX9_whyNotCarry 12 = .ok (.iload_n 3, 1)) ∧ (decode cX9_whyNotCarry 13 = .ok (.iadd, 1)) ∧ (decode cX9_whyNotCarry 14 = .ok (.iaload, 1)) ∧ (decode cX9_whyNotCarry 15 = .ok (.ifCond .eq 18, 3)) := by decide +kernel
theorem dX9_whyNotCarry_10 : decode cX9_whyNotCarry 10 = .ok (.iload_n 1, 1) := dX9_whyNotCarry_k59.1
theorem dX9_whyNotCarry_11 : decode cX9_whyNotCarry 11 = .ok (.imul, 1) := dX9_whyNotCarry_k59.2.1
theorem dX9_whyNotCarry_12 : decode cX9_whyNotCarry 12 = .ok (.iload_n 3, 1) := dX9_whyNotCarry_k59.2.2.1
theorem dX9_whyNotCarry_13 : decode cX9_whyNotCarry 13 = .ok (.iadd, 1) := dX9_whyNotCarry_k59.2.2.2.1
theorem dX9_whyNotCarry_14 : decode cX9_whyNotCarry 14 = .ok (.iaload, 1) := dX9_whyNotCarry_k59.2.2.2.2.1
theorem dX9_whyNotCarry_15 : decode cX9_whyNotCarry 15 = .ok (.ifCond .eq 18, 3) := dX9_whyNotCarry_k59.2.2.2.2.2
set_option maxRecDepth 100000 in
theorem dX9_whyNotCarry_k60 : (decode cX9_whyNotCarry 18 = .ok (.aload_n 0, 1)) ∧ (decode cX9_whyNotCarry 19 = .ok (.getfield 59, 3)) ∧ (decode cX9_whyNotCarry 22 = .ok (.iconst 4, 1)) ∧ (decode cX9_whyNotCarry 23 = .ok (.iload_n 2, 1)) ∧ (decode cX9_whyNotCarry 24 = .ok (.imul, 1)) ∧ (decode cX9_whyNotCarry 25 = .ok (.iload_n 3, 1)) := by decide +kernel
theorem dX9_whyNotCarry_18 : decode cX9_whyNotCarry 18 = .ok (.aload_n 0, 1) := dX9_whyNotCarry_k60.1
theorem dX9_whyNotCarry_19 : decode cX9_whyNotCarry 19 = .ok (.getfield 59, 3) := dX9_whyNotCarry_k60.2.1
theorem dX9_whyNotCarry_22 : decode cX9_whyNotCarry 22 = .ok (.iconst 4, 1) := dX9_whyNotCarry_k60.2.2.1
theorem dX9_whyNotCarry_23 : decode cX9_whyNotCarry 23 = .ok (.iload_n 2, 1) := dX9_whyNotCarry_k60.2.2.2.1
theorem dX9_whyNotCarry_24 : decode cX9_whyNotCarry 24 = .ok (.imul, 1) := dX9_whyNotCarry_k60.2.2.2.2.1
theorem dX9_whyNotCarry_25 : decode cX9_whyNotCarry 25 = .ok (.iload_n 3, 1) := dX9_whyNotCarry_k60.2.2.2.2.2
set_option maxRecDepth 100000 in
theorem dX9_whyNotCarry_k61 : (decode cX9_whyNotCarry 26 = .ok (.iadd, 1)) ∧ (decode cX9_whyNotCarry 27 = .ok (.iaload, 1)) ∧ (decode cX9_whyNotCarry 28 = .ok (.bipush 9, 2)) ∧ (decode cX9_whyNotCarry 30 = .ok (.if_icmp .ne 8, 3)) ∧ (decode cX9_whyNotCarry 33 = .ok (.bipush 6, 2)) ∧ (decode cX9_whyNotCarry 35 = .ok (.goto 4, 3)) := by decide +kernel
theorem dX9_whyNotCarry_26 : decode cX9_whyNotCarry 26 = .ok (.iadd, 1) := dX9_whyNotCarry_k61.1
theorem dX9_whyNotCarry_27 : decode cX9_whyNotCarry 27 = .ok (.iaload, 1) := dX9_whyNotCarry_k61.2.1
theorem dX9_whyNotCarry_28 : decode cX9_whyNotCarry 28 = .ok (.bipush 9, 2) := dX9_whyNotCarry_k61.2.2.1
theorem dX9_whyNotCarry_30 : decode cX9_whyNotCarry 30 = .ok (.if_icmp .ne 8, 3) := dX9_whyNotCarry_k61.2.2.2.1
theorem dX9_whyNotCarry_33 : decode cX9_whyNotCarry 33 = .ok (.bipush 6, 2) := dX9_whyNotCarry_k61.2.2.2.2.1
theorem dX9_whyNotCarry_35 : decode cX9_whyNotCarry 35 = .ok (.goto 4, 3) := dX9_whyNotCarry_k61.2.2.2.2.2
set_option maxRecDepth 100000 in
theorem dX9_whyNotCarry_k62 : (decode cX9_whyNotCarry 38 = .ok (.iconst 0, 1)) ∧ (decode cX9_whyNotCarry 39 = .ok (.ireturn, 1)) := by decide +kernel
theorem dX9_whyNotCarry_38 : decode cX9_whyNotCarry 38 = .ok (.iconst 0, 1) := dX9_whyNotCarry_k62.1
theorem dX9_whyNotCarry_39 : decode cX9_whyNotCarry 39 = .ok (.ireturn, 1) := dX9_whyNotCarry_k62.2
set_option maxRecDepth 100000 in
theorem dX9_carry_k63 : (decode cX9_carry 0 = .ok (.aload_n 0, 1)) ∧ (decode cX9_carry 1 = .ok (.getfield 59, 3)) ∧ (decode cX9_carry 4 = .ok (.iconst 4, 1)) ∧ (decode cX9_carry 5 = .ok (.iload_n 1, 1)) ∧ (decode cX9_carry 6 = .ok (.imul, 1)) ∧ (decode cX9_carry 7 = .ok (.iload_n 3, 1)) := by decide +kernel
theorem dX9_carry_0 : decode cX9_carry 0 = .ok (.aload_n 0, 1) := dX9_carry_k63.1
theorem dX9_carry_1 : decode cX9_carry 1 = .ok (.getfield 59, 3) := dX9_carry_k63.2.1
theorem dX9_carry_4 : decode cX9_carry 4 = .ok (.iconst 4, 1) := dX9_carry_k63.2.2.1
theorem dX9_carry_5 : decode cX9_carry 5 = .ok (.iload_n 1, 1) := dX9_carry_k63.2.2.2.1
theorem dX9_carry_6 : decode cX9_carry 6 = .ok (.imul, 1) := dX9_carry_k63.2.2.2.2.1
theorem dX9_carry_7 : decode cX9_carry 7 = .ok (.iload_n 3, 1) := dX9_carry_k63.2.2.2.2.2
set_option maxRecDepth 100000 in
theorem dX9_carry_k64 : (decode cX9_carry 8 = .ok (.iadd, 1)) ∧ (decode cX9_carry 9 = .ok (.dup2, 1)) ∧ (decode cX9_carry 10 = .ok (.iaload, 1)) ∧ (decode cX9_carry 11 = .ok (.iconst 1, 1)) ∧ (decode cX9_carry 12 = .ok (.isub, 1)) ∧ (decode cX9_carry 13 = .ok (.iastore, 1)) := by decide +kernel
theorem dX9_carry_8 : decode cX9_carry 8 = .ok (.iadd, 1) := dX9_carry_k64.1
theorem dX9_carry_9 : decode cX9_carry 9 = .ok (.dup2, 1) := dX9_carry_k64.2.1
theorem dX9_carry_10 : decode cX9_carry 10 = .ok (.iaload, 1) := dX9_carry_k64.2.2.1
theorem dX9_carry_11 : decode cX9_carry 11 = .ok (.iconst 1, 1) := dX9_carry_k64.2.2.2.1
theorem dX9_carry_12 : decode cX9_carry 12 = .ok (.isub, 1) := dX9_carry_k64.2.2.2.2.1
theorem dX9_carry_13 : decode cX9_carry 13 = .ok (.iastore, 1) := dX9_carry_k64.2.2.2.2.2
set_option maxRecDepth 100000 in
theorem dX9_carry_k65 : (decode cX9_carry 14 = .ok (.aload_n 0, 1)) ∧ (decode cX9_carry 15 = .ok (.getfield 59, 3)) ∧ (decode cX9_carry 18 = .ok (.iconst 4, 1)) ∧ (decode cX9_carry 19 = .ok (.iload_n 2, 1)) ∧ (decode cX9_carry 20 = .ok (.imul, 1)) ∧ (decode cX9_carry 21 = .ok (.iload_n 3, 1)) := by decide +kernel
theorem dX9_carry_14 : decode cX9_carry 14 = .ok (.aload_n 0, 1) := dX9_carry_k65.1
theorem dX9_carry_15 : decode cX9_carry 15 = .ok (.getfield 59, 3) := dX9_carry_k65.2.1
theorem dX9_carry_18 : decode cX9_carry 18 = .ok (.iconst 4, 1) := dX9_carry_k65.2.2.1
theorem dX9_carry_19 : decode cX9_carry 19 = .ok (.iload_n 2, 1) := dX9_carry_k65.2.2.2.1
theorem dX9_carry_20 : decode cX9_carry 20 = .ok (.imul, 1) := dX9_carry_k65.2.2.2.2.1
theorem dX9_carry_21 : decode cX9_carry 21 = .ok (.iload_n 3, 1) := dX9_carry_k65.2.2.2.2.2
set_option maxRecDepth 100000 in
theorem dX9_carry_k66 : (decode cX9_carry 22 = .ok (.iadd, 1)) ∧ (decode cX9_carry 23 = .ok (.dup2, 1)) ∧ (decode cX9_carry 24 = .ok (.iaload, 1)) ∧ (decode cX9_carry 25 = .ok (.iconst 1, 1)) ∧ (decode cX9_carry 26 = .ok (.iadd, 1)) ∧ (decode cX9_carry 27 = .ok (.iastore, 1)) := by decide +kernel
theorem dX9_carry_22 : decode cX9_carry 22 = .ok (.iadd, 1) := dX9_carry_k66.1
theorem dX9_carry_23 : decode cX9_carry 23 = .ok (.dup2, 1) := dX9_carry_k66.2.1
theorem dX9_carry_24 : decode cX9_carry 24 = .ok (.iaload, 1) := dX9_carry_k66.2.2.1
theorem dX9_carry_25 : decode cX9_carry 25 = .ok (.iconst 1, 1) := dX9_carry_k66.2.2.2.1
theorem dX9_carry_26 : decode cX9_carry 26 = .ok (.iadd, 1) := dX9_carry_k66.2.2.2.2.1
theorem dX9_carry_27 : decode cX9_carry 27 = .ok (.iastore, 1) := dX9_carry_k66.2.2.2.2.2
theorem dX9_carry_28 : decode cX9_carry 28 = .ok (.return_, 1) := by decide +kernel
set_option maxRecDepth 100000 in
theorem dX9_goParty_k67 : (decode cX9_goParty 0 = .ok (.aload_n 0, 1)) ∧ (decode cX9_goParty 1 = .ok (.invokevirtual 157, 3)) ∧ (decode cX9_goParty 4 = .ok (.aload_n 0, 1)) ∧ (decode cX9_goParty 5 = .ok (.iconst 0, 1)) ∧ (decode cX9_goParty 6 = .ok (.putfield 160, 3)) ∧ (decode cX9_goParty 9 = .ok (.iconst 0, 1)) := by decide +kernel
theorem dX9_goParty_0 : decode cX9_goParty 0 = .ok (.aload_n 0, 1) := dX9_goParty_k67.1
theorem dX9_goParty_1 : decode cX9_goParty 1 = .ok (.invokevirtual 157, 3) := dX9_goParty_k67.2.1
theorem dX9_goParty_4 : decode cX9_goParty 4 = .ok (.aload_n 0, 1) := dX9_goParty_k67.2.2.1
theorem dX9_goParty_5 : decode cX9_goParty 5 = .ok (.iconst 0, 1) := dX9_goParty_k67.2.2.2.1
theorem dX9_goParty_6 : decode cX9_goParty 6 = .ok (.putfield 160, 3) := dX9_goParty_k67.2.2.2.2.1
theorem dX9_goParty_9 : decode cX9_goParty 9 = .ok (.iconst 0, 1) := dX9_goParty_k67.2.2.2.2.2
set_option maxRecDepth 100000 in
theorem dX9_goParty_k68 : (decode cX9_goParty 10 = .ok (.istore_n 1, 1)) ∧ (decode cX9_goParty 11 = .ok (.iload_n 1, 1)) ∧ (decode cX9_goParty 12 = .ok (.aload_n 0, 1)) ∧ (decode cX9_goParty 13 = .ok (.getfield 124, 3)) ∧ (decode cX9_goParty 16 = .ok (.if_icmp .ge 267, 3)) ∧ (decode cX9_goParty 19 = .ok (.aload_n 0, 1)) := by decide +kernel
theorem dX9_goParty_10 : decode cX9_goParty 10 = .ok (.istore_n 1, 1) := dX9_goParty_k68.1
theorem dX9_goParty_11 : decode cX9_goParty 11 = .ok (.iload_n 1, 1) := dX9_goParty_k68.2.1
theorem dX9_goParty_12 : decode cX9_goParty 12 = .ok (.aload_n 0, 1) := dX9_goParty_k68.2.2.1
theorem dX9_goParty_13 : decode cX9_goParty 13 = .ok (.getfield 124, 3) := dX9_goParty_k68.2.2.2.1
theorem dX9_goParty_16 : decode cX9_goParty 16 = .ok (.if_icmp .ge 267, 3) := dX9_goParty_k68.2.2.2.2.1
theorem dX9_goParty_19 : decode cX9_goParty 19 = .ok (.aload_n 0, 1) := dX9_goParty_k68.2.2.2.2.2
set_option maxRecDepth 100000 in
theorem dX9_goParty_k69 : (decode cX9_goParty 20 = .ok (.getfield 44, 3)) ∧ (decode cX9_goParty 23 = .ok (.iload_n 1, 1)) ∧ (decode cX9_goParty 24 = .ok (.iaload, 1)) ∧ (decode cX9_goParty 25 = .ok (.istore_n 2, 1)) ∧ (decode cX9_goParty 26 = .ok (.aload_n 0, 1)) ∧ (decode cX9_goParty 27 = .ok (.iconst 0, 1)) := by decide +kernel
theorem dX9_goParty_20 : decode cX9_goParty 20 = .ok (.getfield 44, 3) := dX9_goParty_k69.1
theorem dX9_goParty_23 : decode cX9_goParty 23 = .ok (.iload_n 1, 1) := dX9_goParty_k69.2.1
theorem dX9_goParty_24 : decode cX9_goParty 24 = .ok (.iaload, 1) := dX9_goParty_k69.2.2.1
theorem dX9_goParty_25 : decode cX9_goParty 25 = .ok (.istore_n 2, 1) := dX9_goParty_k69.2.2.2.1
theorem dX9_goParty_26 : decode cX9_goParty 26 = .ok (.aload_n 0, 1) := dX9_goParty_k69.2.2.2.2.1
theorem dX9_goParty_27 : decode cX9_goParty 27 = .ok (.iconst 0, 1) := dX9_goParty_k69.2.2.2.2.2
set_option maxRecDepth 100000 in
theorem dX9_goParty_k70 : (decode cX9_goParty 28 = .ok (.putfield 163, 3)) ∧ (decode cX9_goParty 31 = .ok (.iload_n 2, 1)) ∧ (decode cX9_goParty 32 = .ok (.bipush 46, 2)) ∧ (decode cX9_goParty 34 = .ok (.if_icmp .ne 14, 3)) ∧ (decode cX9_goParty 37 = .ok (.aload_n 0, 1)) ∧ (decode cX9_goParty 38 = .ok (.invokevirtual 166, 3)) := by decide +kernel
theorem dX9_goParty_28 : decode cX9_goParty 28 = .ok (.putfield 163, 3) := dX9_goParty_k70.1
theorem dX9_goParty_31 : decode cX9_goParty 31 = .ok (.iload_n 2, 1) := dX9_goParty_k70.2.1
theorem dX9_goParty_32 : decode cX9_goParty 32 = .ok (.bipush 46, 2) := dX9_goParty_k70.2.2.1
theorem dX9_goParty_34 : decode cX9_goParty 34 = .ok (.if_icmp .ne 14, 3) := dX9_goParty_k70.2.2.2.1
theorem dX9_goParty_37 : decode cX9_goParty 37 = .ok (.aload_n 0, 1) := dX9_goParty_k70.2.2.2.2.1
theorem dX9_goParty_38 : decode cX9_goParty 38 = .ok (.invokevirtual 166, 3) := dX9_goParty_k70.2.2.2.2.2
set_option maxRecDepth 100000 in
theorem dX9_goParty_k71 : (decode cX9_goParty 41 = .ok (.pop, 1)) ∧ (decode cX9_goParty 42 = .ok (.iinc 1 1, 3)) ∧ (decode cX9_goParty 45 = .ok (.goto 213, 3)) ∧ (decode cX9_goParty 48 = .ok (.iload_n 2, 1)) ∧ (decode cX9_goParty 49 = .ok (.bipush 97, 2)) ∧ (decode cX9_goParty 51 = .ok (.bipush 102, 2)) := by decide +kernel
theorem dX9_goParty_41 : decode cX9_goParty 41 = .ok (.pop, 1) := dX9_goParty_k71.1
theorem dX9_goParty_42 : decode cX9_goParty 42 = .ok (.iinc 1 1, 3) := dX9_goParty_k71.2.1
theorem dX9_goParty_45 : decode cX9_goParty 45 = .ok (.goto 213, 3) := dX9_goParty_k71.2.2.1
theorem dX9_goParty_48 : decode cX9_goParty 48 = .ok (.iload_n 2, 1) := dX9_goParty_k71.2.2.2.1
theorem dX9_goParty_49 : decode cX9_goParty 49 = .ok (.bipush 97, 2) := dX9_goParty_k71.2.2.2.2.1
theorem dX9_goParty_51 : decode cX9_goParty 51 = .ok (.bipush 102, 2) := dX9_goParty_k71.2.2.2.2.2
set_option maxRecDepth 100000 in
theorem dX9_goParty_k72 : (decode cX9_goParty 53 = .ok (.invokestatic 94, 3)) ∧ (decode cX9_goParty 56 = .ok (.ifCond .eq 72, 3)) ∧ (decode cX9_goParty 59 = .ok (.aload_n 0, 1)) ∧ (decode cX9_goParty 60 = .ok (.getfield 44, 3)) ∧ (decode cX9_goParty 63 = .ok (.iload_n 1, 1)) ∧ (decode cX9_goParty 64 = .ok (.iconst 2, 1)) := by decide +kernel
theorem dX9_goParty_53 : decode cX9_goParty 53 = .ok (.invokestatic 94, 3) := dX9_goParty_k72.1
theorem dX9_goParty_56 : decode cX9_goParty 56 = .ok (.ifCond .eq 72, 3) := dX9_goParty_k72.2.1
theorem dX9_goParty_59 : decode cX9_goParty 59 = .ok (.aload_n 0, 1) := dX9_goParty_k72.2.2.1
theorem dX9_goParty_60 : decode cX9_goParty 60 = .ok (.getfield 44, 3) := dX9_goParty_k72.2.2.2.1
theorem dX9_goParty_63 : decode cX9_goParty 63 = .ok (.iload_n 1, 1) := dX9_goParty_k72.2.2.2.2.1
theorem dX9_goParty_64 : decode cX9_goParty 64 = .ok (.iconst 2, 1) := dX9_goParty_k72.2.2.2.2.2
set_option maxRecDepth 100000 in
theorem dX9_goParty_k73 : (decode cX9_goParty 65 = .ok (.iadd, 1)) ∧ (decode cX9_goParty 66 = .ok (.iaload, 1)) ∧ (decode cX9_goParty 67 = .ok (.bipush 48, 2)) ∧ (decode cX9_goParty 69 = .ok (.isub, 1)) ∧ (decode cX9_goParty 70 = .ok (.istore_n 3, 1)) ∧ (decode cX9_goParty 71 = .ok (.aload_n 0, 1)) := by decide +kernel
theorem dX9_goParty_65 : decode cX9_goParty 65 = .ok (.iadd, 1) := dX9_goParty_k73.1
theorem dX9_goParty_66 : decode cX9_goParty 66 = .ok (.iaload, 1) := dX9_goParty_k73.2.1
theorem dX9_goParty_67 : decode cX9_goParty 67 = .ok (.bipush 48, 2) := dX9_goParty_k73.2.2.1
theorem dX9_goParty_69 : decode cX9_goParty 69 = .ok (.isub, 1) := dX9_goParty_k73.2.2.2.1
theorem dX9_goParty_70 : decode cX9_goParty 70 = .ok (.istore_n 3, 1) := dX9_goParty_k73.2.2.2.2.1
theorem dX9_goParty_71 : decode cX9_goParty 71 = .ok (.aload_n 0, 1) := dX9_goParty_k73.2.2.2.2.2
set_option maxRecDepth 100000 in
theorem dX9_goParty_k74 : (decode cX9_goParty 72 = .ok (.aload_n 0, 1)) ∧ (decode cX9_goParty 73 = .ok (.iload_n 2, 1)) ∧ (decode cX9_goParty 74 = .ok (.bipush 97, 2)) ∧ (decode cX9_goParty 76 = .ok (.isub, 1)) ∧ (decode cX9_goParty 77 = .ok (.aload_n 0, 1)) ∧ (decode cX9_goParty 78 = .ok (.getfield 44, 3)) := by decide +kernel
theorem dX9_goParty_72 : decode cX9_goParty 72 = .ok (.aload_n 0, 1) := dX9_goParty_k74.1
theorem dX9_goParty_73 : decode cX9_goParty 73 = .ok (.iload_n 2, 1) := dX9_goParty_k74.2.1
theorem dX9_goParty_74 : decode cX9_goParty 74 = .ok (.bipush 97, 2) := dX9_goParty_k74.2.2.1
theorem dX9_goParty_76 : decode cX9_goParty 76 = .ok (.isub, 1) := dX9_goParty_k74.2.2.2.1
theorem dX9_goParty_77 : decode cX9_goParty 77 = .ok (.aload_n 0, 1) := dX9_goParty_k74.2.2.2.2.1
theorem dX9_goParty_78 : decode cX9_goParty 78 = .ok (.getfield 44, 3) := dX9_goParty_k74.2.2.2.2.2
set_option maxRecDepth 100000 in
theorem dX9_goParty_k75 : (decode cX9_goParty 81 = .ok (.iload_n 1, 1)) ∧ (decode cX9_goParty 82 = .ok (.iconst 1, 1)) ∧ (decode cX9_goParty 83 = .ok (.iadd, 1)) ∧ (decode cX9_goParty 84 = .ok (.iaload, 1)) ∧ (decode cX9_goParty 85 = .ok (.bipush 97, 2)) ∧ (decode cX9_goParty 87 = .ok (.isub, 1)) := by decide +kernel
theorem dX9_goParty_81 : decode cX9_goParty 81 = .ok (.iload_n 1, 1) := dX9_goParty_k75.1
theorem dX9_goParty_82 : decode cX9_goParty 82 = .ok (.iconst 1, 1) := dX9_goParty_k75.2.1
theorem dX9_goParty_83 : decode cX9_goParty 83 = .ok (.iadd, 1) := dX9_goParty_k75.2.2.1
theorem dX9_goParty_84 : decode cX9_goParty 84 = .ok (.iaload, 1) := dX9_goParty_k75.2.2.2.1
theorem dX9_goParty_85 : decode cX9_goParty 85 = .ok (.bipush 97, 2) := dX9_goParty_k75.2.2.2.2.1
theorem dX9_goParty_87 : decode cX9_goParty 87 = .ok (.isub, 1) := dX9_goParty_k75.2.2.2.2.2
set_option maxRecDepth 100000 in
theorem dX9_goParty_k76 : (decode cX9_goParty 88 = .ok (.iload_n 3, 1)) ∧ (decode cX9_goParty 89 = .ok (.invokevirtual 169, 3)) ∧ (decode cX9_goParty 92 = .ok (.putfield 163, 3)) ∧ (decode cX9_goParty 95 = .ok (.aload_n 0, 1)) ∧ (decode cX9_goParty 96 = .ok (.getfield 163, 3)) ∧ (decode cX9_goParty 99 = .ok (.ifCond .ne 23, 3)) := by decide +kernel
theorem dX9_goParty_88 : decode cX9_goParty 88 = .ok (.iload_n 3, 1) := dX9_goParty_k76.1
theorem dX9_goParty_89 : decode cX9_goParty 89 = .ok (.invokevirtual 169, 3) := dX9_goParty_k76.2.1
theorem dX9_goParty_92 : decode cX9_goParty 92 = .ok (.putfield 163, 3) := dX9_goParty_k76.2.2.1
theorem dX9_goParty_95 : decode cX9_goParty 95 = .ok (.aload_n 0, 1) := dX9_goParty_k76.2.2.2.1
theorem dX9_goParty_96 : decode cX9_goParty 96 = .ok (.getfield 163, 3) := dX9_goParty_k76.2.2.2.2.1
theorem dX9_goParty_99 : decode cX9_goParty 99 = .ok (.ifCond .ne 23, 3) := dX9_goParty_k76.2.2.2.2.2
set_option maxRecDepth 100000 in
theorem dX9_goParty_k77 : (decode cX9_goParty 102 = .ok (.aload_n 0, 1)) ∧ (decode cX9_goParty 103 = .ok (.iload_n 2, 1)) ∧ (decode cX9_goParty 104 = .ok (.bipush 97, 2)) ∧ (decode cX9_goParty 106 = .ok (.isub, 1)) ∧ (decode cX9_goParty 107 = .ok (.aload_n 0, 1)) ∧ (decode cX9_goParty 108 = .ok (.getfield 44, 3)) := by decide +kernel
theorem dX9_goParty_102 : decode cX9_goParty 102 = .ok (.aload_n 0, 1) := dX9_goParty_k77.1
theorem dX9_goParty_103 : decode cX9_goParty 103 = .ok (.iload_n 2, 1) := dX9_goParty_k77.2.1
theorem dX9_goParty_104 : decode cX9_goParty 104 = .ok (.bipush 97, 2) := dX9_goParty_k77.2.2.1
theorem dX9_goParty_106 : decode cX9_goParty 106 = .ok (.isub, 1) := dX9_goParty_k77.2.2.2.1
theorem dX9_goParty_107 : decode cX9_goParty 107 = .ok (.aload_n 0, 1) := dX9_goParty_k77.2.2.2.2.1
theorem dX9_goParty_108 : decode cX9_goParty 108 = .ok (.getfield 44, 3) := dX9_goParty_k77.2.2.2.2.2
set_option maxRecDepth 100000 in
theorem dX9_goParty_k78 : (decode cX9_goParty 111 = .ok (.iload_n 1, 1)) ∧ (decode cX9_goParty 112 = .ok (.iconst 1, 1)) ∧ (decode cX9_goParty 113 = .ok (.iadd, 1)) ∧ (decode cX9_goParty 114 = .ok (.iaload, 1)) ∧ (decode cX9_goParty 115 = .ok (.bipush 97, 2)) ∧ (decode cX9_goParty 117 = .ok (.isub, 1)) := by decide +kernel
theorem dX9_goParty_111 : decode cX9_goParty 111 = .ok (.iload_n 1, 1) := dX9_goParty_k78.1
theorem dX9_goParty_112 : decode cX9_goParty 112 = .ok (.iconst 1, 1) := dX9_goParty_k78.2.1
theorem dX9_goParty_113 : decode cX9_goParty 113 = .ok (.iadd, 1) := dX9_goParty_k78.2.2.1
theorem dX9_goParty_114 : decode cX9_goParty 114 = .ok (.iaload, 1) := dX9_goParty_k78.2.2.2.1
theorem dX9_goParty_115 : decode cX9_goParty 115 = .ok (.bipush 97, 2) := dX9_goParty_k78.2.2.2.2.1
theorem dX9_goParty_117 : decode cX9_goParty 117 = .ok (.isub, 1) := dX9_goParty_k78.2.2.2.2.2
set_option maxRecDepth 100000 in
theorem dX9_goParty_k79 : (decode cX9_goParty 118 = .ok (.iload_n 3, 1)) ∧ (decode cX9_goParty 119 = .ok (.invokevirtual 172, 3)) ∧ (decode cX9_goParty 122 = .ok (.iinc 1 3, 3)) ∧ (decode cX9_goParty 125 = .ok (.goto 133, 3)) ∧ (decode cX9_goParty 128 = .ok (.aload_n 0, 1)) ∧ (decode cX9_goParty 129 = .ok (.getfield 44, 3)) := by decide +kernel
theorem dX9_goParty_118 : decode cX9_goParty 118 = .ok (.iload_n 3, 1) := dX9_goParty_k79.1
theorem dX9_goParty_119 : decode cX9_goParty 119 = .ok (.invokevirtual 172, 3) := dX9_goParty_k79.2.1
theorem dX9_goParty_122 : decode cX9_goParty 122 = .ok (.iinc 1 3, 3) := dX9_goParty_k79.2.2.1
theorem dX9_goParty_125 : decode cX9_goParty 125 = .ok (.goto 133, 3) := dX9_goParty_k79.2.2.2.1
theorem dX9_goParty_128 : decode cX9_goParty 128 = .ok (.aload_n 0, 1) := dX9_goParty_k79.2.2.2.2.1
theorem dX9_goParty_129 : decode cX9_goParty 129 = .ok (.getfield 44, 3) := dX9_goParty_k79.2.2.2.2.2
set_option maxRecDepth 100000 in
theorem dX9_goParty_k80 : (decode cX9_goParty 132 = .ok (.iload_n 1, 1)) ∧ (decode cX9_goParty 133 = .ok (.iconst 1, 1)) ∧ (decode cX9_goParty 134 = .ok (.iadd, 1)) ∧ (decode cX9_goParty 135 = .ok (.iaload, 1)) ∧ (decode cX9_goParty 136 = .ok (.bipush 65, 2)) ∧ (decode cX9_goParty 138 = .ok (.bipush 72, 2)) := by decide +kernel
theorem dX9_goParty_132 : decode cX9_goParty 132 = .ok (.iload_n 1, 1) := dX9_goParty_k80.1
theorem dX9_goParty_133 : decode cX9_goParty 133 = .ok (.iconst 1, 1) := dX9_goParty_k80.2.1
theorem dX9_goParty_134 : decode cX9_goParty 134 = .ok (.iadd, 1) := dX9_goParty_k80.2.2.1
theorem dX9_goParty_135 : decode cX9_goParty 135 = .ok (.iaload, 1) := dX9_goParty_k80.2.2.2.1
theorem dX9_goParty_136 : decode cX9_goParty 136 = .ok (.bipush 65, 2) := dX9_goParty_k80.2.2.2.2.1
theorem dX9_goParty_138 : decode cX9_goParty 138 = .ok (.bipush 72, 2) := dX9_goParty_k80.2.2.2.2.2
set_option maxRecDepth 100000 in
theorem dX9_goParty_k81 : (decode cX9_goParty 140 = .ok (.invokestatic 94, 3)) ∧ (decode cX9_goParty 143 = .ok (.ifCond .eq 69, 3)) ∧ (decode cX9_goParty 146 = .ok (.aload_n 0, 1)) ∧ (decode cX9_goParty 147 = .ok (.aload_n 0, 1)) ∧ (decode cX9_goParty 148 = .ok (.iload_n 2, 1)) ∧ (decode cX9_goParty 149 = .ok (.bipush 65, 2)) := by decide +kernel
theorem dX9_goParty_140 : decode cX9_goParty 140 = .ok (.invokestatic 94, 3) := dX9_goParty_k81.1
theorem dX9_goParty_143 : decode cX9_goParty 143 = .ok (.ifCond .eq 69, 3) := dX9_goParty_k81.2.1
theorem dX9_goParty_146 : decode cX9_goParty 146 = .ok (.aload_n 0, 1) := dX9_goParty_k81.2.2.1
theorem dX9_goParty_147 : decode cX9_goParty 147 = .ok (.aload_n 0, 1) := dX9_goParty_k81.2.2.2.1
theorem dX9_goParty_148 : decode cX9_goParty 148 = .ok (.iload_n 2, 1) := dX9_goParty_k81.2.2.2.2.1
theorem dX9_goParty_149 : decode cX9_goParty 149 = .ok (.bipush 65, 2) := dX9_goParty_k81.2.2.2.2.2
set_option maxRecDepth 100000 in
theorem dX9_goParty_k82 : (decode cX9_goParty 151 = .ok (.isub, 1)) ∧ (decode cX9_goParty 152 = .ok (.aload_n 0, 1)) ∧ (decode cX9_goParty 153 = .ok (.getfield 44, 3)) ∧ (decode cX9_goParty 156 = .ok (.iload_n 1, 1)) ∧ (decode cX9_goParty 157 = .ok (.iconst 1, 1)) ∧ (decode cX9_goParty 158 = .ok (.iadd, 1)) := by decide +kernel
theorem dX9_goParty_151 : decode cX9_goParty 151 = .ok (.isub, 1) := dX9_goParty_k82.1
theorem dX9_goParty_152 : decode cX9_goParty 152 = .ok (.aload_n 0, 1) := dX9_goParty_k82.2.1
theorem dX9_goParty_153 : decode cX9_goParty 153 = .ok (.getfield 44, 3) := dX9_goParty_k82.2.2.1
theorem dX9_goParty_156 : decode cX9_goParty 156 = .ok (.iload_n 1, 1) := dX9_goParty_k82.2.2.2.1
theorem dX9_goParty_157 : decode cX9_goParty 157 = .ok (.iconst 1, 1) := dX9_goParty_k82.2.2.2.2.1
theorem dX9_goParty_158 : decode cX9_goParty 158 = .ok (.iadd, 1) := dX9_goParty_k82.2.2.2.2.2
set_option maxRecDepth 100000 in
theorem dX9_goParty_k83 : (decode cX9_goParty 159 = .ok (.iaload, 1)) ∧ (decode cX9_goParty 160 = .ok (.bipush 65, 2)) ∧ (decode cX9_goParty 162 = .ok (.isub, 1)) ∧ (decode cX9_goParty 163 = .ok (.invokevirtual 176, 3)) ∧ (decode cX9_goParty 166 = .ok (.putfield 163, 3)) ∧ (decode cX9_goParty 169 = .ok (.aload_n 0, 1)) := by decide +kernel
theorem dX9_goParty_159 : decode cX9_goParty 159 = .ok (.iaload, 1) := dX9_goParty_k83.1
theorem dX9_goParty_160 : decode cX9_goParty 160 = .ok (.bipush 65, 2) := dX9_goParty_k83.2.1
theorem dX9_goParty_162 : decode cX9_goParty 162 = .ok (.isub, 1) := dX9_goParty_k83.2.2.1
theorem dX9_goParty_163 : decode cX9_goParty 163 = .ok (.invokevirtual 176, 3) := dX9_goParty_k83.2.2.2.1
theorem dX9_goParty_166 : decode cX9_goParty 166 = .ok (.putfield 163, 3) := dX9_goParty_k83.2.2.2.2.1
theorem dX9_goParty_169 : decode cX9_goParty 169 = .ok (.aload_n 0, 1) := dX9_goParty_k83.2.2.2.2.2
set_option maxRecDepth 100000 in
theorem dX9_goParty_k84 : (decode cX9_goParty 170 = .ok (.getfield 163, 3)) ∧ (decode cX9_goParty 173 = .ok (.ifCond .ne 33, 3)) ∧ (decode cX9_goParty 176 = .ok (.aload_n 0, 1)) ∧ (decode cX9_goParty 177 = .ok (.iload_n 2, 1)) ∧ (decode cX9_goParty 178 = .ok (.bipush 65, 2)) ∧ (decode cX9_goParty 180 = .ok (.isub, 1)) := by decide +kernel
theorem dX9_goParty_170 : decode cX9_goParty 170 = .ok (.getfield 163, 3) := dX9_goParty_k84.1
theorem dX9_goParty_173 : decode cX9_goParty 173 = .ok (.ifCond .ne 33, 3) := dX9_goParty_k84.2.1
theorem dX9_goParty_176 : decode cX9_goParty 176 = .ok (.aload_n 0, 1) := dX9_goParty_k84.2.2.1
theorem dX9_goParty_177 : decode cX9_goParty 177 = .ok (.iload_n 2, 1) := dX9_goParty_k84.2.2.2.1
theorem dX9_goParty_178 : decode cX9_goParty 178 = .ok (.bipush 65, 2) := dX9_goParty_k84.2.2.2.2.1
theorem dX9_goParty_180 : decode cX9_goParty 180 = .ok (.isub, 1) := dX9_goParty_k84.2.2.2.2.2
set_option maxRecDepth 100000 in
theorem dX9_goParty_k85 : (decode cX9_goParty 181 = .ok (.aload_n 0, 1)) ∧ (decode cX9_goParty 182 = .ok (.getfield 44, 3)) ∧ (decode cX9_goParty 185 = .ok (.iload_n 1, 1)) ∧ (decode cX9_goParty 186 = .ok (.iconst 1, 1)) ∧ (decode cX9_goParty 187 = .ok (.iadd, 1)) ∧ (decode cX9_goParty 188 = .ok (.iaload, 1)) := by decide +kernel
theorem dX9_goParty_181 : decode cX9_goParty 181 = .ok (.aload_n 0, 1) := dX9_goParty_k85.1
theorem dX9_goParty_182 : decode cX9_goParty 182 = .ok (.getfield 44, 3) := dX9_goParty_k85.2.1
theorem dX9_goParty_185 : decode cX9_goParty 185 = .ok (.iload_n 1, 1) := dX9_goParty_k85.2.2.1
theorem dX9_goParty_186 : decode cX9_goParty 186 = .ok (.iconst 1, 1) := dX9_goParty_k85.2.2.2.1
theorem dX9_goParty_187 : decode cX9_goParty 187 = .ok (.iadd, 1) := dX9_goParty_k85.2.2.2.2.1
theorem dX9_goParty_188 : decode cX9_goParty 188 = .ok (.iaload, 1) := dX9_goParty_k85.2.2.2.2.2
set_option maxRecDepth 100000 in
theorem dX9_goParty_k86 : (decode cX9_goParty 189 = .ok (.bipush 65, 2)) ∧ (decode cX9_goParty 191 = .ok (.isub, 1)) ∧ (decode cX9_goParty 192 = .ok (.aload_n 0, 1)) ∧ (decode cX9_goParty 193 = .ok (.getfield 44, 3)) ∧ (decode cX9_goParty 196 = .ok (.iload_n 1, 1)) ∧ (decode cX9_goParty 197 = .ok (.iconst 2, 1)) := by decide +kernel
theorem dX9_goParty_189 : decode cX9_goParty 189 = .ok (.bipush 65, 2) := dX9_goParty_k86.1
theorem dX9_goParty_191 : decode cX9_goParty 191 = .ok (.isub, 1) := dX9_goParty_k86.2.1
theorem dX9_goParty_192 : decode cX9_goParty 192 = .ok (.aload_n 0, 1) := dX9_goParty_k86.2.2.1
theorem dX9_goParty_193 : decode cX9_goParty 193 = .ok (.getfield 44, 3) := dX9_goParty_k86.2.2.2.1
theorem dX9_goParty_196 : decode cX9_goParty 196 = .ok (.iload_n 1, 1) := dX9_goParty_k86.2.2.2.2.1
theorem dX9_goParty_197 : decode cX9_goParty 197 = .ok (.iconst 2, 1) := dX9_goParty_k86.2.2.2.2.2
set_option maxRecDepth 100000 in
theorem dX9_goParty_k87 : (decode cX9_goParty 198 = .ok (.iadd, 1)) ∧ (decode cX9_goParty 199 = .ok (.iaload, 1)) ∧ (decode cX9_goParty 200 = .ok (.bipush 48, 2)) ∧ (decode cX9_goParty 202 = .ok (.isub, 1)) ∧ (decode cX9_goParty 203 = .ok (.invokevirtual 179, 3)) ∧ (decode cX9_goParty 206 = .ok (.iinc 1 3, 3)) := by decide +kernel
theorem dX9_goParty_198 : decode cX9_goParty 198 = .ok (.iadd, 1) := dX9_goParty_k87.1
theorem dX9_goParty_199 : decode cX9_goParty 199 = .ok (.iaload, 1) := dX9_goParty_k87.2.1
theorem dX9_goParty_200 : decode cX9_goParty 200 = .ok (.bipush 48, 2) := dX9_goParty_k87.2.2.1
theorem dX9_goParty_202 : decode cX9_goParty 202 = .ok (.isub, 1) := dX9_goParty_k87.2.2.2.1
theorem dX9_goParty_203 : decode cX9_goParty 203 = .ok (.invokevirtual 179, 3) := dX9_goParty_k87.2.2.2.2.1
theorem dX9_goParty_206 : decode cX9_goParty 206 = .ok (.iinc 1 3, 3) := dX9_goParty_k87.2.2.2.2.2
set_option maxRecDepth 100000 in
theorem dX9_goParty_k88 : (decode cX9_goParty 209 = .ok (.goto 49, 3)) ∧ (decode cX9_goParty 212 = .ok (.aload_n 0, 1)) ∧ (decode cX9_goParty 213 = .ok (.aload_n 0, 1)) ∧ (decode cX9_goParty 214 = .ok (.iload_n 2, 1)) ∧ (decode cX9_goParty 215 = .ok (.bipush 65, 2)) ∧ (decode cX9_goParty 217 = .ok (.isub, 1)) := by decide +kernel
theorem dX9_goParty_209 : decode cX9_goParty 209 = .ok (.goto 49, 3) := dX9_goParty_k88.1
theorem dX9_goParty_212 : decode cX9_goParty 212 = .ok (.aload_n 0, 1) := dX9_goParty_k88.2.1
theorem dX9_goParty_213 : decode cX9_goParty 213 = .ok (.aload_n 0, 1) := dX9_goParty_k88.2.2.1
theorem dX9_goParty_214 : decode cX9_goParty 214 = .ok (.iload_n 2, 1) := dX9_goParty_k88.2.2.2.1
theorem dX9_goParty_215 : decode cX9_goParty 215 = .ok (.bipush 65, 2) := dX9_goParty_k88.2.2.2.2.1
theorem dX9_goParty_217 : decode cX9_goParty 217 = .ok (.isub, 1) := dX9_goParty_k88.2.2.2.2.2
set_option maxRecDepth 100000 in
theorem dX9_goParty_k89 : (decode cX9_goParty 218 = .ok (.aload_n 0, 1)) ∧ (decode cX9_goParty 219 = .ok (.getfield 44, 3)) ∧ (decode cX9_goParty 222 = .ok (.iload_n 1, 1)) ∧ (decode cX9_goParty 223 = .ok (.iconst 1, 1)) ∧ (decode cX9_goParty 224 = .ok (.iadd, 1)) ∧ (decode cX9_goParty 225 = .ok (.iaload, 1)) := by decide +kernel
theorem dX9_goParty_218 : decode cX9_goParty 218 = .ok (.aload_n 0, 1) := dX9_goParty_k89.1
theorem dX9_goParty_219 : decode cX9_goParty 219 = .ok (.getfield 44, 3) := dX9_goParty_k89.2.1
theorem dX9_goParty_222 : decode cX9_goParty 222 = .ok (.iload_n 1, 1) := dX9_goParty_k89.2.2.1
theorem dX9_goParty_223 : decode cX9_goParty 223 = .ok (.iconst 1, 1) := dX9_goParty_k89.2.2.2.1
theorem dX9_goParty_224 : decode cX9_goParty 224 = .ok (.iadd, 1) := dX9_goParty_k89.2.2.2.2.1
theorem dX9_goParty_225 : decode cX9_goParty 225 = .ok (.iaload, 1) := dX9_goParty_k89.2.2.2.2.2
set_option maxRecDepth 100000 in
theorem dX9_goParty_k90 : (decode cX9_goParty 226 = .ok (.invokevirtual 182, 3)) ∧ (decode cX9_goParty 229 = .ok (.putfield 163, 3)) ∧ (decode cX9_goParty 232 = .ok (.aload_n 0, 1)) ∧ (decode cX9_goParty 233 = .ok (.getfield 163, 3)) ∧ (decode cX9_goParty 236 = .ok (.ifCond .ne 19, 3)) ∧ (decode cX9_goParty 239 = .ok (.aload_n 0, 1)) := by decide +kernel
theorem dX9_goParty_226 : decode cX9_goParty 226 = .ok (.invokevirtual 182, 3) := dX9_goParty_k90.1
theorem dX9_goParty_229 : decode cX9_goParty 229 = .ok (.putfield 163, 3) := dX9_goParty_k90.2.1
theorem dX9_goParty_232 : decode cX9_goParty 232 = .ok (.aload_n 0, 1) := dX9_goParty_k90.2.2.1
theorem dX9_goParty_233 : decode cX9_goParty 233 = .ok (.getfield 163, 3) := dX9_goParty_k90.2.2.2.1
theorem dX9_goParty_236 : decode cX9_goParty 236 = .ok (.ifCond .ne 19, 3) := dX9_goParty_k90.2.2.2.2.1
theorem dX9_goParty_239 : decode cX9_goParty 239 = .ok (.aload_n 0, 1) := dX9_goParty_k90.2.2.2.2.2
set_option maxRecDepth 100000 in
theorem dX9_goParty_k91 : (decode cX9_goParty 240 = .ok (.iload_n 2, 1)) ∧ (decode cX9_goParty 241 = .ok (.bipush 65, 2)) ∧ (decode cX9_goParty 243 = .ok (.isub, 1)) ∧ (decode cX9_goParty 244 = .ok (.aload_n 0, 1)) ∧ (decode cX9_goParty 245 = .ok (.getfield 44, 3)) ∧ (decode cX9_goParty 248 = .ok (.iload_n 1, 1)) := by decide +kernel
theorem dX9_goParty_240 : decode cX9_goParty 240 = .ok (.iload_n 2, 1) := dX9_goParty_k91.1
theorem dX9_goParty_241 : decode cX9_goParty 241 = .ok (.bipush 65, 2) := dX9_goParty_k91.2.1
theorem dX9_goParty_243 : decode cX9_goParty 243 = .ok (.isub, 1) := dX9_goParty_k91.2.2.1
theorem dX9_goParty_244 : decode cX9_goParty 244 = .ok (.aload_n 0, 1) := dX9_goParty_k91.2.2.2.1
theorem dX9_goParty_245 : decode cX9_goParty 245 = .ok (.getfield 44, 3) := dX9_goParty_k91.2.2.2.2.1
theorem dX9_goParty_248 : decode cX9_goParty 248 = .ok (.iload_n 1, 1) := dX9_goParty_k91.2.2.2.2.2
set_option maxRecDepth 100000 in
theorem dX9_goParty_k92 : (decode cX9_goParty 249 = .ok (.iconst 1, 1)) ∧ (decode cX9_goParty 250 = .ok (.iadd, 1)) ∧ (decode cX9_goParty 251 = .ok (.iaload, 1)) ∧ (decode cX9_goParty 252 = .ok (.invokevirtual 185, 3)) ∧ (decode cX9_goParty 255 = .ok (.iinc 1 2, 3)) ∧ (decode cX9_goParty 258 = .ok (.aload_n 0, 1)) := by decide +kernel
theorem dX9_goParty_249 : decode cX9_goParty 249 = .ok (.iconst 1, 1) := dX9_goParty_k92.1
theorem dX9_goParty_250 : decode cX9_goParty 250 = .ok (.iadd, 1) := dX9_goParty_k92.2.1
theorem dX9_goParty_251 : decode cX9_goParty 251 = .ok (.iaload, 1) := dX9_goParty_k92.2.2.1
theorem dX9_goParty_252 : decode cX9_goParty 252 = .ok (.invokevirtual 185, 3) := dX9_goParty_k92.2.2.2.1
theorem dX9_goParty_255 : decode cX9_goParty 255 = .ok (.iinc 1 2, 3) := dX9_goParty_k92.2.2.2.2.1
theorem dX9_goParty_258 : decode cX9_goParty 258 = .ok (.aload_n 0, 1) := dX9_goParty_k92.2.2.2.2.2
set_option maxRecDepth 100000 in
theorem dX9_goParty_k93 : (decode cX9_goParty 259 = .ok (.getfield 163, 3)) ∧ (decode cX9_goParty 262 = .ok (.ifCond .le 8, 3)) ∧ (decode cX9_goParty 265 = .ok (.aload_n 0, 1)) ∧ (decode cX9_goParty 266 = .ok (.getfield 160, 3)) ∧ (decode cX9_goParty 269 = .ok (.ireturn, 1)) ∧ (decode cX9_goParty 270 = .ok (.aload_n 0, 1)) := by decide +kernel
theorem dX9_goParty_259 : decode cX9_goParty 259 = .ok (.getfield 163, 3) := dX9_goParty_k93.1
theorem dX9_goParty_262 : decode cX9_goParty 262 = .ok (.ifCond .le 8, 3) := dX9_goParty_k93.2.1
theorem dX9_goParty_265 : decode cX9_goParty 265 = .ok (.aload_n 0, 1) := dX9_goParty_k93.2.2.1
theorem dX9_goParty_266 : decode cX9_goParty 266 = .ok (.getfield 160, 3) := dX9_goParty_k93.2.2.2.1
theorem dX9_goParty_269 : decode cX9_goParty 269 = .ok (.ireturn, 1) := dX9_goParty_k93.2.2.2.2.1
theorem dX9_goParty_270 : decode cX9_goParty 270 = .ok (.aload_n 0, 1) := dX9_goParty_k93.2.2.2.2.2
set_option maxRecDepth 100000 in
theorem dX9_goParty_k94 : (decode cX9_goParty 271 = .ok (.dup, 1)) ∧ (decode cX9_goParty 272 = .ok (.getfield 160, 3)) ∧ (decode cX9_goParty 275 = .ok (.iconst 1, 1)) ∧ (decode cX9_goParty 276 = .ok (.iadd, 1)) ∧ (decode cX9_goParty 277 = .ok (.putfield 160, 3)) ∧ (decode cX9_goParty 280 = .ok (.goto (-269), 3)) := by decide +kernel
theorem dX9_goParty_271 : decode cX9_goParty 271 = .ok (.dup, 1) := dX9_goParty_k94.1
theorem dX9_goParty_272 : decode cX9_goParty 272 = .ok (.getfield 160, 3) := dX9_goParty_k94.2.1
theorem dX9_goParty_275 : decode cX9_goParty 275 = .ok (.iconst 1, 1) := dX9_goParty_k94.2.2.1
theorem dX9_goParty_276 : decode cX9_goParty 276 = .ok (.iadd, 1) := dX9_goParty_k94.2.2.2.1
theorem dX9_goParty_277 : decode cX9_goParty 277 = .ok (.putfield 160, 3) := dX9_goParty_k94.2.2.2.2.1
theorem dX9_goParty_280 : decode cX9_goParty 280 = .ok (.goto (-269), 3) := dX9_goParty_k94.2.2.2.2.2
set_option maxRecDepth 100000 in
theorem dX9_goParty_k95 : (decode cX9_goParty 283 = .ok (.bipush (-6), 2)) ∧ (decode cX9_goParty 285 = .ok (.ireturn, 1)) := by decide +kernel
theorem dX9_goParty_283 : decode cX9_goParty 283 = .ok (.bipush (-6), 2) := dX9_goParty_k95.1
theorem dX9_goParty_285 : decode cX9_goParty 285 = .ok (.ireturn, 1) := dX9_goParty_k95.2
set_option maxRecDepth 100000 in
theorem dX9_judge_k96 : (decode cX9_judge 0 = .ok (.iload_n 1, 1)) ∧ (decode cX9_judge 1 = .ok (.iconst 0, 1)) ∧ (decode cX9_judge 2 = .ok (.iconst 1, 1)) ∧ (decode cX9_judge 3 = .ok (.invokestatic 94, 3)) ∧ (decode cX9_judge 6 = .ok (.ifCond .ne 6, 3)) ∧ (decode cX9_judge 9 = .ok (.bipush (-2), 2)) := by decide +kernel
theorem dX9_judge_0 : decode cX9_judge 0 = .ok (.iload_n 1, 1) := dX9_judge_k96.1
theorem dX9_judge_1 : decode cX9_judge 1 = .ok (.iconst 0, 1) := dX9_judge_k96.2.1
theorem dX9_judge_2 : decode cX9_judge 2 = .ok (.iconst 1, 1) := dX9_judge_k96.2.2.1
theorem dX9_judge_3 : decode cX9_judge 3 = .ok (.invokestatic 94, 3) := dX9_judge_k96.2.2.2.1
theorem dX9_judge_6 : decode cX9_judge 6 = .ok (.ifCond .ne 6, 3) := dX9_judge_k96.2.2.2.2.1
theorem dX9_judge_9 : decode cX9_judge 9 = .ok (.bipush (-2), 2) := dX9_judge_k96.2.2.2.2.2
set_option maxRecDepth 100000 in
theorem dX9_judge_k97 : (decode cX9_judge 11 = .ok (.ireturn, 1)) ∧ (decode cX9_judge 12 = .ok (.aload_n 0, 1)) ∧ (decode cX9_judge 13 = .ok (.invokevirtual 127, 3)) ∧ (decode cX9_judge 16 = .ok (.ifCond .lt 6, 3)) ∧ (decode cX9_judge 19 = .ok (.bipush (-5), 2)) ∧ (decode cX9_judge 21 = .ok (.ireturn, 1)) := by decide +kernel
theorem dX9_judge_11 : decode cX9_judge 11 = .ok (.ireturn, 1) := dX9_judge_k97.1
theorem dX9_judge_12 : decode cX9_judge 12 = .ok (.aload_n 0, 1) := dX9_judge_k97.2.1
theorem dX9_judge_13 : decode cX9_judge 13 = .ok (.invokevirtual 127, 3) := dX9_judge_k97.2.2.1
theorem dX9_judge_16 : decode cX9_judge 16 = .ok (.ifCond .lt 6, 3) := dX9_judge_k97.2.2.2.1
theorem dX9_judge_19 : decode cX9_judge 19 = .ok (.bipush (-5), 2) := dX9_judge_k97.2.2.2.2.1
theorem dX9_judge_21 : decode cX9_judge 21 = .ok (.ireturn, 1) := dX9_judge_k97.2.2.2.2.2
set_option maxRecDepth 100000 in
theorem dX9_judge_k98 : (decode cX9_judge 22 = .ok (.aload_n 0, 1)) ∧ (decode cX9_judge 23 = .ok (.invokevirtual 189, 3)) ∧ (decode cX9_judge 26 = .ok (.istore_n 2, 1)) ∧ (decode cX9_judge 27 = .ok (.iload_n 2, 1)) ∧ (decode cX9_judge 28 = .ok (.ifCond .lt 7, 3)) ∧ (decode cX9_judge 31 = .ok (.iload_n 1, 1)) := by decide +kernel
theorem dX9_judge_22 : decode cX9_judge 22 = .ok (.aload_n 0, 1) := dX9_judge_k98.1
theorem dX9_judge_23 : decode cX9_judge 23 = .ok (.invokevirtual 189, 3) := dX9_judge_k98.2.1
theorem dX9_judge_26 : decode cX9_judge 26 = .ok (.istore_n 2, 1) := dX9_judge_k98.2.2.1
theorem dX9_judge_27 : decode cX9_judge 27 = .ok (.iload_n 2, 1) := dX9_judge_k98.2.2.2.1
theorem dX9_judge_28 : decode cX9_judge 28 = .ok (.ifCond .lt 7, 3) := dX9_judge_k98.2.2.2.2.1
theorem dX9_judge_31 : decode cX9_judge 31 = .ok (.iload_n 1, 1) := dX9_judge_k98.2.2.2.2.2
set_option maxRecDepth 100000 in
theorem dX9_judge_k99 : (decode cX9_judge 32 = .ok (.ifCond .ne 7, 3)) ∧ (decode cX9_judge 35 = .ok (.iload_n 2, 1)) ∧ (decode cX9_judge 36 = .ok (.goto 7, 3)) ∧ (decode cX9_judge 39 = .ok (.aload_n 0, 1)) ∧ (decode cX9_judge 40 = .ok (.getfield 163, 3)) ∧ (decode cX9_judge 43 = .ok (.ireturn, 1)) := by decide +kernel
theorem dX9_judge_32 : decode cX9_judge 32 = .ok (.ifCond .ne 7, 3) := dX9_judge_k99.1
theorem dX9_judge_35 : decode cX9_judge 35 = .ok (.iload_n 2, 1) := dX9_judge_k99.2.1
theorem dX9_judge_36 : decode cX9_judge 36 = .ok (.goto 7, 3) := dX9_judge_k99.2.2.1
theorem dX9_judge_39 : decode cX9_judge 39 = .ok (.aload_n 0, 1) := dX9_judge_k99.2.2.2.1
theorem dX9_judge_40 : decode cX9_judge 40 = .ok (.getfield 163, 3) := dX9_judge_k99.2.2.2.2.1
theorem dX9_judge_43 : decode cX9_judge 43 = .ok (.ireturn, 1) := dX9_judge_k99.2.2.2.2.2
set_option maxRecDepth 100000 in
theorem dX9_barOfParty_k100 : (decode cX9_barOfParty 0 = .ok (.aload_n 0, 1)) ∧ (decode cX9_barOfParty 1 = .ok (.invokevirtual 127, 3)) ∧ (decode cX9_barOfParty 4 = .ok (.ifCond .ge 10, 3)) ∧ (decode cX9_barOfParty 7 = .ok (.aload_n 0, 1)) ∧ (decode cX9_barOfParty 8 = .ok (.invokevirtual 189, 3)) ∧ (decode cX9_barOfParty 11 = .ok (.ifCond .lt 8, 3)) := by decide +kernel
theorem dX9_barOfParty_0 : decode cX9_barOfParty 0 = .ok (.aload_n 0, 1) := dX9_barOfParty_k100.1
theorem dX9_barOfParty_1 : decode cX9_barOfParty 1 = .ok (.invokevirtual 127, 3) := dX9_barOfParty_k100.2.1
theorem dX9_barOfParty_4 : decode cX9_barOfParty 4 = .ok (.ifCond .ge 10, 3) := dX9_barOfParty_k100.2.2.1
theorem dX9_barOfParty_7 : decode cX9_barOfParty 7 = .ok (.aload_n 0, 1) := dX9_barOfParty_k100.2.2.2.1
theorem dX9_barOfParty_8 : decode cX9_barOfParty 8 = .ok (.invokevirtual 189, 3) := dX9_barOfParty_k100.2.2.2.2.1
theorem dX9_barOfParty_11 : decode cX9_barOfParty 11 = .ok (.ifCond .lt 8, 3) := dX9_barOfParty_k100.2.2.2.2.2
set_option maxRecDepth 100000 in
theorem dX9_barOfParty_k101 : (decode cX9_barOfParty 14 = .ok (.bipush (-5), 2)) ∧ (decode cX9_barOfParty 16 = .ok (.goto 4, 3)) ∧ (decode cX9_barOfParty 19 = .ok (.iconst 0, 1)) ∧ (decode cX9_barOfParty 20 = .ok (.ireturn, 1)) := by decide +kernel
theorem dX9_barOfParty_14 : decode cX9_barOfParty 14 = .ok (.bipush (-5), 2) := dX9_barOfParty_k101.1
theorem dX9_barOfParty_16 : decode cX9_barOfParty 16 = .ok (.goto 4, 3) := dX9_barOfParty_k101.2.1
theorem dX9_barOfParty_19 : decode cX9_barOfParty 19 = .ok (.iconst 0, 1) := dX9_barOfParty_k101.2.2.1
theorem dX9_barOfParty_20 : decode cX9_barOfParty 20 = .ok (.ireturn, 1) := dX9_barOfParty_k101.2.2.2
set_option maxRecDepth 100000 in
theorem dX9_done_k102 : (decode cX9_done 0 = .ok (.aload_n 0, 1)) ∧ (decode cX9_done 1 = .ok (.invokevirtual 192, 3)) ∧ (decode cX9_done 4 = .ok (.ifCond .ge 6, 3)) ∧ (decode cX9_done 7 = .ok (.bipush (-5), 2)) ∧ (decode cX9_done 9 = .ok (.ireturn, 1)) ∧ (decode cX9_done 10 = .ok (.iconst 0, 1)) := by decide +kernel
theorem dX9_done_0 : decode cX9_done 0 = .ok (.aload_n 0, 1) := dX9_done_k102.1
theorem dX9_done_1 : decode cX9_done 1 = .ok (.invokevirtual 192, 3) := dX9_done_k102.2.1
theorem dX9_done_4 : decode cX9_done 4 = .ok (.ifCond .ge 6, 3) := dX9_done_k102.2.2.1
theorem dX9_done_7 : decode cX9_done 7 = .ok (.bipush (-5), 2) := dX9_done_k102.2.2.2.1
theorem dX9_done_9 : decode cX9_done 9 = .ok (.ireturn, 1) := dX9_done_k102.2.2.2.2.1
theorem dX9_done_10 : decode cX9_done 10 = .ok (.iconst 0, 1) := dX9_done_k102.2.2.2.2.2
set_option maxRecDepth 100000 in
theorem dX9_done_k103 : (decode cX9_done 11 = .ok (.istore_n 1, 1)) ∧ (decode cX9_done 12 = .ok (.iload_n 1, 1)) ∧ (decode cX9_done 13 = .ok (.bipush 8, 2)) ∧ (decode cX9_done 15 = .ok (.if_icmp .ge 57, 3)) ∧ (decode cX9_done 18 = .ok (.aload_n 0, 1)) ∧ (decode cX9_done 19 = .ok (.getfield 29, 3)) := by decide +kernel
theorem dX9_done_11 : decode cX9_done 11 = .ok (.istore_n 1, 1) := dX9_done_k103.1
theorem dX9_done_12 : decode cX9_done 12 = .ok (.iload_n 1, 1) := dX9_done_k103.2.1
theorem dX9_done_13 : decode cX9_done 13 = .ok (.bipush 8, 2) := dX9_done_k103.2.2.1
theorem dX9_done_15 : decode cX9_done 15 = .ok (.if_icmp .ge 57, 3) := dX9_done_k103.2.2.2.1
theorem dX9_done_18 : decode cX9_done 18 = .ok (.aload_n 0, 1) := dX9_done_k103.2.2.2.2.1
theorem dX9_done_19 : decode cX9_done 19 = .ok (.getfield 29, 3) := dX9_done_k103.2.2.2.2.2
set_option maxRecDepth 100000 in
theorem dX9_done_k104 : (decode cX9_done 22 = .ok (.iload_n 1, 1)) ∧ (decode cX9_done 23 = .ok (.aload_n 0, 1)) ∧ (decode cX9_done 24 = .ok (.getfield 47, 3)) ∧ (decode cX9_done 27 = .ok (.iload_n 1, 1)) ∧ (decode cX9_done 28 = .ok (.iaload, 1)) ∧ (decode cX9_done 29 = .ok (.iastore, 1)) := by decide +kernel
theorem dX9_done_22 : decode cX9_done 22 = .ok (.iload_n 1, 1) := dX9_done_k104.1
theorem dX9_done_23 : decode cX9_done 23 = .ok (.aload_n 0, 1) := dX9_done_k104.2.1
theorem dX9_done_24 : decode cX9_done 24 = .ok (.getfield 47, 3) := dX9_done_k104.2.2.1
theorem dX9_done_27 : decode cX9_done 27 = .ok (.iload_n 1, 1) := dX9_done_k104.2.2.2.1
theorem dX9_done_28 : decode cX9_done 28 = .ok (.iaload, 1) := dX9_done_k104.2.2.2.2.1
theorem dX9_done_29 : decode cX9_done 29 = .ok (.iastore, 1) := dX9_done_k104.2.2.2.2.2
set_option maxRecDepth 100000 in
theorem dX9_done_k105 : (decode cX9_done 30 = .ok (.aload_n 0, 1)) ∧ (decode cX9_done 31 = .ok (.getfield 32, 3)) ∧ (decode cX9_done 34 = .ok (.iload_n 1, 1)) ∧ (decode cX9_done 35 = .ok (.aload_n 0, 1)) ∧ (decode cX9_done 36 = .ok (.getfield 50, 3)) ∧ (decode cX9_done 39 = .ok (.iload_n 1, 1)) := by decide +kernel
theorem dX9_done_30 : decode cX9_done 30 = .ok (.aload_n 0, 1) := dX9_done_k105.1
theorem dX9_done_31 : decode cX9_done 31 = .ok (.getfield 32, 3) := dX9_done_k105.2.1
theorem dX9_done_34 : decode cX9_done 34 = .ok (.iload_n 1, 1) := dX9_done_k105.2.2.1
theorem dX9_done_35 : decode cX9_done 35 = .ok (.aload_n 0, 1) := dX9_done_k105.2.2.2.1
theorem dX9_done_36 : decode cX9_done 36 = .ok (.getfield 50, 3) := dX9_done_k105.2.2.2.2.1
theorem dX9_done_39 : decode cX9_done 39 = .ok (.iload_n 1, 1) := dX9_done_k105.2.2.2.2.2
set_option maxRecDepth 100000 in
theorem dX9_done_k106 : (decode cX9_done 40 = .ok (.iaload, 1)) ∧ (decode cX9_done 41 = .ok (.iastore, 1)) ∧ (decode cX9_done 42 = .ok (.aload_n 0, 1)) ∧ (decode cX9_done 43 = .ok (.getfield 35, 3)) ∧ (decode cX9_done 46 = .ok (.iload_n 1, 1)) ∧ (decode cX9_done 47 = .ok (.aload_n 0, 1)) := by decide +kernel
theorem dX9_done_40 : decode cX9_done 40 = .ok (.iaload, 1) := dX9_done_k106.1
theorem dX9_done_41 : decode cX9_done 41 = .ok (.iastore, 1) := dX9_done_k106.2.1
theorem dX9_done_42 : decode cX9_done 42 = .ok (.aload_n 0, 1) := dX9_done_k106.2.2.1
theorem dX9_done_43 : decode cX9_done 43 = .ok (.getfield 35, 3) := dX9_done_k106.2.2.2.1
theorem dX9_done_46 : decode cX9_done 46 = .ok (.iload_n 1, 1) := dX9_done_k106.2.2.2.2.1
theorem dX9_done_47 : decode cX9_done 47 = .ok (.aload_n 0, 1) := dX9_done_k106.2.2.2.2.2
set_option maxRecDepth 100000 in
theorem dX9_done_k107 : (decode cX9_done 48 = .ok (.getfield 53, 3)) ∧ (decode cX9_done 51 = .ok (.iload_n 1, 1)) ∧ (decode cX9_done 52 = .ok (.iaload, 1)) ∧ (decode cX9_done 53 = .ok (.iastore, 1)) ∧ (decode cX9_done 54 = .ok (.aload_n 0, 1)) ∧ (decode cX9_done 55 = .ok (.getfield 38, 3)) := by decide +kernel
theorem dX9_done_48 : decode cX9_done 48 = .ok (.getfield 53, 3) := dX9_done_k107.1
theorem dX9_done_51 : decode cX9_done 51 = .ok (.iload_n 1, 1) := dX9_done_k107.2.1
theorem dX9_done_52 : decode cX9_done 52 = .ok (.iaload, 1) := dX9_done_k107.2.2.1
theorem dX9_done_53 : decode cX9_done 53 = .ok (.iastore, 1) := dX9_done_k107.2.2.2.1
theorem dX9_done_54 : decode cX9_done 54 = .ok (.aload_n 0, 1) := dX9_done_k107.2.2.2.2.1
theorem dX9_done_55 : decode cX9_done 55 = .ok (.getfield 38, 3) := dX9_done_k107.2.2.2.2.2
set_option maxRecDepth 100000 in
theorem dX9_done_k108 : (decode cX9_done 58 = .ok (.iload_n 1, 1)) ∧ (decode cX9_done 59 = .ok (.aload_n 0, 1)) ∧ (decode cX9_done 60 = .ok (.getfield 56, 3)) ∧ (decode cX9_done 63 = .ok (.iload_n 1, 1)) ∧ (decode cX9_done 64 = .ok (.iaload, 1)) ∧ (decode cX9_done 65 = .ok (.iastore, 1)) := by decide +kernel
theorem dX9_done_58 : decode cX9_done 58 = .ok (.iload_n 1, 1) := dX9_done_k108.1
theorem dX9_done_59 : decode cX9_done 59 = .ok (.aload_n 0, 1) := dX9_done_k108.2.1
theorem dX9_done_60 : decode cX9_done 60 = .ok (.getfield 56, 3) := dX9_done_k108.2.2.1
theorem dX9_done_63 : decode cX9_done 63 = .ok (.iload_n 1, 1) := dX9_done_k108.2.2.2.1
theorem dX9_done_64 : decode cX9_done 64 = .ok (.iaload, 1) := dX9_done_k108.2.2.2.2.1
theorem dX9_done_65 : decode cX9_done 65 = .ok (.iastore, 1) := dX9_done_k108.2.2.2.2.2
set_option maxRecDepth 100000 in
theorem dX9_done_k109 : (decode cX9_done 66 = .ok (.iinc 1 1, 3)) ∧ (decode cX9_done 69 = .ok (.goto (-57), 3)) ∧ (decode cX9_done 72 = .ok (.iconst 0, 1)) ∧ (decode cX9_done 73 = .ok (.istore_n 1, 1)) ∧ (decode cX9_done 74 = .ok (.iload_n 1, 1)) ∧ (decode cX9_done 75 = .ok (.bipush 24, 2)) := by decide +kernel
theorem dX9_done_66 : decode cX9_done 66 = .ok (.iinc 1 1, 3) := dX9_done_k109.1
theorem dX9_done_69 : decode cX9_done 69 = .ok (.goto (-57), 3) := dX9_done_k109.2.1
theorem dX9_done_72 : decode cX9_done 72 = .ok (.iconst 0, 1) := dX9_done_k109.2.2.1
theorem dX9_done_73 : decode cX9_done 73 = .ok (.istore_n 1, 1) := dX9_done_k109.2.2.2.1
theorem dX9_done_74 : decode cX9_done 74 = .ok (.iload_n 1, 1) := dX9_done_k109.2.2.2.2.1
theorem dX9_done_75 : decode cX9_done 75 = .ok (.bipush 24, 2) := dX9_done_k109.2.2.2.2.2
set_option maxRecDepth 100000 in
theorem dX9_done_k110 : (decode cX9_done 77 = .ok (.if_icmp .ge 21, 3)) ∧ (decode cX9_done 80 = .ok (.aload_n 0, 1)) ∧ (decode cX9_done 81 = .ok (.getfield 13, 3)) ∧ (decode cX9_done 84 = .ok (.iload_n 1, 1)) ∧ (decode cX9_done 85 = .ok (.aload_n 0, 1)) ∧ (decode cX9_done 86 = .ok (.getfield 59, 3)) := by decide +kernel
theorem dX9_done_77 : decode cX9_done 77 = .ok (.if_icmp .ge 21, 3) := dX9_done_k110.1
theorem dX9_done_80 : decode cX9_done 80 = .ok (.aload_n 0, 1) := dX9_done_k110.2.1
theorem dX9_done_81 : decode cX9_done 81 = .ok (.getfield 13, 3) := dX9_done_k110.2.2.1
theorem dX9_done_84 : decode cX9_done 84 = .ok (.iload_n 1, 1) := dX9_done_k110.2.2.2.1
theorem dX9_done_85 : decode cX9_done 85 = .ok (.aload_n 0, 1) := dX9_done_k110.2.2.2.2.1
theorem dX9_done_86 : decode cX9_done 86 = .ok (.getfield 59, 3) := dX9_done_k110.2.2.2.2.2
set_option maxRecDepth 100000 in
theorem dX9_done_k111 : (decode cX9_done 89 = .ok (.iload_n 1, 1)) ∧ (decode cX9_done 90 = .ok (.iaload, 1)) ∧ (decode cX9_done 91 = .ok (.iastore, 1)) ∧ (decode cX9_done 92 = .ok (.iinc 1 1, 3)) ∧ (decode cX9_done 95 = .ok (.goto (-21), 3)) ∧ (decode cX9_done 98 = .ok (.aload_n 0, 1)) := by decide +kernel
theorem dX9_done_89 : decode cX9_done 89 = .ok (.iload_n 1, 1) := dX9_done_k111.1
theorem dX9_done_90 : decode cX9_done 90 = .ok (.iaload, 1) := dX9_done_k111.2.1
theorem dX9_done_91 : decode cX9_done 91 = .ok (.iastore, 1) := dX9_done_k111.2.2.1
theorem dX9_done_92 : decode cX9_done 92 = .ok (.iinc 1 1, 3) := dX9_done_k111.2.2.2.1
theorem dX9_done_95 : decode cX9_done 95 = .ok (.goto (-21), 3) := dX9_done_k111.2.2.2.2.1
theorem dX9_done_98 : decode cX9_done 98 = .ok (.aload_n 0, 1) := dX9_done_k111.2.2.2.2.2
set_option maxRecDepth 100000 in
theorem dX9_done_k112 : (decode cX9_done 99 = .ok (.iconst 0, 1)) ∧ (decode cX9_done 100 = .ok (.putfield 124, 3)) ∧ (decode cX9_done 103 = .ok (.aload_n 0, 1)) ∧ (decode cX9_done 104 = .ok (.getfield 160, 3)) ∧ (decode cX9_done 107 = .ok (.ireturn, 1)) := by decide +kernel
theorem dX9_done_99 : decode cX9_done 99 = .ok (.iconst 0, 1) := dX9_done_k112.1
theorem dX9_done_100 : decode cX9_done 100 = .ok (.putfield 124, 3) := dX9_done_k112.2.1
theorem dX9_done_103 : decode cX9_done 103 = .ok (.aload_n 0, 1) := dX9_done_k112.2.2.1
theorem dX9_done_104 : decode cX9_done 104 = .ok (.getfield 160, 3) := dX9_done_k112.2.2.2.1
theorem dX9_done_107 : decode cX9_done 107 = .ok (.ireturn, 1) := dX9_done_k112.2.2.2.2
set_option maxRecDepth 100000 in
theorem dX9_stateNow_k113 : (decode cX9_stateNow 0 = .ok (.aload_n 0, 1)) ∧ (decode cX9_stateNow 1 = .ok (.getfield 50, 3)) ∧ (decode cX9_stateNow 4 = .ok (.iload_n 1, 1)) ∧ (decode cX9_stateNow 5 = .ok (.iaload, 1)) ∧ (decode cX9_stateNow 6 = .ok (.ifCond .eq 13, 3)) ∧ (decode cX9_stateNow 9 = .ok (.aload_n 0, 1)) := by decide +kernel
theorem dX9_stateNow_0 : decode cX9_stateNow 0 = .ok (.aload_n 0, 1) := dX9_stateNow_k113.1
theorem dX9_stateNow_1 : decode cX9_stateNow 1 = .ok (.getfield 50, 3) := dX9_stateNow_k113.2.1
theorem dX9_stateNow_4 : decode cX9_stateNow 4 = .ok (.iload_n 1, 1) := dX9_stateNow_k113.2.2.1
theorem dX9_stateNow_5 : decode cX9_stateNow 5 = .ok (.iaload, 1) := dX9_stateNow_k113.2.2.2.1
theorem dX9_stateNow_6 : decode cX9_stateNow 6 = .ok (.ifCond .eq 13, 3) := dX9_stateNow_k113.2.2.2.2.1
theorem dX9_stateNow_9 : decode cX9_stateNow 9 = .ok (.aload_n 0, 1) := dX9_stateNow_k113.2.2.2.2.2
set_option maxRecDepth 100000 in
theorem dX9_stateNow_k114 : (decode cX9_stateNow 10 = .ok (.getfield 50, 3)) ∧ (decode cX9_stateNow 13 = .ok (.iload_n 1, 1)) ∧ (decode cX9_stateNow 14 = .ok (.iaload, 1)) ∧ (decode cX9_stateNow 15 = .ok (.iconst 2, 1)) ∧ (decode cX9_stateNow 16 = .ok (.if_icmp .ne 7, 3)) ∧ (decode cX9_stateNow 19 = .ok (.iconst 1, 1)) := by decide +kernel
theorem dX9_stateNow_10 : decode cX9_stateNow 10 = .ok (.getfield 50, 3) := dX9_stateNow_k114.1
theorem dX9_stateNow_13 : decode cX9_stateNow 13 = .ok (.iload_n 1, 1) := dX9_stateNow_k114.2.1
theorem dX9_stateNow_14 : decode cX9_stateNow 14 = .ok (.iaload, 1) := dX9_stateNow_k114.2.2.1
theorem dX9_stateNow_15 : decode cX9_stateNow 15 = .ok (.iconst 2, 1) := dX9_stateNow_k114.2.2.2.1
theorem dX9_stateNow_16 : decode cX9_stateNow 16 = .ok (.if_icmp .ne 7, 3) := dX9_stateNow_k114.2.2.2.2.1
theorem dX9_stateNow_19 : decode cX9_stateNow 19 = .ok (.iconst 1, 1) := dX9_stateNow_k114.2.2.2.2.2
set_option maxRecDepth 100000 in
theorem dX9_stateNow_k115 : (decode cX9_stateNow 20 = .ok (.goto 4, 3)) ∧ (decode cX9_stateNow 23 = .ok (.iconst 0, 1)) ∧ (decode cX9_stateNow 24 = .ok (.istore_n 3, 1)) ∧ (decode cX9_stateNow 25 = .ok (.iload_n 2, 1)) ∧ (decode cX9_stateNow 26 = .ok (.ifCond .ne 12, 3)) ∧ (decode cX9_stateNow 29 = .ok (.aload_n 0, 1)) := by decide +kernel
theorem dX9_stateNow_20 : decode cX9_stateNow 20 = .ok (.goto 4, 3) := dX9_stateNow_k115.1
theorem dX9_stateNow_23 : decode cX9_stateNow 23 = .ok (.iconst 0, 1) := dX9_stateNow_k115.2.1
theorem dX9_stateNow_24 : decode cX9_stateNow 24 = .ok (.istore_n 3, 1) := dX9_stateNow_k115.2.2.1
theorem dX9_stateNow_25 : decode cX9_stateNow 25 = .ok (.iload_n 2, 1) := dX9_stateNow_k115.2.2.2.1
theorem dX9_stateNow_26 : decode cX9_stateNow 26 = .ok (.ifCond .ne 12, 3) := dX9_stateNow_k115.2.2.2.2.1
theorem dX9_stateNow_29 : decode cX9_stateNow 29 = .ok (.aload_n 0, 1) := dX9_stateNow_k115.2.2.2.2.2
set_option maxRecDepth 100000 in
theorem dX9_stateNow_k116 : (decode cX9_stateNow 30 = .ok (.getfield 47, 3)) ∧ (decode cX9_stateNow 33 = .ok (.iload_n 1, 1)) ∧ (decode cX9_stateNow 34 = .ok (.iaload, 1)) ∧ (decode cX9_stateNow 35 = .ok (.goto 60, 3)) ∧ (decode cX9_stateNow 38 = .ok (.iload_n 2, 1)) ∧ (decode cX9_stateNow 39 = .ok (.iconst 1, 1)) := by decide +kernel
theorem dX9_stateNow_30 : decode cX9_stateNow 30 = .ok (.getfield 47, 3) := dX9_stateNow_k116.1
theorem dX9_stateNow_33 : decode cX9_stateNow 33 = .ok (.iload_n 1, 1) := dX9_stateNow_k116.2.1
theorem dX9_stateNow_34 : decode cX9_stateNow 34 = .ok (.iaload, 1) := dX9_stateNow_k116.2.2.1
theorem dX9_stateNow_35 : decode cX9_stateNow 35 = .ok (.goto 60, 3) := dX9_stateNow_k116.2.2.2.1
theorem dX9_stateNow_38 : decode cX9_stateNow 38 = .ok (.iload_n 2, 1) := dX9_stateNow_k116.2.2.2.2.1
theorem dX9_stateNow_39 : decode cX9_stateNow 39 = .ok (.iconst 1, 1) := dX9_stateNow_k116.2.2.2.2.2
set_option maxRecDepth 100000 in
theorem dX9_stateNow_k117 : (decode cX9_stateNow 40 = .ok (.if_icmp .ne 12, 3)) ∧ (decode cX9_stateNow 43 = .ok (.aload_n 0, 1)) ∧ (decode cX9_stateNow 44 = .ok (.getfield 50, 3)) ∧ (decode cX9_stateNow 47 = .ok (.iload_n 1, 1)) ∧ (decode cX9_stateNow 48 = .ok (.iaload, 1)) ∧ (decode cX9_stateNow 49 = .ok (.goto 46, 3)) := by decide +kernel
theorem dX9_stateNow_40 : decode cX9_stateNow 40 = .ok (.if_icmp .ne 12, 3) := dX9_stateNow_k117.1
theorem dX9_stateNow_43 : decode cX9_stateNow 43 = .ok (.aload_n 0, 1) := dX9_stateNow_k117.2.1
theorem dX9_stateNow_44 : decode cX9_stateNow 44 = .ok (.getfield 50, 3) := dX9_stateNow_k117.2.2.1
theorem dX9_stateNow_47 : decode cX9_stateNow 47 = .ok (.iload_n 1, 1) := dX9_stateNow_k117.2.2.2.1
theorem dX9_stateNow_48 : decode cX9_stateNow 48 = .ok (.iaload, 1) := dX9_stateNow_k117.2.2.2.2.1
theorem dX9_stateNow_49 : decode cX9_stateNow 49 = .ok (.goto 46, 3) := dX9_stateNow_k117.2.2.2.2.2
set_option maxRecDepth 100000 in
theorem dX9_stateNow_k118 : (decode cX9_stateNow 52 = .ok (.iload_n 2, 1)) ∧ (decode cX9_stateNow 53 = .ok (.iconst 2, 1)) ∧ (decode cX9_stateNow 54 = .ok (.if_icmp .ne 21, 3)) ∧ (decode cX9_stateNow 57 = .ok (.iload_n 3, 1)) ∧ (decode cX9_stateNow 58 = .ok (.ifCond .eq 8, 3)) ∧ (decode cX9_stateNow 61 = .ok (.bipush (-6), 2)) := by decide +kernel
theorem dX9_stateNow_52 : decode cX9_stateNow 52 = .ok (.iload_n 2, 1) := dX9_stateNow_k118.1
theorem dX9_stateNow_53 : decode cX9_stateNow 53 = .ok (.iconst 2, 1) := dX9_stateNow_k118.2.1
theorem dX9_stateNow_54 : decode cX9_stateNow 54 = .ok (.if_icmp .ne 21, 3) := dX9_stateNow_k118.2.2.1
theorem dX9_stateNow_57 : decode cX9_stateNow 57 = .ok (.iload_n 3, 1) := dX9_stateNow_k118.2.2.2.1
theorem dX9_stateNow_58 : decode cX9_stateNow 58 = .ok (.ifCond .eq 8, 3) := dX9_stateNow_k118.2.2.2.2.1
theorem dX9_stateNow_61 : decode cX9_stateNow 61 = .ok (.bipush (-6), 2) := dX9_stateNow_k118.2.2.2.2.2
set_option maxRecDepth 100000 in
theorem dX9_stateNow_k119 : (decode cX9_stateNow 63 = .ok (.goto 32, 3)) ∧ (decode cX9_stateNow 66 = .ok (.aload_n 0, 1)) ∧ (decode cX9_stateNow 67 = .ok (.getfield 53, 3)) ∧ (decode cX9_stateNow 70 = .ok (.iload_n 1, 1)) ∧ (decode cX9_stateNow 71 = .ok (.iaload, 1)) ∧ (decode cX9_stateNow 72 = .ok (.goto 23, 3)) := by decide +kernel
theorem dX9_stateNow_63 : decode cX9_stateNow 63 = .ok (.goto 32, 3) := dX9_stateNow_k119.1
theorem dX9_stateNow_66 : decode cX9_stateNow 66 = .ok (.aload_n 0, 1) := dX9_stateNow_k119.2.1
theorem dX9_stateNow_67 : decode cX9_stateNow 67 = .ok (.getfield 53, 3) := dX9_stateNow_k119.2.2.1
theorem dX9_stateNow_70 : decode cX9_stateNow 70 = .ok (.iload_n 1, 1) := dX9_stateNow_k119.2.2.2.1
theorem dX9_stateNow_71 : decode cX9_stateNow 71 = .ok (.iaload, 1) := dX9_stateNow_k119.2.2.2.2.1
theorem dX9_stateNow_72 : decode cX9_stateNow 72 = .ok (.goto 23, 3) := dX9_stateNow_k119.2.2.2.2.2
set_option maxRecDepth 100000 in
theorem dX9_stateNow_k120 : (decode cX9_stateNow 75 = .ok (.aload_n 0, 1)) ∧ (decode cX9_stateNow 76 = .ok (.getfield 50, 3)) ∧ (decode cX9_stateNow 79 = .ok (.iload_n 1, 1)) ∧ (decode cX9_stateNow 80 = .ok (.iaload, 1)) ∧ (decode cX9_stateNow 81 = .ok (.iconst 1, 1)) ∧ (decode cX9_stateNow 82 = .ok (.if_icmp .ne 12, 3)) := by decide +kernel
theorem dX9_stateNow_75 : decode cX9_stateNow 75 = .ok (.aload_n 0, 1) := dX9_stateNow_k120.1
theorem dX9_stateNow_76 : decode cX9_stateNow 76 = .ok (.getfield 50, 3) := dX9_stateNow_k120.2.1
theorem dX9_stateNow_79 : decode cX9_stateNow 79 = .ok (.iload_n 1, 1) := dX9_stateNow_k120.2.2.1
theorem dX9_stateNow_80 : decode cX9_stateNow 80 = .ok (.iaload, 1) := dX9_stateNow_k120.2.2.2.1
theorem dX9_stateNow_81 : decode cX9_stateNow 81 = .ok (.iconst 1, 1) := dX9_stateNow_k120.2.2.2.2.1
theorem dX9_stateNow_82 : decode cX9_stateNow 82 = .ok (.if_icmp .ne 12, 3) := dX9_stateNow_k120.2.2.2.2.2
set_option maxRecDepth 100000 in
theorem dX9_stateNow_k121 : (decode cX9_stateNow 85 = .ok (.aload_n 0, 1)) ∧ (decode cX9_stateNow 86 = .ok (.getfield 56, 3)) ∧ (decode cX9_stateNow 89 = .ok (.iload_n 1, 1)) ∧ (decode cX9_stateNow 90 = .ok (.iaload, 1)) ∧ (decode cX9_stateNow 91 = .ok (.goto 4, 3)) ∧ (decode cX9_stateNow 94 = .ok (.iconst 0, 1)) := by decide +kernel
theorem dX9_stateNow_85 : decode cX9_stateNow 85 = .ok (.aload_n 0, 1) := dX9_stateNow_k121.1
theorem dX9_stateNow_86 : decode cX9_stateNow 86 = .ok (.getfield 56, 3) := dX9_stateNow_k121.2.1
theorem dX9_stateNow_89 : decode cX9_stateNow 89 = .ok (.iload_n 1, 1) := dX9_stateNow_k121.2.2.1
theorem dX9_stateNow_90 : decode cX9_stateNow 90 = .ok (.iaload, 1) := dX9_stateNow_k121.2.2.2.1
theorem dX9_stateNow_91 : decode cX9_stateNow 91 = .ok (.goto 4, 3) := dX9_stateNow_k121.2.2.2.2.1
theorem dX9_stateNow_94 : decode cX9_stateNow 94 = .ok (.iconst 0, 1) := dX9_stateNow_k121.2.2.2.2.2
theorem dX9_stateNow_95 : decode cX9_stateNow 95 = .ok (.ireturn, 1) := by decide +kernel
set_option maxRecDepth 100000 in
theorem dX9_state_k122 : (decode cX9_state 0 = .ok (.aload_n 0, 1)) ∧ (decode cX9_state 1 = .ok (.iload_n 1, 1)) ∧ (decode cX9_state 2 = .ok (.invokevirtual 121, 3)) ∧ (decode cX9_state 5 = .ok (.ifCond .ne 5, 3)) ∧ (decode cX9_state 8 = .ok (.iconst (-1), 1)) ∧ (decode cX9_state 9 = .ok (.ireturn, 1)) := by decide +kernel
theorem dX9_state_0 : decode cX9_state 0 = .ok (.aload_n 0, 1) := dX9_state_k122.1
theorem dX9_state_1 : decode cX9_state 1 = .ok (.iload_n 1, 1) := dX9_state_k122.2.1
theorem dX9_state_2 : decode cX9_state 2 = .ok (.invokevirtual 121, 3) := dX9_state_k122.2.2.1
theorem dX9_state_5 : decode cX9_state 5 = .ok (.ifCond .ne 5, 3) := dX9_state_k122.2.2.2.1
theorem dX9_state_8 : decode cX9_state 8 = .ok (.iconst (-1), 1) := dX9_state_k122.2.2.2.2.1
theorem dX9_state_9 : decode cX9_state 9 = .ok (.ireturn, 1) := dX9_state_k122.2.2.2.2.2
set_option maxRecDepth 100000 in
theorem dX9_state_k123 : (decode cX9_state 10 = .ok (.iload_n 2, 1)) ∧ (decode cX9_state 11 = .ok (.iconst 0, 1)) ∧ (decode cX9_state 12 = .ok (.iconst 3, 1)) ∧ (decode cX9_state 13 = .ok (.invokestatic 94, 3)) ∧ (decode cX9_state 16 = .ok (.ifCond .ne 6, 3)) ∧ (decode cX9_state 19 = .ok (.bipush (-2), 2)) := by decide +kernel
theorem dX9_state_10 : decode cX9_state 10 = .ok (.iload_n 2, 1) := dX9_state_k123.1
theorem dX9_state_11 : decode cX9_state 11 = .ok (.iconst 0, 1) := dX9_state_k123.2.1
theorem dX9_state_12 : decode cX9_state 12 = .ok (.iconst 3, 1) := dX9_state_k123.2.2.1
theorem dX9_state_13 : decode cX9_state 13 = .ok (.invokestatic 94, 3) := dX9_state_k123.2.2.2.1
theorem dX9_state_16 : decode cX9_state 16 = .ok (.ifCond .ne 6, 3) := dX9_state_k123.2.2.2.2.1
theorem dX9_state_19 : decode cX9_state 19 = .ok (.bipush (-2), 2) := dX9_state_k123.2.2.2.2.2
set_option maxRecDepth 100000 in
theorem dX9_state_k124 : (decode cX9_state 21 = .ok (.ireturn, 1)) ∧ (decode cX9_state 22 = .ok (.aload_n 0, 1)) ∧ (decode cX9_state 23 = .ok (.invokevirtual 157, 3)) ∧ (decode cX9_state 26 = .ok (.aload_n 0, 1)) ∧ (decode cX9_state 27 = .ok (.iload_n 1, 1)) ∧ (decode cX9_state 28 = .ok (.iload_n 2, 1)) := by decide +kernel
theorem dX9_state_21 : decode cX9_state 21 = .ok (.ireturn, 1) := dX9_state_k124.1
theorem dX9_state_22 : decode cX9_state 22 = .ok (.aload_n 0, 1) := dX9_state_k124.2.1
theorem dX9_state_23 : decode cX9_state 23 = .ok (.invokevirtual 157, 3) := dX9_state_k124.2.2.1
theorem dX9_state_26 : decode cX9_state 26 = .ok (.aload_n 0, 1) := dX9_state_k124.2.2.2.1
theorem dX9_state_27 : decode cX9_state 27 = .ok (.iload_n 1, 1) := dX9_state_k124.2.2.2.2.1
theorem dX9_state_28 : decode cX9_state 28 = .ok (.iload_n 2, 1) := dX9_state_k124.2.2.2.2.2
set_option maxRecDepth 100000 in
theorem dX9_state_k125 : (decode cX9_state 29 = .ok (.invokevirtual 195, 3)) ∧ (decode cX9_state 32 = .ok (.ireturn, 1)) := by decide +kernel
theorem dX9_state_29 : decode cX9_state 29 = .ok (.invokevirtual 195, 3) := dX9_state_k125.1
theorem dX9_state_32 : decode cX9_state 32 = .ok (.ireturn, 1) := dX9_state_k125.2
set_option maxRecDepth 100000 in
theorem dX9_behind_k126 : (decode cX9_behind 0 = .ok (.aload_n 0, 1)) ∧ (decode cX9_behind 1 = .ok (.iload_n 1, 1)) ∧ (decode cX9_behind 2 = .ok (.invokevirtual 121, 3)) ∧ (decode cX9_behind 5 = .ok (.ifCond .ne 5, 3)) ∧ (decode cX9_behind 8 = .ok (.iconst (-1), 1)) ∧ (decode cX9_behind 9 = .ok (.ireturn, 1)) := by decide +kernel
theorem dX9_behind_0 : decode cX9_behind 0 = .ok (.aload_n 0, 1) := dX9_behind_k126.1
theorem dX9_behind_1 : decode cX9_behind 1 = .ok (.iload_n 1, 1) := dX9_behind_k126.2.1
theorem dX9_behind_2 : decode cX9_behind 2 = .ok (.invokevirtual 121, 3) := dX9_behind_k126.2.2.1
theorem dX9_behind_5 : decode cX9_behind 5 = .ok (.ifCond .ne 5, 3) := dX9_behind_k126.2.2.2.1
theorem dX9_behind_8 : decode cX9_behind 8 = .ok (.iconst (-1), 1) := dX9_behind_k126.2.2.2.2.1
theorem dX9_behind_9 : decode cX9_behind 9 = .ok (.ireturn, 1) := dX9_behind_k126.2.2.2.2.2
set_option maxRecDepth 100000 in
theorem dX9_behind_k127 : (decode cX9_behind 10 = .ok (.iload_n 2, 1)) ∧ (decode cX9_behind 11 = .ok (.iconst 0, 1)) ∧ (decode cX9_behind 12 = .ok (.iconst 3, 1)) ∧ (decode cX9_behind 13 = .ok (.invokestatic 94, 3)) ∧ (decode cX9_behind 16 = .ok (.ifCond .ne 6, 3)) ∧ (decode cX9_behind 19 = .ok (.bipush (-2), 2)) := by decide +kernel
theorem dX9_behind_10 : decode cX9_behind 10 = .ok (.iload_n 2, 1) := dX9_behind_k127.1
theorem dX9_behind_11 : decode cX9_behind 11 = .ok (.iconst 0, 1) := dX9_behind_k127.2.1
theorem dX9_behind_12 : decode cX9_behind 12 = .ok (.iconst 3, 1) := dX9_behind_k127.2.2.1
theorem dX9_behind_13 : decode cX9_behind 13 = .ok (.invokestatic 94, 3) := dX9_behind_k127.2.2.2.1
theorem dX9_behind_16 : decode cX9_behind 16 = .ok (.ifCond .ne 6, 3) := dX9_behind_k127.2.2.2.2.1
theorem dX9_behind_19 : decode cX9_behind 19 = .ok (.bipush (-2), 2) := dX9_behind_k127.2.2.2.2.2
set_option maxRecDepth 100000 in
theorem dX9_behind_k128 : (decode cX9_behind 21 = .ok (.ireturn, 1)) ∧ (decode cX9_behind 22 = .ok (.aload_n 0, 1)) ∧ (decode cX9_behind 23 = .ok (.invokevirtual 192, 3)) ∧ (decode cX9_behind 26 = .ok (.ifCond .ge 8, 3)) ∧ (decode cX9_behind 29 = .ok (.bipush (-5), 2)) ∧ (decode cX9_behind 31 = .ok (.goto 9, 3)) := by decide +kernel
theorem dX9_behind_21 : decode cX9_behind 21 = .ok (.ireturn, 1) := dX9_behind_k128.1
theorem dX9_behind_22 : decode cX9_behind 22 = .ok (.aload_n 0, 1) := dX9_behind_k128.2.1
theorem dX9_behind_23 : decode cX9_behind 23 = .ok (.invokevirtual 192, 3) := dX9_behind_k128.2.2.1
theorem dX9_behind_26 : decode cX9_behind 26 = .ok (.ifCond .ge 8, 3) := dX9_behind_k128.2.2.2.1
theorem dX9_behind_29 : decode cX9_behind 29 = .ok (.bipush (-5), 2) := dX9_behind_k128.2.2.2.2.1
theorem dX9_behind_31 : decode cX9_behind 31 = .ok (.goto 9, 3) := dX9_behind_k128.2.2.2.2.2
set_option maxRecDepth 100000 in
theorem dX9_behind_k129 : (decode cX9_behind 34 = .ok (.aload_n 0, 1)) ∧ (decode cX9_behind 35 = .ok (.iload_n 1, 1)) ∧ (decode cX9_behind 36 = .ok (.iload_n 2, 1)) ∧ (decode cX9_behind 37 = .ok (.invokevirtual 195, 3)) ∧ (decode cX9_behind 40 = .ok (.ireturn, 1)) := by decide +kernel
theorem dX9_behind_34 : decode cX9_behind 34 = .ok (.aload_n 0, 1) := dX9_behind_k129.1
theorem dX9_behind_35 : decode cX9_behind 35 = .ok (.iload_n 1, 1) := dX9_behind_k129.2.1
theorem dX9_behind_36 : decode cX9_behind 36 = .ok (.iload_n 2, 1) := dX9_behind_k129.2.2.1
theorem dX9_behind_37 : decode cX9_behind 37 = .ok (.invokevirtual 195, 3) := dX9_behind_k129.2.2.2.1
theorem dX9_behind_40 : decode cX9_behind 40 = .ok (.ireturn, 1) := dX9_behind_k129.2.2.2.2
set_option maxRecDepth 100000 in
theorem dX9_draw_k130 : (decode cX9_draw 0 = .ok (.aload_n 0, 1)) ∧ (decode cX9_draw 1 = .ok (.iload_n 1, 1)) ∧ (decode cX9_draw 2 = .ok (.invokevirtual 121, 3)) ∧ (decode cX9_draw 5 = .ok (.ifCond .eq 11, 3)) ∧ (decode cX9_draw 8 = .ok (.aload_n 0, 1)) ∧ (decode cX9_draw 9 = .ok (.iload_n 2, 1)) := by decide +kernel
theorem dX9_draw_0 : decode cX9_draw 0 = .ok (.aload_n 0, 1) := dX9_draw_k130.1
theorem dX9_draw_1 : decode cX9_draw 1 = .ok (.iload_n 1, 1) := dX9_draw_k130.2.1
theorem dX9_draw_2 : decode cX9_draw 2 = .ok (.invokevirtual 121, 3) := dX9_draw_k130.2.2.1
theorem dX9_draw_5 : decode cX9_draw 5 = .ok (.ifCond .eq 11, 3) := dX9_draw_k130.2.2.2.1
theorem dX9_draw_8 : decode cX9_draw 8 = .ok (.aload_n 0, 1) := dX9_draw_k130.2.2.2.2.1
theorem dX9_draw_9 : decode cX9_draw 9 = .ok (.iload_n 2, 1) := dX9_draw_k130.2.2.2.2.2
set_option maxRecDepth 100000 in
theorem dX9_draw_k131 : (decode cX9_draw 10 = .ok (.invokevirtual 102, 3)) ∧ (decode cX9_draw 13 = .ok (.ifCond .ne 5, 3)) ∧ (decode cX9_draw 16 = .ok (.iconst (-1), 1)) ∧ (decode cX9_draw 17 = .ok (.ireturn, 1)) ∧ (decode cX9_draw 18 = .ok (.aload_n 0, 1)) ∧ (decode cX9_draw 19 = .ok (.invokevirtual 157, 3)) := by decide +kernel
theorem dX9_draw_10 : decode cX9_draw 10 = .ok (.invokevirtual 102, 3) := dX9_draw_k131.1
theorem dX9_draw_13 : decode cX9_draw 13 = .ok (.ifCond .ne 5, 3) := dX9_draw_k131.2.1
theorem dX9_draw_16 : decode cX9_draw 16 = .ok (.iconst (-1), 1) := dX9_draw_k131.2.2.1
theorem dX9_draw_17 : decode cX9_draw 17 = .ok (.ireturn, 1) := dX9_draw_k131.2.2.2.1
theorem dX9_draw_18 : decode cX9_draw 18 = .ok (.aload_n 0, 1) := dX9_draw_k131.2.2.2.2.1
theorem dX9_draw_19 : decode cX9_draw 19 = .ok (.invokevirtual 157, 3) := dX9_draw_k131.2.2.2.2.2
set_option maxRecDepth 100000 in
theorem dX9_draw_k132 : (decode cX9_draw 22 = .ok (.aload_n 0, 1)) ∧ (decode cX9_draw 23 = .ok (.iload_n 1, 1)) ∧ (decode cX9_draw 24 = .ok (.iload_n 2, 1)) ∧ (decode cX9_draw 25 = .ok (.bipush (-6), 2)) ∧ (decode cX9_draw 27 = .ok (.iconst 0, 1)) ∧ (decode cX9_draw 28 = .ok (.invokevirtual 138, 3)) := by decide +kernel
theorem dX9_draw_22 : decode cX9_draw 22 = .ok (.aload_n 0, 1) := dX9_draw_k132.1
theorem dX9_draw_23 : decode cX9_draw 23 = .ok (.iload_n 1, 1) := dX9_draw_k132.2.1
theorem dX9_draw_24 : decode cX9_draw 24 = .ok (.iload_n 2, 1) := dX9_draw_k132.2.2.1
theorem dX9_draw_25 : decode cX9_draw 25 = .ok (.bipush (-6), 2) := dX9_draw_k132.2.2.2.1
theorem dX9_draw_27 : decode cX9_draw 27 = .ok (.iconst 0, 1) := dX9_draw_k132.2.2.2.2.1
theorem dX9_draw_28 : decode cX9_draw 28 = .ok (.invokevirtual 138, 3) := dX9_draw_k132.2.2.2.2.2
set_option maxRecDepth 100000 in
theorem dX9_draw_k133 : (decode cX9_draw 31 = .ok (.sipush 1000, 3)) ∧ (decode cX9_draw 34 = .ok (.iadd, 1)) ∧ (decode cX9_draw 35 = .ok (.ireturn, 1)) := by decide +kernel
theorem dX9_draw_31 : decode cX9_draw 31 = .ok (.sipush 1000, 3) := dX9_draw_k133.1
theorem dX9_draw_34 : decode cX9_draw 34 = .ok (.iadd, 1) := dX9_draw_k133.2.1
theorem dX9_draw_35 : decode cX9_draw 35 = .ok (.ireturn, 1) := dX9_draw_k133.2.2
set_option maxRecDepth 100000 in
theorem dX9_goes_k134 : (decode cX9_goes 0 = .ok (.aload_n 0, 1)) ∧ (decode cX9_goes 1 = .ok (.iload_n 1, 1)) ∧ (decode cX9_goes 2 = .ok (.invokevirtual 121, 3)) ∧ (decode cX9_goes 5 = .ok (.ifCond .ne 5, 3)) ∧ (decode cX9_goes 8 = .ok (.iconst (-1), 1)) ∧ (decode cX9_goes 9 = .ok (.ireturn, 1)) := by decide +kernel
theorem dX9_goes_0 : decode cX9_goes 0 = .ok (.aload_n 0, 1) := dX9_goes_k134.1
theorem dX9_goes_1 : decode cX9_goes 1 = .ok (.iload_n 1, 1) := dX9_goes_k134.2.1
theorem dX9_goes_2 : decode cX9_goes 2 = .ok (.invokevirtual 121, 3) := dX9_goes_k134.2.2.1
theorem dX9_goes_5 : decode cX9_goes 5 = .ok (.ifCond .ne 5, 3) := dX9_goes_k134.2.2.2.1
theorem dX9_goes_8 : decode cX9_goes 8 = .ok (.iconst (-1), 1) := dX9_goes_k134.2.2.2.2.1
theorem dX9_goes_9 : decode cX9_goes 9 = .ok (.ireturn, 1) := dX9_goes_k134.2.2.2.2.2
set_option maxRecDepth 100000 in
theorem dX9_goes_k135 : (decode cX9_goes 10 = .ok (.aload_n 0, 1)) ∧ (decode cX9_goes 11 = .ok (.invokevirtual 157, 3)) ∧ (decode cX9_goes 14 = .ok (.aload_n 0, 1)) ∧ (decode cX9_goes 15 = .ok (.invokevirtual 145, 3)) ∧ (decode cX9_goes 18 = .ok (.aload_n 0, 1)) ∧ (decode cX9_goes 19 = .ok (.iload_n 1, 1)) := by decide +kernel
theorem dX9_goes_10 : decode cX9_goes 10 = .ok (.aload_n 0, 1) := dX9_goes_k135.1
theorem dX9_goes_11 : decode cX9_goes 11 = .ok (.invokevirtual 157, 3) := dX9_goes_k135.2.1
theorem dX9_goes_14 : decode cX9_goes 14 = .ok (.aload_n 0, 1) := dX9_goes_k135.2.2.1
theorem dX9_goes_15 : decode cX9_goes 15 = .ok (.invokevirtual 145, 3) := dX9_goes_k135.2.2.2.1
theorem dX9_goes_18 : decode cX9_goes 18 = .ok (.aload_n 0, 1) := dX9_goes_k135.2.2.2.2.1
theorem dX9_goes_19 : decode cX9_goes 19 = .ok (.iload_n 1, 1) := dX9_goes_k135.2.2.2.2.2
set_option maxRecDepth 100000 in
theorem dX9_goes_k136 : (decode cX9_goes 20 = .ok (.invokevirtual 151, 3)) ∧ (decode cX9_goes 23 = .ok (.ifCond .eq 8, 3)) ∧ (decode cX9_goes 26 = .ok (.bipush (-3), 2)) ∧ (decode cX9_goes 28 = .ok (.goto 11, 3)) ∧ (decode cX9_goes 31 = .ok (.aload_n 0, 1)) ∧ (decode cX9_goes 32 = .ok (.iload_n 1, 1)) := by decide +kernel
theorem dX9_goes_20 : decode cX9_goes 20 = .ok (.invokevirtual 151, 3) := dX9_goes_k136.1
theorem dX9_goes_23 : decode cX9_goes 23 = .ok (.ifCond .eq 8, 3) := dX9_goes_k136.2.1
theorem dX9_goes_26 : decode cX9_goes 26 = .ok (.bipush (-3), 2) := dX9_goes_k136.2.2.1
theorem dX9_goes_28 : decode cX9_goes 28 = .ok (.goto 11, 3) := dX9_goes_k136.2.2.2.1
theorem dX9_goes_31 : decode cX9_goes 31 = .ok (.aload_n 0, 1) := dX9_goes_k136.2.2.2.2.1
theorem dX9_goes_32 : decode cX9_goes 32 = .ok (.iload_n 1, 1) := dX9_goes_k136.2.2.2.2.2
set_option maxRecDepth 100000 in
theorem dX9_goes_k137 : (decode cX9_goes 33 = .ok (.bipush (-6), 2)) ∧ (decode cX9_goes 35 = .ok (.iconst 0, 1)) ∧ (decode cX9_goes 36 = .ok (.invokevirtual 148, 3)) ∧ (decode cX9_goes 39 = .ok (.ireturn, 1)) := by decide +kernel
theorem dX9_goes_33 : decode cX9_goes 33 = .ok (.bipush (-6), 2) := dX9_goes_k137.1
theorem dX9_goes_35 : decode cX9_goes 35 = .ok (.iconst 0, 1) := dX9_goes_k137.2.1
theorem dX9_goes_36 : decode cX9_goes 36 = .ok (.invokevirtual 148, 3) := dX9_goes_k137.2.2.1
theorem dX9_goes_39 : decode cX9_goes 39 = .ok (.ireturn, 1) := dX9_goes_k137.2.2.2
set_option maxRecDepth 100000 in
theorem dX9_goMinutes_k138 : (decode cX9_goMinutes 0 = .ok (.iconst 0, 1)) ∧ (decode cX9_goMinutes 1 = .ok (.istore_n 2, 1)) ∧ (decode cX9_goMinutes 2 = .ok (.iload_n 2, 1)) ∧ (decode cX9_goMinutes 3 = .ok (.iload_n 1, 1)) ∧ (decode cX9_goMinutes 4 = .ok (.if_icmp .ge 14, 3)) ∧ (decode cX9_goMinutes 7 = .ok (.aload_n 0, 1)) := by decide +kernel
theorem dX9_goMinutes_0 : decode cX9_goMinutes 0 = .ok (.iconst 0, 1) := dX9_goMinutes_k138.1
theorem dX9_goMinutes_1 : decode cX9_goMinutes 1 = .ok (.istore_n 2, 1) := dX9_goMinutes_k138.2.1
theorem dX9_goMinutes_2 : decode cX9_goMinutes 2 = .ok (.iload_n 2, 1) := dX9_goMinutes_k138.2.2.1
theorem dX9_goMinutes_3 : decode cX9_goMinutes 3 = .ok (.iload_n 1, 1) := dX9_goMinutes_k138.2.2.2.1
theorem dX9_goMinutes_4 : decode cX9_goMinutes 4 = .ok (.if_icmp .ge 14, 3) := dX9_goMinutes_k138.2.2.2.2.1
theorem dX9_goMinutes_7 : decode cX9_goMinutes 7 = .ok (.aload_n 0, 1) := dX9_goMinutes_k138.2.2.2.2.2
set_option maxRecDepth 100000 in
theorem dX9_goMinutes_k139 : (decode cX9_goMinutes 8 = .ok (.invokevirtual 166, 3)) ∧ (decode cX9_goMinutes 11 = .ok (.pop, 1)) ∧ (decode cX9_goMinutes 12 = .ok (.iinc 2 1, 3)) ∧ (decode cX9_goMinutes 15 = .ok (.goto (-13), 3)) ∧ (decode cX9_goMinutes 18 = .ok (.return_, 1)) := by decide +kernel
theorem dX9_goMinutes_8 : decode cX9_goMinutes 8 = .ok (.invokevirtual 166, 3) := dX9_goMinutes_k139.1
theorem dX9_goMinutes_11 : decode cX9_goMinutes 11 = .ok (.pop, 1) := dX9_goMinutes_k139.2.1
theorem dX9_goMinutes_12 : decode cX9_goMinutes 12 = .ok (.iinc 2 1, 3) := dX9_goMinutes_k139.2.2.1
theorem dX9_goMinutes_15 : decode cX9_goMinutes 15 = .ok (.goto (-13), 3) := dX9_goMinutes_k139.2.2.2.1
theorem dX9_goMinutes_18 : decode cX9_goMinutes 18 = .ok (.return_, 1) := dX9_goMinutes_k139.2.2.2.2
set_option maxRecDepth 100000 in
theorem dX9_after_k140 : (decode cX9_after 0 = .ok (.aload_n 0, 1)) ∧ (decode cX9_after 1 = .ok (.iload_n 1, 1)) ∧ (decode cX9_after 2 = .ok (.invokevirtual 121, 3)) ∧ (decode cX9_after 5 = .ok (.ifCond .ne 5, 3)) ∧ (decode cX9_after 8 = .ok (.iconst (-1), 1)) ∧ (decode cX9_after 9 = .ok (.ireturn, 1)) := by decide +kernel
theorem dX9_after_0 : decode cX9_after 0 = .ok (.aload_n 0, 1) := dX9_after_k140.1
theorem dX9_after_1 : decode cX9_after 1 = .ok (.iload_n 1, 1) := dX9_after_k140.2.1
theorem dX9_after_2 : decode cX9_after 2 = .ok (.invokevirtual 121, 3) := dX9_after_k140.2.2.1
theorem dX9_after_5 : decode cX9_after 5 = .ok (.ifCond .ne 5, 3) := dX9_after_k140.2.2.2.1
theorem dX9_after_8 : decode cX9_after 8 = .ok (.iconst (-1), 1) := dX9_after_k140.2.2.2.2.1
theorem dX9_after_9 : decode cX9_after 9 = .ok (.ireturn, 1) := dX9_after_k140.2.2.2.2.2
set_option maxRecDepth 100000 in
theorem dX9_after_k141 : (decode cX9_after 10 = .ok (.iload_n 2, 1)) ∧ (decode cX9_after 11 = .ok (.iconst 0, 1)) ∧ (decode cX9_after 12 = .ok (.bipush 99, 2)) ∧ (decode cX9_after 14 = .ok (.invokestatic 94, 3)) ∧ (decode cX9_after 17 = .ok (.ifCond .ne 6, 3)) ∧ (decode cX9_after 20 = .ok (.bipush (-2), 2)) := by decide +kernel
theorem dX9_after_10 : decode cX9_after 10 = .ok (.iload_n 2, 1) := dX9_after_k141.1
theorem dX9_after_11 : decode cX9_after 11 = .ok (.iconst 0, 1) := dX9_after_k141.2.1
theorem dX9_after_12 : decode cX9_after 12 = .ok (.bipush 99, 2) := dX9_after_k141.2.2.1
theorem dX9_after_14 : decode cX9_after 14 = .ok (.invokestatic 94, 3) := dX9_after_k141.2.2.2.1
theorem dX9_after_17 : decode cX9_after 17 = .ok (.ifCond .ne 6, 3) := dX9_after_k141.2.2.2.2.1
theorem dX9_after_20 : decode cX9_after 20 = .ok (.bipush (-2), 2) := dX9_after_k141.2.2.2.2.2
set_option maxRecDepth 100000 in
theorem dX9_after_k142 : (decode cX9_after 22 = .ok (.ireturn, 1)) ∧ (decode cX9_after 23 = .ok (.aload_n 0, 1)) ∧ (decode cX9_after 24 = .ok (.invokevirtual 157, 3)) ∧ (decode cX9_after 27 = .ok (.aload_n 0, 1)) ∧ (decode cX9_after 28 = .ok (.iload_n 2, 1)) ∧ (decode cX9_after 29 = .ok (.invokevirtual 198, 3)) := by decide +kernel
theorem dX9_after_22 : decode cX9_after 22 = .ok (.ireturn, 1) := dX9_after_k142.1
theorem dX9_after_23 : decode cX9_after 23 = .ok (.aload_n 0, 1) := dX9_after_k142.2.1
theorem dX9_after_24 : decode cX9_after 24 = .ok (.invokevirtual 157, 3) := dX9_after_k142.2.2.1
theorem dX9_after_27 : decode cX9_after 27 = .ok (.aload_n 0, 1) := dX9_after_k142.2.2.2.1
theorem dX9_after_28 : decode cX9_after 28 = .ok (.iload_n 2, 1) := dX9_after_k142.2.2.2.2.1
theorem dX9_after_29 : decode cX9_after 29 = .ok (.invokevirtual 198, 3) := dX9_after_k142.2.2.2.2.2
set_option maxRecDepth 100000 in
theorem dX9_after_k143 : (decode cX9_after 32 = .ok (.aload_n 0, 1)) ∧ (decode cX9_after 33 = .ok (.getfield 47, 3)) ∧ (decode cX9_after 36 = .ok (.iload_n 1, 1)) ∧ (decode cX9_after 37 = .ok (.iaload, 1)) ∧ (decode cX9_after 38 = .ok (.ireturn, 1)) := by decide +kernel
theorem dX9_after_32 : decode cX9_after 32 = .ok (.aload_n 0, 1) := dX9_after_k143.1
theorem dX9_after_33 : decode cX9_after 33 = .ok (.getfield 47, 3) := dX9_after_k143.2.1
theorem dX9_after_36 : decode cX9_after 36 = .ok (.iload_n 1, 1) := dX9_after_k143.2.2.1
theorem dX9_after_37 : decode cX9_after 37 = .ok (.iaload, 1) := dX9_after_k143.2.2.2.1
theorem dX9_after_38 : decode cX9_after 38 = .ok (.ireturn, 1) := dX9_after_k143.2.2.2.2
set_option maxRecDepth 100000 in
theorem dX9_crowdIn_k144 : (decode cX9_crowdIn 0 = .ok (.iconst 0, 1)) ∧ (decode cX9_crowdIn 1 = .ok (.istore_n 2, 1)) ∧ (decode cX9_crowdIn 2 = .ok (.iconst 0, 1)) ∧ (decode cX9_crowdIn 3 = .ok (.istore_n 3, 1)) ∧ (decode cX9_crowdIn 4 = .ok (.iload_n 3, 1)) ∧ (decode cX9_crowdIn 5 = .ok (.bipush 8, 2)) := by decide +kernel
theorem dX9_crowdIn_0 : decode cX9_crowdIn 0 = .ok (.iconst 0, 1) := dX9_crowdIn_k144.1
theorem dX9_crowdIn_1 : decode cX9_crowdIn 1 = .ok (.istore_n 2, 1) := dX9_crowdIn_k144.2.1
theorem dX9_crowdIn_2 : decode cX9_crowdIn 2 = .ok (.iconst 0, 1) := dX9_crowdIn_k144.2.2.1
theorem dX9_crowdIn_3 : decode cX9_crowdIn 3 = .ok (.istore_n 3, 1) := dX9_crowdIn_k144.2.2.2.1
theorem dX9_crowdIn_4 : decode cX9_crowdIn 4 = .ok (.iload_n 3, 1) := dX9_crowdIn_k144.2.2.2.2.1
theorem dX9_crowdIn_5 : decode cX9_crowdIn 5 = .ok (.bipush 8, 2) := dX9_crowdIn_k144.2.2.2.2.2
set_option maxRecDepth 100000 in
theorem dX9_crowdIn_k145 : (decode cX9_crowdIn 7 = .ok (.if_icmp .ge 40, 3)) ∧ (decode cX9_crowdIn 10 = .ok (.iload_n 2, 1)) ∧ (decode cX9_crowdIn 11 = .ok (.aload_n 0, 1)) ∧ (decode cX9_crowdIn 12 = .ok (.getfield 88, 3)) ∧ (decode cX9_crowdIn 15 = .ok (.iload_n 3, 1)) ∧ (decode cX9_crowdIn 16 = .ok (.invokestatic 98, 3)) := by decide +kernel
theorem dX9_crowdIn_7 : decode cX9_crowdIn 7 = .ok (.if_icmp .ge 40, 3) := dX9_crowdIn_k145.1
theorem dX9_crowdIn_10 : decode cX9_crowdIn 10 = .ok (.iload_n 2, 1) := dX9_crowdIn_k145.2.1
theorem dX9_crowdIn_11 : decode cX9_crowdIn 11 = .ok (.aload_n 0, 1) := dX9_crowdIn_k145.2.2.1
theorem dX9_crowdIn_12 : decode cX9_crowdIn 12 = .ok (.getfield 88, 3) := dX9_crowdIn_k145.2.2.2.1
theorem dX9_crowdIn_15 : decode cX9_crowdIn 15 = .ok (.iload_n 3, 1) := dX9_crowdIn_k145.2.2.2.2.1
theorem dX9_crowdIn_16 : decode cX9_crowdIn 16 = .ok (.invokestatic 98, 3) := dX9_crowdIn_k145.2.2.2.2.2
set_option maxRecDepth 100000 in
theorem dX9_crowdIn_k146 : (decode cX9_crowdIn 19 = .ok (.ifCond .eq 19, 3)) ∧ (decode cX9_crowdIn 22 = .ok (.aload_n 0, 1)) ∧ (decode cX9_crowdIn 23 = .ok (.getfield 47, 3)) ∧ (decode cX9_crowdIn 26 = .ok (.iload_n 3, 1)) ∧ (decode cX9_crowdIn 27 = .ok (.iaload, 1)) ∧ (decode cX9_crowdIn 28 = .ok (.iload_n 1, 1)) := by decide +kernel
theorem dX9_crowdIn_19 : decode cX9_crowdIn 19 = .ok (.ifCond .eq 19, 3) := dX9_crowdIn_k146.1
theorem dX9_crowdIn_22 : decode cX9_crowdIn 22 = .ok (.aload_n 0, 1) := dX9_crowdIn_k146.2.1
theorem dX9_crowdIn_23 : decode cX9_crowdIn 23 = .ok (.getfield 47, 3) := dX9_crowdIn_k146.2.2.1
theorem dX9_crowdIn_26 : decode cX9_crowdIn 26 = .ok (.iload_n 3, 1) := dX9_crowdIn_k146.2.2.2.1
theorem dX9_crowdIn_27 : decode cX9_crowdIn 27 = .ok (.iaload, 1) := dX9_crowdIn_k146.2.2.2.2.1
theorem dX9_crowdIn_28 : decode cX9_crowdIn 28 = .ok (.iload_n 1, 1) := dX9_crowdIn_k146.2.2.2.2.2
set_option maxRecDepth 100000 in
theorem dX9_crowdIn_k147 : (decode cX9_crowdIn 29 = .ok (.if_icmp .ne 9, 3)) ∧ (decode cX9_crowdIn 32 = .ok (.iconst 1, 1)) ∧ (decode cX9_crowdIn 33 = .ok (.iload_n 3, 1)) ∧ (decode cX9_crowdIn 34 = .ok (.ishl, 1)) ∧ (decode cX9_crowdIn 35 = .ok (.goto 4, 3)) ∧ (decode cX9_crowdIn 38 = .ok (.iconst 0, 1)) := by decide +kernel
theorem dX9_crowdIn_29 : decode cX9_crowdIn 29 = .ok (.if_icmp .ne 9, 3) := dX9_crowdIn_k147.1
theorem dX9_crowdIn_32 : decode cX9_crowdIn 32 = .ok (.iconst 1, 1) := dX9_crowdIn_k147.2.1
theorem dX9_crowdIn_33 : decode cX9_crowdIn 33 = .ok (.iload_n 3, 1) := dX9_crowdIn_k147.2.2.1
theorem dX9_crowdIn_34 : decode cX9_crowdIn 34 = .ok (.ishl, 1) := dX9_crowdIn_k147.2.2.2.1
theorem dX9_crowdIn_35 : decode cX9_crowdIn 35 = .ok (.goto 4, 3) := dX9_crowdIn_k147.2.2.2.2.1
theorem dX9_crowdIn_38 : decode cX9_crowdIn 38 = .ok (.iconst 0, 1) := dX9_crowdIn_k147.2.2.2.2.2
set_option maxRecDepth 100000 in
theorem dX9_crowdIn_k148 : (decode cX9_crowdIn 39 = .ok (.ior, 1)) ∧ (decode cX9_crowdIn 40 = .ok (.istore_n 2, 1)) ∧ (decode cX9_crowdIn 41 = .ok (.iinc 3 1, 3)) ∧ (decode cX9_crowdIn 44 = .ok (.goto (-40), 3)) ∧ (decode cX9_crowdIn 47 = .ok (.iload_n 2, 1)) ∧ (decode cX9_crowdIn 48 = .ok (.ireturn, 1)) := by decide +kernel
theorem dX9_crowdIn_39 : decode cX9_crowdIn 39 = .ok (.ior, 1) := dX9_crowdIn_k148.1
theorem dX9_crowdIn_40 : decode cX9_crowdIn 40 = .ok (.istore_n 2, 1) := dX9_crowdIn_k148.2.1
theorem dX9_crowdIn_41 : decode cX9_crowdIn 41 = .ok (.iinc 3 1, 3) := dX9_crowdIn_k148.2.2.1
theorem dX9_crowdIn_44 : decode cX9_crowdIn 44 = .ok (.goto (-40), 3) := dX9_crowdIn_k148.2.2.2.1
theorem dX9_crowdIn_47 : decode cX9_crowdIn 47 = .ok (.iload_n 2, 1) := dX9_crowdIn_k148.2.2.2.2.1
theorem dX9_crowdIn_48 : decode cX9_crowdIn 48 = .ok (.ireturn, 1) := dX9_crowdIn_k148.2.2.2.2.2
set_option maxRecDepth 100000 in
theorem dX9_crowd_k149 : (decode cX9_crowd 0 = .ok (.aload_n 0, 1)) ∧ (decode cX9_crowd 1 = .ok (.iload_n 1, 1)) ∧ (decode cX9_crowd 2 = .ok (.invokevirtual 102, 3)) ∧ (decode cX9_crowd 5 = .ok (.ifCond .ne 5, 3)) ∧ (decode cX9_crowd 8 = .ok (.iconst (-1), 1)) ∧ (decode cX9_crowd 9 = .ok (.ireturn, 1)) := by decide +kernel
theorem dX9_crowd_0 : decode cX9_crowd 0 = .ok (.aload_n 0, 1) := dX9_crowd_k149.1
theorem dX9_crowd_1 : decode cX9_crowd 1 = .ok (.iload_n 1, 1) := dX9_crowd_k149.2.1
theorem dX9_crowd_2 : decode cX9_crowd 2 = .ok (.invokevirtual 102, 3) := dX9_crowd_k149.2.2.1
theorem dX9_crowd_5 : decode cX9_crowd 5 = .ok (.ifCond .ne 5, 3) := dX9_crowd_k149.2.2.2.1
theorem dX9_crowd_8 : decode cX9_crowd 8 = .ok (.iconst (-1), 1) := dX9_crowd_k149.2.2.2.2.1
theorem dX9_crowd_9 : decode cX9_crowd 9 = .ok (.ireturn, 1) := dX9_crowd_k149.2.2.2.2.2
set_option maxRecDepth 100000 in
theorem dX9_crowd_k150 : (decode cX9_crowd 10 = .ok (.iload_n 2, 1)) ∧ (decode cX9_crowd 11 = .ok (.iconst 0, 1)) ∧ (decode cX9_crowd 12 = .ok (.bipush 99, 2)) ∧ (decode cX9_crowd 14 = .ok (.invokestatic 94, 3)) ∧ (decode cX9_crowd 17 = .ok (.ifCond .ne 6, 3)) ∧ (decode cX9_crowd 20 = .ok (.bipush (-2), 2)) := by decide +kernel
theorem dX9_crowd_10 : decode cX9_crowd 10 = .ok (.iload_n 2, 1) := dX9_crowd_k150.1
theorem dX9_crowd_11 : decode cX9_crowd 11 = .ok (.iconst 0, 1) := dX9_crowd_k150.2.1
theorem dX9_crowd_12 : decode cX9_crowd 12 = .ok (.bipush 99, 2) := dX9_crowd_k150.2.2.1
theorem dX9_crowd_14 : decode cX9_crowd 14 = .ok (.invokestatic 94, 3) := dX9_crowd_k150.2.2.2.1
theorem dX9_crowd_17 : decode cX9_crowd 17 = .ok (.ifCond .ne 6, 3) := dX9_crowd_k150.2.2.2.2.1
theorem dX9_crowd_20 : decode cX9_crowd 20 = .ok (.bipush (-2), 2) := dX9_crowd_k150.2.2.2.2.2
set_option maxRecDepth 100000 in
theorem dX9_crowd_k151 : (decode cX9_crowd 22 = .ok (.ireturn, 1)) ∧ (decode cX9_crowd 23 = .ok (.aload_n 0, 1)) ∧ (decode cX9_crowd 24 = .ok (.invokevirtual 157, 3)) ∧ (decode cX9_crowd 27 = .ok (.aload_n 0, 1)) ∧ (decode cX9_crowd 28 = .ok (.iload_n 2, 1)) ∧ (decode cX9_crowd 29 = .ok (.invokevirtual 198, 3)) := by decide +kernel
theorem dX9_crowd_22 : decode cX9_crowd 22 = .ok (.ireturn, 1) := dX9_crowd_k151.1
theorem dX9_crowd_23 : decode cX9_crowd 23 = .ok (.aload_n 0, 1) := dX9_crowd_k151.2.1
theorem dX9_crowd_24 : decode cX9_crowd 24 = .ok (.invokevirtual 157, 3) := dX9_crowd_k151.2.2.1
theorem dX9_crowd_27 : decode cX9_crowd 27 = .ok (.aload_n 0, 1) := dX9_crowd_k151.2.2.2.1
theorem dX9_crowd_28 : decode cX9_crowd 28 = .ok (.iload_n 2, 1) := dX9_crowd_k151.2.2.2.2.1
theorem dX9_crowd_29 : decode cX9_crowd 29 = .ok (.invokevirtual 198, 3) := dX9_crowd_k151.2.2.2.2.2
set_option maxRecDepth 100000 in
theorem dX9_crowd_k152 : (decode cX9_crowd 32 = .ok (.aload_n 0, 1)) ∧ (decode cX9_crowd 33 = .ok (.iload_n 1, 1)) ∧ (decode cX9_crowd 34 = .ok (.invokevirtual 201, 3)) ∧ (decode cX9_crowd 37 = .ok (.ireturn, 1)) := by decide +kernel
theorem dX9_crowd_32 : decode cX9_crowd 32 = .ok (.aload_n 0, 1) := dX9_crowd_k152.1
theorem dX9_crowd_33 : decode cX9_crowd 33 = .ok (.iload_n 1, 1) := dX9_crowd_k152.2.1
theorem dX9_crowd_34 : decode cX9_crowd 34 = .ok (.invokevirtual 201, 3) := dX9_crowd_k152.2.2.1
theorem dX9_crowd_37 : decode cX9_crowd 37 = .ok (.ireturn, 1) := dX9_crowd_k152.2.2.2
set_option maxRecDepth 100000 in
theorem dX9_stillAt_k153 : (decode cX9_stillAt 0 = .ok (.aload_n 0, 1)) ∧ (decode cX9_stillAt 1 = .ok (.invokevirtual 157, 3)) ∧ (decode cX9_stillAt 4 = .ok (.iconst 1, 1)) ∧ (decode cX9_stillAt 5 = .ok (.istore_n 1, 1)) ∧ (decode cX9_stillAt 6 = .ok (.iload_n 1, 1)) ∧ (decode cX9_stillAt 7 = .ok (.bipush 100, 2)) := by decide +kernel
theorem dX9_stillAt_0 : decode cX9_stillAt 0 = .ok (.aload_n 0, 1) := dX9_stillAt_k153.1
theorem dX9_stillAt_1 : decode cX9_stillAt 1 = .ok (.invokevirtual 157, 3) := dX9_stillAt_k153.2.1
theorem dX9_stillAt_4 : decode cX9_stillAt 4 = .ok (.iconst 1, 1) := dX9_stillAt_k153.2.2.1
theorem dX9_stillAt_5 : decode cX9_stillAt 5 = .ok (.istore_n 1, 1) := dX9_stillAt_k153.2.2.2.1
theorem dX9_stillAt_6 : decode cX9_stillAt 6 = .ok (.iload_n 1, 1) := dX9_stillAt_k153.2.2.2.2.1
theorem dX9_stillAt_7 : decode cX9_stillAt 7 = .ok (.bipush 100, 2) := dX9_stillAt_k153.2.2.2.2.2
set_option maxRecDepth 100000 in
theorem dX9_stillAt_k154 : (decode cX9_stillAt 9 = .ok (.if_icmp .ge 69, 3)) ∧ (decode cX9_stillAt 12 = .ok (.iconst 0, 1)) ∧ (decode cX9_stillAt 13 = .ok (.istore_n 2, 1)) ∧ (decode cX9_stillAt 14 = .ok (.iconst 0, 1)) ∧ (decode cX9_stillAt 15 = .ok (.istore_n 3, 1)) ∧ (decode cX9_stillAt 16 = .ok (.iload_n 3, 1)) := by decide +kernel
theorem dX9_stillAt_9 : decode cX9_stillAt 9 = .ok (.if_icmp .ge 69, 3) := dX9_stillAt_k154.1
theorem dX9_stillAt_12 : decode cX9_stillAt 12 = .ok (.iconst 0, 1) := dX9_stillAt_k154.2.1
theorem dX9_stillAt_13 : decode cX9_stillAt 13 = .ok (.istore_n 2, 1) := dX9_stillAt_k154.2.2.1
theorem dX9_stillAt_14 : decode cX9_stillAt 14 = .ok (.iconst 0, 1) := dX9_stillAt_k154.2.2.2.1
theorem dX9_stillAt_15 : decode cX9_stillAt 15 = .ok (.istore_n 3, 1) := dX9_stillAt_k154.2.2.2.2.1
theorem dX9_stillAt_16 : decode cX9_stillAt 16 = .ok (.iload_n 3, 1) := dX9_stillAt_k154.2.2.2.2.2
set_option maxRecDepth 100000 in
theorem dX9_stillAt_k155 : (decode cX9_stillAt 17 = .ok (.bipush 8, 2)) ∧ (decode cX9_stillAt 19 = .ok (.if_icmp .ge 40, 3)) ∧ (decode cX9_stillAt 22 = .ok (.iload_n 2, 1)) ∧ (decode cX9_stillAt 23 = .ok (.ifCond .ne 24, 3)) ∧ (decode cX9_stillAt 26 = .ok (.aload_n 0, 1)) ∧ (decode cX9_stillAt 27 = .ok (.getfield 88, 3)) := by decide +kernel
theorem dX9_stillAt_17 : decode cX9_stillAt 17 = .ok (.bipush 8, 2) := dX9_stillAt_k155.1
theorem dX9_stillAt_19 : decode cX9_stillAt 19 = .ok (.if_icmp .ge 40, 3) := dX9_stillAt_k155.2.1
theorem dX9_stillAt_22 : decode cX9_stillAt 22 = .ok (.iload_n 2, 1) := dX9_stillAt_k155.2.2.1
theorem dX9_stillAt_23 : decode cX9_stillAt 23 = .ok (.ifCond .ne 24, 3) := dX9_stillAt_k155.2.2.2.1
theorem dX9_stillAt_26 : decode cX9_stillAt 26 = .ok (.aload_n 0, 1) := dX9_stillAt_k155.2.2.2.2.1
theorem dX9_stillAt_27 : decode cX9_stillAt 27 = .ok (.getfield 88, 3) := dX9_stillAt_k155.2.2.2.2.2
set_option maxRecDepth 100000 in
theorem dX9_stillAt_k156 : (decode cX9_stillAt 30 = .ok (.iload_n 3, 1)) ∧ (decode cX9_stillAt 31 = .ok (.invokestatic 98, 3)) ∧ (decode cX9_stillAt 34 = .ok (.ifCond .eq 17, 3)) ∧ (decode cX9_stillAt 37 = .ok (.aload_n 0, 1)) ∧ (decode cX9_stillAt 38 = .ok (.getfield 50, 3)) ∧ (decode cX9_stillAt 41 = .ok (.iload_n 3, 1)) := by decide +kernel
theorem dX9_stillAt_30 : decode cX9_stillAt 30 = .ok (.iload_n 3, 1) := dX9_stillAt_k156.1
theorem dX9_stillAt_31 : decode cX9_stillAt 31 = .ok (.invokestatic 98, 3) := dX9_stillAt_k156.2.1
theorem dX9_stillAt_34 : decode cX9_stillAt 34 = .ok (.ifCond .eq 17, 3) := dX9_stillAt_k156.2.2.1
theorem dX9_stillAt_37 : decode cX9_stillAt 37 = .ok (.aload_n 0, 1) := dX9_stillAt_k156.2.2.2.1
theorem dX9_stillAt_38 : decode cX9_stillAt 38 = .ok (.getfield 50, 3) := dX9_stillAt_k156.2.2.2.2.1
theorem dX9_stillAt_41 : decode cX9_stillAt 41 = .ok (.iload_n 3, 1) := dX9_stillAt_k156.2.2.2.2.2
set_option maxRecDepth 100000 in
theorem dX9_stillAt_k157 : (decode cX9_stillAt 42 = .ok (.iaload, 1)) ∧ (decode cX9_stillAt 43 = .ok (.iconst 1, 1)) ∧ (decode cX9_stillAt 44 = .ok (.if_icmp .ne 7, 3)) ∧ (decode cX9_stillAt 47 = .ok (.iconst 1, 1)) ∧ (decode cX9_stillAt 48 = .ok (.goto 4, 3)) ∧ (decode cX9_stillAt 51 = .ok (.iconst 0, 1)) := by decide +kernel
theorem dX9_stillAt_42 : decode cX9_stillAt 42 = .ok (.iaload, 1) := dX9_stillAt_k157.1
theorem dX9_stillAt_43 : decode cX9_stillAt 43 = .ok (.iconst 1, 1) := dX9_stillAt_k157.2.1
theorem dX9_stillAt_44 : decode cX9_stillAt 44 = .ok (.if_icmp .ne 7, 3) := dX9_stillAt_k157.2.2.1
theorem dX9_stillAt_47 : decode cX9_stillAt 47 = .ok (.iconst 1, 1) := dX9_stillAt_k157.2.2.2.1
theorem dX9_stillAt_48 : decode cX9_stillAt 48 = .ok (.goto 4, 3) := dX9_stillAt_k157.2.2.2.2.1
theorem dX9_stillAt_51 : decode cX9_stillAt 51 = .ok (.iconst 0, 1) := dX9_stillAt_k157.2.2.2.2.2
set_option maxRecDepth 100000 in
theorem dX9_stillAt_k158 : (decode cX9_stillAt 52 = .ok (.istore_n 2, 1)) ∧ (decode cX9_stillAt 53 = .ok (.iinc 3 1, 3)) ∧ (decode cX9_stillAt 56 = .ok (.goto (-40), 3)) ∧ (decode cX9_stillAt 59 = .ok (.aload_n 0, 1)) ∧ (decode cX9_stillAt 60 = .ok (.invokevirtual 166, 3)) ∧ (decode cX9_stillAt 63 = .ok (.ifCond .ne 9, 3)) := by decide +kernel
theorem dX9_stillAt_52 : decode cX9_stillAt 52 = .ok (.istore_n 2, 1) := dX9_stillAt_k158.1
theorem dX9_stillAt_53 : decode cX9_stillAt 53 = .ok (.iinc 3 1, 3) := dX9_stillAt_k158.2.1
theorem dX9_stillAt_56 : decode cX9_stillAt 56 = .ok (.goto (-40), 3) := dX9_stillAt_k158.2.2.1
theorem dX9_stillAt_59 : decode cX9_stillAt 59 = .ok (.aload_n 0, 1) := dX9_stillAt_k158.2.2.2.1
theorem dX9_stillAt_60 : decode cX9_stillAt 60 = .ok (.invokevirtual 166, 3) := dX9_stillAt_k158.2.2.2.2.1
theorem dX9_stillAt_63 : decode cX9_stillAt 63 = .ok (.ifCond .ne 9, 3) := dX9_stillAt_k158.2.2.2.2.2
set_option maxRecDepth 100000 in
theorem dX9_stillAt_k159 : (decode cX9_stillAt 66 = .ok (.iload_n 2, 1)) ∧ (decode cX9_stillAt 67 = .ok (.ifCond .ne 5, 3)) ∧ (decode cX9_stillAt 70 = .ok (.iload_n 1, 1)) ∧ (decode cX9_stillAt 71 = .ok (.ireturn, 1)) ∧ (decode cX9_stillAt 72 = .ok (.iinc 1 1, 3)) ∧ (decode cX9_stillAt 75 = .ok (.goto (-69), 3)) := by decide +kernel
theorem dX9_stillAt_66 : decode cX9_stillAt 66 = .ok (.iload_n 2, 1) := dX9_stillAt_k159.1
theorem dX9_stillAt_67 : decode cX9_stillAt 67 = .ok (.ifCond .ne 5, 3) := dX9_stillAt_k159.2.1
theorem dX9_stillAt_70 : decode cX9_stillAt 70 = .ok (.iload_n 1, 1) := dX9_stillAt_k159.2.2.1
theorem dX9_stillAt_71 : decode cX9_stillAt 71 = .ok (.ireturn, 1) := dX9_stillAt_k159.2.2.2.1
theorem dX9_stillAt_72 : decode cX9_stillAt 72 = .ok (.iinc 1 1, 3) := dX9_stillAt_k159.2.2.2.2.1
theorem dX9_stillAt_75 : decode cX9_stillAt 75 = .ok (.goto (-69), 3) := dX9_stillAt_k159.2.2.2.2.2
set_option maxRecDepth 100000 in
theorem dX9_stillAt_k160 : (decode cX9_stillAt 78 = .ok (.bipush (-6), 2)) ∧ (decode cX9_stillAt 80 = .ok (.ireturn, 1)) := by decide +kernel
theorem dX9_stillAt_78 : decode cX9_stillAt 78 = .ok (.bipush (-6), 2) := dX9_stillAt_k160.1
theorem dX9_stillAt_80 : decode cX9_stillAt 80 = .ok (.ireturn, 1) := dX9_stillAt_k160.2
set_option maxRecDepth 100000 in
theorem dX9_still_k161 : (decode cX9_still 0 = .ok (.aload_n 0, 1)) ∧ (decode cX9_still 1 = .ok (.invokevirtual 204, 3)) ∧ (decode cX9_still 4 = .ok (.ireturn, 1)) := by decide +kernel
theorem dX9_still_0 : decode cX9_still 0 = .ok (.aload_n 0, 1) := dX9_still_k161.1
theorem dX9_still_1 : decode cX9_still 1 = .ok (.invokevirtual 204, 3) := dX9_still_k161.2.1
theorem dX9_still_4 : decode cX9_still 4 = .ok (.ireturn, 1) := dX9_still_k161.2.2
set_option maxRecDepth 100000 in
theorem dX9_note_k162 : (decode cX9_note 0 = .ok (.lconst 0, 1)) ∧ (decode cX9_note 1 = .ok (.lstore_n 2, 1)) ∧ (decode cX9_note 2 = .ok (.lconst 0, 1)) ∧ (decode cX9_note 3 = .ok (.lstore 4, 2)) ∧ (decode cX9_note 5 = .ok (.iconst 0, 1)) ∧ (decode cX9_note 6 = .ok (.istore 6, 2)) := by decide +kernel
theorem dX9_note_0 : decode cX9_note 0 = .ok (.lconst 0, 1) := dX9_note_k162.1
theorem dX9_note_1 : decode cX9_note 1 = .ok (.lstore_n 2, 1) := dX9_note_k162.2.1
theorem dX9_note_2 : decode cX9_note 2 = .ok (.lconst 0, 1) := dX9_note_k162.2.2.1
theorem dX9_note_3 : decode cX9_note 3 = .ok (.lstore 4, 2) := dX9_note_k162.2.2.2.1
theorem dX9_note_5 : decode cX9_note 5 = .ok (.iconst 0, 1) := dX9_note_k162.2.2.2.2.1
theorem dX9_note_6 : decode cX9_note 6 = .ok (.istore 6, 2) := dX9_note_k162.2.2.2.2.2
set_option maxRecDepth 100000 in
theorem dX9_note_k163 : (decode cX9_note 8 = .ok (.iload 6, 2)) ∧ (decode cX9_note 10 = .ok (.bipush 8, 2)) ∧ (decode cX9_note 12 = .ok (.if_icmp .ge 144, 3)) ∧ (decode cX9_note 15 = .ok (.aload_n 0, 1)) ∧ (decode cX9_note 16 = .ok (.getfield 88, 3)) ∧ (decode cX9_note 19 = .ok (.iload 6, 2)) := by decide +kernel
theorem dX9_note_8 : decode cX9_note 8 = .ok (.iload 6, 2) := dX9_note_k163.1
theorem dX9_note_10 : decode cX9_note 10 = .ok (.bipush 8, 2) := dX9_note_k163.2.1
theorem dX9_note_12 : decode cX9_note 12 = .ok (.if_icmp .ge 144, 3) := dX9_note_k163.2.2.1
theorem dX9_note_15 : decode cX9_note 15 = .ok (.aload_n 0, 1) := dX9_note_k163.2.2.2.1
theorem dX9_note_16 : decode cX9_note 16 = .ok (.getfield 88, 3) := dX9_note_k163.2.2.2.2.1
theorem dX9_note_19 : decode cX9_note 19 = .ok (.iload 6, 2) := dX9_note_k163.2.2.2.2.2
set_option maxRecDepth 100000 in
theorem dX9_note_k164 : (decode cX9_note 21 = .ok (.invokestatic 98, 3)) ∧ (decode cX9_note 24 = .ok (.istore 7, 2)) ∧ (decode cX9_note 26 = .ok (.lload_n 2, 1)) ∧ (decode cX9_note 27 = .ok (.ldc2_w 207, 3)) ∧ (decode cX9_note 30 = .ok (.lmul, 1)) ∧ (decode cX9_note 31 = .ok (.iload 7, 2)) := by decide +kernel
theorem dX9_note_21 : decode cX9_note 21 = .ok (.invokestatic 98, 3) := dX9_note_k164.1
theorem dX9_note_24 : decode cX9_note 24 = .ok (.istore 7, 2) := dX9_note_k164.2.1
theorem dX9_note_26 : decode cX9_note 26 = .ok (.lload_n 2, 1) := dX9_note_k164.2.2.1
theorem dX9_note_27 : decode cX9_note 27 = .ok (.ldc2_w 207, 3) := dX9_note_k164.2.2.2.1
theorem dX9_note_30 : decode cX9_note 30 = .ok (.lmul, 1) := dX9_note_k164.2.2.2.2.1
theorem dX9_note_31 : decode cX9_note 31 = .ok (.iload 7, 2) := dX9_note_k164.2.2.2.2.2
set_option maxRecDepth 100000 in
theorem dX9_note_k165 : (decode cX9_note 33 = .ok (.ifCond .eq 23, 3)) ∧ (decode cX9_note 36 = .ok (.aload_n 0, 1)) ∧ (decode cX9_note 37 = .ok (.getfield 47, 3)) ∧ (decode cX9_note 40 = .ok (.iload 6, 2)) ∧ (decode cX9_note 42 = .ok (.iaload, 1)) ∧ (decode cX9_note 43 = .ok (.iconst 4, 1)) := by decide +kernel
theorem dX9_note_33 : decode cX9_note 33 = .ok (.ifCond .eq 23, 3) := dX9_note_k165.1
theorem dX9_note_36 : decode cX9_note 36 = .ok (.aload_n 0, 1) := dX9_note_k165.2.1
theorem dX9_note_37 : decode cX9_note 37 = .ok (.getfield 47, 3) := dX9_note_k165.2.2.1
theorem dX9_note_40 : decode cX9_note 40 = .ok (.iload 6, 2) := dX9_note_k165.2.2.2.1
theorem dX9_note_42 : decode cX9_note 42 = .ok (.iaload, 1) := dX9_note_k165.2.2.2.2.1
theorem dX9_note_43 : decode cX9_note 43 = .ok (.iconst 4, 1) := dX9_note_k165.2.2.2.2.2
set_option maxRecDepth 100000 in
theorem dX9_note_k166 : (decode cX9_note 44 = .ok (.imul, 1)) ∧ (decode cX9_note 45 = .ok (.aload_n 0, 1)) ∧ (decode cX9_note 46 = .ok (.getfield 50, 3)) ∧ (decode cX9_note 49 = .ok (.iload 6, 2)) ∧ (decode cX9_note 51 = .ok (.iaload, 1)) ∧ (decode cX9_note 52 = .ok (.iadd, 1)) := by decide +kernel
theorem dX9_note_44 : decode cX9_note 44 = .ok (.imul, 1) := dX9_note_k166.1
theorem dX9_note_45 : decode cX9_note 45 = .ok (.aload_n 0, 1) := dX9_note_k166.2.1
theorem dX9_note_46 : decode cX9_note 46 = .ok (.getfield 50, 3) := dX9_note_k166.2.2.1
theorem dX9_note_49 : decode cX9_note 49 = .ok (.iload 6, 2) := dX9_note_k166.2.2.2.1
theorem dX9_note_51 : decode cX9_note 51 = .ok (.iaload, 1) := dX9_note_k166.2.2.2.2.1
theorem dX9_note_52 : decode cX9_note 52 = .ok (.iadd, 1) := dX9_note_k166.2.2.2.2.2
set_option maxRecDepth 100000 in
theorem dX9_note_k167 : (decode cX9_note 53 = .ok (.goto 4, 3)) ∧ (decode cX9_note 56 = .ok (.iconst 0, 1)) ∧ (decode cX9_note 57 = .ok (.i2l, 1)) ∧ (decode cX9_note 58 = .ok (.ladd, 1)) ∧ (decode cX9_note 59 = .ok (.lstore_n 2, 1)) ∧ (decode cX9_note 60 = .ok (.iload 7, 2)) := by decide +kernel
theorem dX9_note_53 : decode cX9_note 53 = .ok (.goto 4, 3) := dX9_note_k167.1
theorem dX9_note_56 : decode cX9_note 56 = .ok (.iconst 0, 1) := dX9_note_k167.2.1
theorem dX9_note_57 : decode cX9_note 57 = .ok (.i2l, 1) := dX9_note_k167.2.2.1
theorem dX9_note_58 : decode cX9_note 58 = .ok (.ladd, 1) := dX9_note_k167.2.2.2.1
theorem dX9_note_59 : decode cX9_note 59 = .ok (.lstore_n 2, 1) := dX9_note_k167.2.2.2.2.1
theorem dX9_note_60 : decode cX9_note 60 = .ok (.iload 7, 2) := dX9_note_k167.2.2.2.2.2
set_option maxRecDepth 100000 in
theorem dX9_note_k168 : (decode cX9_note 62 = .ok (.ifCond .eq 18, 3)) ∧ (decode cX9_note 65 = .ok (.aload_n 0, 1)) ∧ (decode cX9_note 66 = .ok (.getfield 50, 3)) ∧ (decode cX9_note 69 = .ok (.iload 6, 2)) ∧ (decode cX9_note 71 = .ok (.iaload, 1)) ∧ (decode cX9_note 72 = .ok (.iconst 1, 1)) := by decide +kernel
theorem dX9_note_62 : decode cX9_note 62 = .ok (.ifCond .eq 18, 3) := dX9_note_k168.1
theorem dX9_note_65 : decode cX9_note 65 = .ok (.aload_n 0, 1) := dX9_note_k168.2.1
theorem dX9_note_66 : decode cX9_note 66 = .ok (.getfield 50, 3) := dX9_note_k168.2.2.1
theorem dX9_note_69 : decode cX9_note 69 = .ok (.iload 6, 2) := dX9_note_k168.2.2.2.1
theorem dX9_note_71 : decode cX9_note 71 = .ok (.iaload, 1) := dX9_note_k168.2.2.2.2.1
theorem dX9_note_72 : decode cX9_note 72 = .ok (.iconst 1, 1) := dX9_note_k168.2.2.2.2.2
set_option maxRecDepth 100000 in
theorem dX9_note_k169 : (decode cX9_note 73 = .ok (.if_icmp .ne 7, 3)) ∧ (decode cX9_note 76 = .ok (.iconst 1, 1)) ∧ (decode cX9_note 77 = .ok (.goto 4, 3)) ∧ (decode cX9_note 80 = .ok (.iconst 0, 1)) ∧ (decode cX9_note 81 = .ok (.istore 8, 2)) ∧ (decode cX9_note 83 = .ok (.lload 4, 2)) := by decide +kernel
theorem dX9_note_73 : decode cX9_note 73 = .ok (.if_icmp .ne 7, 3) := dX9_note_k169.1
theorem dX9_note_76 : decode cX9_note 76 = .ok (.iconst 1, 1) := dX9_note_k169.2.1
theorem dX9_note_77 : decode cX9_note 77 = .ok (.goto 4, 3) := dX9_note_k169.2.2.1
theorem dX9_note_80 : decode cX9_note 80 = .ok (.iconst 0, 1) := dX9_note_k169.2.2.2.1
theorem dX9_note_81 : decode cX9_note 81 = .ok (.istore 8, 2) := dX9_note_k169.2.2.2.2.1
theorem dX9_note_83 : decode cX9_note 83 = .ok (.lload 4, 2) := dX9_note_k169.2.2.2.2.2
set_option maxRecDepth 100000 in
theorem dX9_note_k170 : (decode cX9_note 85 = .ok (.ldc2_w 209, 3)) ∧ (decode cX9_note 88 = .ok (.lmul, 1)) ∧ (decode cX9_note 89 = .ok (.iload 8, 2)) ∧ (decode cX9_note 91 = .ok (.ifCond .eq 28, 3)) ∧ (decode cX9_note 94 = .ok (.iconst 1, 1)) ∧ (decode cX9_note 95 = .ok (.aload_n 0, 1)) := by decide +kernel
theorem dX9_note_85 : decode cX9_note 85 = .ok (.ldc2_w 209, 3) := dX9_note_k170.1
theorem dX9_note_88 : decode cX9_note 88 = .ok (.lmul, 1) := dX9_note_k170.2.1
theorem dX9_note_89 : decode cX9_note 89 = .ok (.iload 8, 2) := dX9_note_k170.2.2.1
theorem dX9_note_91 : decode cX9_note 91 = .ok (.ifCond .eq 28, 3) := dX9_note_k170.2.2.2.1
theorem dX9_note_94 : decode cX9_note 94 = .ok (.iconst 1, 1) := dX9_note_k170.2.2.2.2.1
theorem dX9_note_95 : decode cX9_note 95 = .ok (.aload_n 0, 1) := dX9_note_k170.2.2.2.2.2
set_option maxRecDepth 100000 in
theorem dX9_note_k171 : (decode cX9_note 96 = .ok (.getfield 53, 3)) ∧ (decode cX9_note 99 = .ok (.iload 6, 2)) ∧ (decode cX9_note 101 = .ok (.iaload, 1)) ∧ (decode cX9_note 102 = .ok (.bipush 9, 2)) ∧ (decode cX9_note 104 = .ok (.imul, 1)) ∧ (decode cX9_note 105 = .ok (.iadd, 1)) := by decide +kernel
theorem dX9_note_96 : decode cX9_note 96 = .ok (.getfield 53, 3) := dX9_note_k171.1
theorem dX9_note_99 : decode cX9_note 99 = .ok (.iload 6, 2) := dX9_note_k171.2.1
theorem dX9_note_101 : decode cX9_note 101 = .ok (.iaload, 1) := dX9_note_k171.2.2.1
theorem dX9_note_102 : decode cX9_note 102 = .ok (.bipush 9, 2) := dX9_note_k171.2.2.2.1
theorem dX9_note_104 : decode cX9_note 104 = .ok (.imul, 1) := dX9_note_k171.2.2.2.2.1
theorem dX9_note_105 : decode cX9_note 105 = .ok (.iadd, 1) := dX9_note_k171.2.2.2.2.2
set_option maxRecDepth 100000 in
theorem dX9_note_k172 : (decode cX9_note 106 = .ok (.aload_n 0, 1)) ∧ (decode cX9_note 107 = .ok (.getfield 56, 3)) ∧ (decode cX9_note 110 = .ok (.iload 6, 2)) ∧ (decode cX9_note 112 = .ok (.iaload, 1)) ∧ (decode cX9_note 113 = .ok (.iadd, 1)) ∧ (decode cX9_note 114 = .ok (.iconst 1, 1)) := by decide +kernel
theorem dX9_note_106 : decode cX9_note 106 = .ok (.aload_n 0, 1) := dX9_note_k172.1
theorem dX9_note_107 : decode cX9_note 107 = .ok (.getfield 56, 3) := dX9_note_k172.2.1
theorem dX9_note_110 : decode cX9_note 110 = .ok (.iload 6, 2) := dX9_note_k172.2.2.1
theorem dX9_note_112 : decode cX9_note 112 = .ok (.iaload, 1) := dX9_note_k172.2.2.2.1
theorem dX9_note_113 : decode cX9_note 113 = .ok (.iadd, 1) := dX9_note_k172.2.2.2.2.1
theorem dX9_note_114 : decode cX9_note 114 = .ok (.iconst 1, 1) := dX9_note_k172.2.2.2.2.2
set_option maxRecDepth 100000 in
theorem dX9_note_k173 : (decode cX9_note 115 = .ok (.isub, 1)) ∧ (decode cX9_note 116 = .ok (.goto 30, 3)) ∧ (decode cX9_note 119 = .ok (.iload 7, 2)) ∧ (decode cX9_note 121 = .ok (.ifCond .eq 24, 3)) ∧ (decode cX9_note 124 = .ok (.aload_n 0, 1)) ∧ (decode cX9_note 125 = .ok (.getfield 50, 3)) := by decide +kernel
theorem dX9_note_115 : decode cX9_note 115 = .ok (.isub, 1) := dX9_note_k173.1
theorem dX9_note_116 : decode cX9_note 116 = .ok (.goto 30, 3) := dX9_note_k173.2.1
theorem dX9_note_119 : decode cX9_note 119 = .ok (.iload 7, 2) := dX9_note_k173.2.2.1
theorem dX9_note_121 : decode cX9_note 121 = .ok (.ifCond .eq 24, 3) := dX9_note_k173.2.2.2.1
theorem dX9_note_124 : decode cX9_note 124 = .ok (.aload_n 0, 1) := dX9_note_k173.2.2.2.2.1
theorem dX9_note_125 : decode cX9_note 125 = .ok (.getfield 50, 3) := dX9_note_k173.2.2.2.2.2
set_option maxRecDepth 100000 in
theorem dX9_note_k174 : (decode cX9_note 128 = .ok (.iload 6, 2)) ∧ (decode cX9_note 130 = .ok (.iaload, 1)) ∧ (decode cX9_note 131 = .ok (.iconst 3, 1)) ∧ (decode cX9_note 132 = .ok (.if_icmp .ne 13, 3)) ∧ (decode cX9_note 135 = .ok (.aload_n 0, 1)) ∧ (decode cX9_note 136 = .ok (.getfield 53, 3)) := by decide +kernel
theorem dX9_note_128 : decode cX9_note 128 = .ok (.iload 6, 2) := dX9_note_k174.1
theorem dX9_note_130 : decode cX9_note 130 = .ok (.iaload, 1) := dX9_note_k174.2.1
theorem dX9_note_131 : decode cX9_note 131 = .ok (.iconst 3, 1) := dX9_note_k174.2.2.1
theorem dX9_note_132 : decode cX9_note 132 = .ok (.if_icmp .ne 13, 3) := dX9_note_k174.2.2.2.1
theorem dX9_note_135 : decode cX9_note 135 = .ok (.aload_n 0, 1) := dX9_note_k174.2.2.2.2.1
theorem dX9_note_136 : decode cX9_note 136 = .ok (.getfield 53, 3) := dX9_note_k174.2.2.2.2.2
set_option maxRecDepth 100000 in
theorem dX9_note_k175 : (decode cX9_note 139 = .ok (.iload 6, 2)) ∧ (decode cX9_note 141 = .ok (.iaload, 1)) ∧ (decode cX9_note 142 = .ok (.goto 4, 3)) ∧ (decode cX9_note 145 = .ok (.iconst 0, 1)) ∧ (decode cX9_note 146 = .ok (.i2l, 1)) ∧ (decode cX9_note 147 = .ok (.ladd, 1)) := by decide +kernel
theorem dX9_note_139 : decode cX9_note 139 = .ok (.iload 6, 2) := dX9_note_k175.1
theorem dX9_note_141 : decode cX9_note 141 = .ok (.iaload, 1) := dX9_note_k175.2.1
theorem dX9_note_142 : decode cX9_note 142 = .ok (.goto 4, 3) := dX9_note_k175.2.2.1
theorem dX9_note_145 : decode cX9_note 145 = .ok (.iconst 0, 1) := dX9_note_k175.2.2.2.1
theorem dX9_note_146 : decode cX9_note 146 = .ok (.i2l, 1) := dX9_note_k175.2.2.2.2.1
theorem dX9_note_147 : decode cX9_note 147 = .ok (.ladd, 1) := dX9_note_k175.2.2.2.2.2
set_option maxRecDepth 100000 in
theorem dX9_note_k176 : (decode cX9_note 148 = .ok (.lstore 4, 2)) ∧ (decode cX9_note 150 = .ok (.iinc 6 1, 3)) ∧ (decode cX9_note 153 = .ok (.goto (-145), 3)) ∧ (decode cX9_note 156 = .ok (.aload_n 0, 1)) ∧ (decode cX9_note 157 = .ok (.getfield 65, 3)) ∧ (decode cX9_note 160 = .ok (.iconst 2, 1)) := by decide +kernel
theorem dX9_note_148 : decode cX9_note 148 = .ok (.lstore 4, 2) := dX9_note_k176.1
theorem dX9_note_150 : decode cX9_note 150 = .ok (.iinc 6 1, 3) := dX9_note_k176.2.1
theorem dX9_note_153 : decode cX9_note 153 = .ok (.goto (-145), 3) := dX9_note_k176.2.2.1
theorem dX9_note_156 : decode cX9_note 156 = .ok (.aload_n 0, 1) := dX9_note_k176.2.2.2.1
theorem dX9_note_157 : decode cX9_note 157 = .ok (.getfield 65, 3) := dX9_note_k176.2.2.2.2.1
theorem dX9_note_160 : decode cX9_note 160 = .ok (.iconst 2, 1) := dX9_note_k176.2.2.2.2.2
set_option maxRecDepth 100000 in
theorem dX9_note_k177 : (decode cX9_note 161 = .ok (.iload_n 1, 1)) ∧ (decode cX9_note 162 = .ok (.imul, 1)) ∧ (decode cX9_note 163 = .ok (.lload_n 2, 1)) ∧ (decode cX9_note 164 = .ok (.lastore, 1)) ∧ (decode cX9_note 165 = .ok (.aload_n 0, 1)) ∧ (decode cX9_note 166 = .ok (.getfield 65, 3)) := by decide +kernel
theorem dX9_note_161 : decode cX9_note 161 = .ok (.iload_n 1, 1) := dX9_note_k177.1
theorem dX9_note_162 : decode cX9_note 162 = .ok (.imul, 1) := dX9_note_k177.2.1
theorem dX9_note_163 : decode cX9_note 163 = .ok (.lload_n 2, 1) := dX9_note_k177.2.2.1
theorem dX9_note_164 : decode cX9_note 164 = .ok (.lastore, 1) := dX9_note_k177.2.2.2.1
theorem dX9_note_165 : decode cX9_note 165 = .ok (.aload_n 0, 1) := dX9_note_k177.2.2.2.2.1
theorem dX9_note_166 : decode cX9_note 166 = .ok (.getfield 65, 3) := dX9_note_k177.2.2.2.2.2
set_option maxRecDepth 100000 in
theorem dX9_note_k178 : (decode cX9_note 169 = .ok (.iconst 2, 1)) ∧ (decode cX9_note 170 = .ok (.iload_n 1, 1)) ∧ (decode cX9_note 171 = .ok (.imul, 1)) ∧ (decode cX9_note 172 = .ok (.iconst 1, 1)) ∧ (decode cX9_note 173 = .ok (.iadd, 1)) ∧ (decode cX9_note 174 = .ok (.lload 4, 2)) := by decide +kernel
theorem dX9_note_169 : decode cX9_note 169 = .ok (.iconst 2, 1) := dX9_note_k178.1
theorem dX9_note_170 : decode cX9_note 170 = .ok (.iload_n 1, 1) := dX9_note_k178.2.1
theorem dX9_note_171 : decode cX9_note 171 = .ok (.imul, 1) := dX9_note_k178.2.2.1
theorem dX9_note_172 : decode cX9_note 172 = .ok (.iconst 1, 1) := dX9_note_k178.2.2.2.1
theorem dX9_note_173 : decode cX9_note 173 = .ok (.iadd, 1) := dX9_note_k178.2.2.2.2.1
theorem dX9_note_174 : decode cX9_note 174 = .ok (.lload 4, 2) := dX9_note_k178.2.2.2.2.2
set_option maxRecDepth 100000 in
theorem dX9_note_k179 : (decode cX9_note 176 = .ok (.lastore, 1)) ∧ (decode cX9_note 177 = .ok (.return_, 1)) := by decide +kernel
theorem dX9_note_176 : decode cX9_note 176 = .ok (.lastore, 1) := dX9_note_k179.1
theorem dX9_note_177 : decode cX9_note 177 = .ok (.return_, 1) := dX9_note_k179.2
set_option maxRecDepth 100000 in
theorem dX9_round_k180 : (decode cX9_round 0 = .ok (.aload_n 0, 1)) ∧ (decode cX9_round 1 = .ok (.invokevirtual 204, 3)) ∧ (decode cX9_round 4 = .ok (.ifCond .lt 6, 3)) ∧ (decode cX9_round 7 = .ok (.bipush (-6), 2)) ∧ (decode cX9_round 9 = .ok (.ireturn, 1)) ∧ (decode cX9_round 10 = .ok (.aload_n 0, 1)) := by decide +kernel
theorem dX9_round_0 : decode cX9_round 0 = .ok (.aload_n 0, 1) := dX9_round_k180.1
theorem dX9_round_1 : decode cX9_round 1 = .ok (.invokevirtual 204, 3) := dX9_round_k180.2.1
theorem dX9_round_4 : decode cX9_round 4 = .ok (.ifCond .lt 6, 3) := dX9_round_k180.2.2.1
theorem dX9_round_7 : decode cX9_round 7 = .ok (.bipush (-6), 2) := dX9_round_k180.2.2.2.1
theorem dX9_round_9 : decode cX9_round 9 = .ok (.ireturn, 1) := dX9_round_k180.2.2.2.2.1
theorem dX9_round_10 : decode cX9_round 10 = .ok (.aload_n 0, 1) := dX9_round_k180.2.2.2.2.2
set_option maxRecDepth 100000 in
theorem dX9_round_k181 : (decode cX9_round 11 = .ok (.invokevirtual 157, 3)) ∧ (decode cX9_round 14 = .ok (.aload_n 0, 1)) ∧ (decode cX9_round 15 = .ok (.iconst 0, 1)) ∧ (decode cX9_round 16 = .ok (.invokevirtual 211, 3)) ∧ (decode cX9_round 19 = .ok (.iconst 1, 1)) ∧ (decode cX9_round 20 = .ok (.istore_n 1, 1)) := by decide +kernel
theorem dX9_round_11 : decode cX9_round 11 = .ok (.invokevirtual 157, 3) := dX9_round_k181.1
theorem dX9_round_14 : decode cX9_round 14 = .ok (.aload_n 0, 1) := dX9_round_k181.2.1
theorem dX9_round_15 : decode cX9_round 15 = .ok (.iconst 0, 1) := dX9_round_k181.2.2.1
theorem dX9_round_16 : decode cX9_round 16 = .ok (.invokevirtual 211, 3) := dX9_round_k181.2.2.2.1
theorem dX9_round_19 : decode cX9_round 19 = .ok (.iconst 1, 1) := dX9_round_k181.2.2.2.2.1
theorem dX9_round_20 : decode cX9_round 20 = .ok (.istore_n 1, 1) := dX9_round_k181.2.2.2.2.2
set_option maxRecDepth 100000 in
theorem dX9_round_k182 : (decode cX9_round 21 = .ok (.iload_n 1, 1)) ∧ (decode cX9_round 22 = .ok (.bipush 100, 2)) ∧ (decode cX9_round 24 = .ok (.if_icmp .ge 80, 3)) ∧ (decode cX9_round 27 = .ok (.aload_n 0, 1)) ∧ (decode cX9_round 28 = .ok (.invokevirtual 166, 3)) ∧ (decode cX9_round 31 = .ok (.pop, 1)) := by decide +kernel
theorem dX9_round_21 : decode cX9_round 21 = .ok (.iload_n 1, 1) := dX9_round_k182.1
theorem dX9_round_22 : decode cX9_round 22 = .ok (.bipush 100, 2) := dX9_round_k182.2.1
theorem dX9_round_24 : decode cX9_round 24 = .ok (.if_icmp .ge 80, 3) := dX9_round_k182.2.2.1
theorem dX9_round_27 : decode cX9_round 27 = .ok (.aload_n 0, 1) := dX9_round_k182.2.2.2.1
theorem dX9_round_28 : decode cX9_round 28 = .ok (.invokevirtual 166, 3) := dX9_round_k182.2.2.2.2.1
theorem dX9_round_31 : decode cX9_round 31 = .ok (.pop, 1) := dX9_round_k182.2.2.2.2.2
set_option maxRecDepth 100000 in
theorem dX9_round_k183 : (decode cX9_round 32 = .ok (.aload_n 0, 1)) ∧ (decode cX9_round 33 = .ok (.iload_n 1, 1)) ∧ (decode cX9_round 34 = .ok (.invokevirtual 211, 3)) ∧ (decode cX9_round 37 = .ok (.iconst 0, 1)) ∧ (decode cX9_round 38 = .ok (.istore_n 2, 1)) ∧ (decode cX9_round 39 = .ok (.iload_n 2, 1)) := by decide +kernel
theorem dX9_round_32 : decode cX9_round 32 = .ok (.aload_n 0, 1) := dX9_round_k183.1
theorem dX9_round_33 : decode cX9_round 33 = .ok (.iload_n 1, 1) := dX9_round_k183.2.1
theorem dX9_round_34 : decode cX9_round 34 = .ok (.invokevirtual 211, 3) := dX9_round_k183.2.2.1
theorem dX9_round_37 : decode cX9_round 37 = .ok (.iconst 0, 1) := dX9_round_k183.2.2.2.1
theorem dX9_round_38 : decode cX9_round 38 = .ok (.istore_n 2, 1) := dX9_round_k183.2.2.2.2.1
theorem dX9_round_39 : decode cX9_round 39 = .ok (.iload_n 2, 1) := dX9_round_k183.2.2.2.2.2
set_option maxRecDepth 100000 in
theorem dX9_round_k184 : (decode cX9_round 40 = .ok (.iload_n 1, 1)) ∧ (decode cX9_round 41 = .ok (.if_icmp .ge 57, 3)) ∧ (decode cX9_round 44 = .ok (.aload_n 0, 1)) ∧ (decode cX9_round 45 = .ok (.getfield 65, 3)) ∧ (decode cX9_round 48 = .ok (.iconst 2, 1)) ∧ (decode cX9_round 49 = .ok (.iload_n 2, 1)) := by decide +kernel
theorem dX9_round_40 : decode cX9_round 40 = .ok (.iload_n 1, 1) := dX9_round_k184.1
theorem dX9_round_41 : decode cX9_round 41 = .ok (.if_icmp .ge 57, 3) := dX9_round_k184.2.1
theorem dX9_round_44 : decode cX9_round 44 = .ok (.aload_n 0, 1) := dX9_round_k184.2.2.1
theorem dX9_round_45 : decode cX9_round 45 = .ok (.getfield 65, 3) := dX9_round_k184.2.2.2.1
theorem dX9_round_48 : decode cX9_round 48 = .ok (.iconst 2, 1) := dX9_round_k184.2.2.2.2.1
theorem dX9_round_49 : decode cX9_round 49 = .ok (.iload_n 2, 1) := dX9_round_k184.2.2.2.2.2
set_option maxRecDepth 100000 in
theorem dX9_round_k185 : (decode cX9_round 50 = .ok (.imul, 1)) ∧ (decode cX9_round 51 = .ok (.laload, 1)) ∧ (decode cX9_round 52 = .ok (.aload_n 0, 1)) ∧ (decode cX9_round 53 = .ok (.getfield 65, 3)) ∧ (decode cX9_round 56 = .ok (.iconst 2, 1)) ∧ (decode cX9_round 57 = .ok (.iload_n 1, 1)) := by decide +kernel
theorem dX9_round_50 : decode cX9_round 50 = .ok (.imul, 1) := dX9_round_k185.1
theorem dX9_round_51 : decode cX9_round 51 = .ok (.laload, 1) := dX9_round_k185.2.1
theorem dX9_round_52 : decode cX9_round 52 = .ok (.aload_n 0, 1) := dX9_round_k185.2.2.1
theorem dX9_round_53 : decode cX9_round 53 = .ok (.getfield 65, 3) := dX9_round_k185.2.2.2.1
theorem dX9_round_56 : decode cX9_round 56 = .ok (.iconst 2, 1) := dX9_round_k185.2.2.2.2.1
theorem dX9_round_57 : decode cX9_round 57 = .ok (.iload_n 1, 1) := dX9_round_k185.2.2.2.2.2
set_option maxRecDepth 100000 in
theorem dX9_round_k186 : (decode cX9_round 58 = .ok (.imul, 1)) ∧ (decode cX9_round 59 = .ok (.laload, 1)) ∧ (decode cX9_round 60 = .ok (.lcmp, 1)) ∧ (decode cX9_round 61 = .ok (.ifCond .ne 31, 3)) ∧ (decode cX9_round 64 = .ok (.aload_n 0, 1)) ∧ (decode cX9_round 65 = .ok (.getfield 65, 3)) := by decide +kernel
theorem dX9_round_58 : decode cX9_round 58 = .ok (.imul, 1) := dX9_round_k186.1
theorem dX9_round_59 : decode cX9_round 59 = .ok (.laload, 1) := dX9_round_k186.2.1
theorem dX9_round_60 : decode cX9_round 60 = .ok (.lcmp, 1) := dX9_round_k186.2.2.1
theorem dX9_round_61 : decode cX9_round 61 = .ok (.ifCond .ne 31, 3) := dX9_round_k186.2.2.2.1
theorem dX9_round_64 : decode cX9_round 64 = .ok (.aload_n 0, 1) := dX9_round_k186.2.2.2.2.1
theorem dX9_round_65 : decode cX9_round 65 = .ok (.getfield 65, 3) := dX9_round_k186.2.2.2.2.2
set_option maxRecDepth 100000 in
theorem dX9_round_k187 : (decode cX9_round 68 = .ok (.iconst 2, 1)) ∧ (decode cX9_round 69 = .ok (.iload_n 2, 1)) ∧ (decode cX9_round 70 = .ok (.imul, 1)) ∧ (decode cX9_round 71 = .ok (.iconst 1, 1)) ∧ (decode cX9_round 72 = .ok (.iadd, 1)) ∧ (decode cX9_round 73 = .ok (.laload, 1)) := by decide +kernel
theorem dX9_round_68 : decode cX9_round 68 = .ok (.iconst 2, 1) := dX9_round_k187.1
theorem dX9_round_69 : decode cX9_round 69 = .ok (.iload_n 2, 1) := dX9_round_k187.2.1
theorem dX9_round_70 : decode cX9_round 70 = .ok (.imul, 1) := dX9_round_k187.2.2.1
theorem dX9_round_71 : decode cX9_round 71 = .ok (.iconst 1, 1) := dX9_round_k187.2.2.2.1
theorem dX9_round_72 : decode cX9_round 72 = .ok (.iadd, 1) := dX9_round_k187.2.2.2.2.1
theorem dX9_round_73 : decode cX9_round 73 = .ok (.laload, 1) := dX9_round_k187.2.2.2.2.2
set_option maxRecDepth 100000 in
theorem dX9_round_k188 : (decode cX9_round 74 = .ok (.aload_n 0, 1)) ∧ (decode cX9_round 75 = .ok (.getfield 65, 3)) ∧ (decode cX9_round 78 = .ok (.iconst 2, 1)) ∧ (decode cX9_round 79 = .ok (.iload_n 1, 1)) ∧ (decode cX9_round 80 = .ok (.imul, 1)) ∧ (decode cX9_round 81 = .ok (.iconst 1, 1)) := by decide +kernel
theorem dX9_round_74 : decode cX9_round 74 = .ok (.aload_n 0, 1) := dX9_round_k188.1
theorem dX9_round_75 : decode cX9_round 75 = .ok (.getfield 65, 3) := dX9_round_k188.2.1
theorem dX9_round_78 : decode cX9_round 78 = .ok (.iconst 2, 1) := dX9_round_k188.2.2.1
theorem dX9_round_79 : decode cX9_round 79 = .ok (.iload_n 1, 1) := dX9_round_k188.2.2.2.1
theorem dX9_round_80 : decode cX9_round 80 = .ok (.imul, 1) := dX9_round_k188.2.2.2.2.1
theorem dX9_round_81 : decode cX9_round 81 = .ok (.iconst 1, 1) := dX9_round_k188.2.2.2.2.2
set_option maxRecDepth 100000 in
theorem dX9_round_k189 : (decode cX9_round 82 = .ok (.iadd, 1)) ∧ (decode cX9_round 83 = .ok (.laload, 1)) ∧ (decode cX9_round 84 = .ok (.lcmp, 1)) ∧ (decode cX9_round 85 = .ok (.ifCond .ne 7, 3)) ∧ (decode cX9_round 88 = .ok (.iload_n 1, 1)) ∧ (decode cX9_round 89 = .ok (.iload_n 2, 1)) := by decide +kernel
theorem dX9_round_82 : decode cX9_round 82 = .ok (.iadd, 1) := dX9_round_k189.1
theorem dX9_round_83 : decode cX9_round 83 = .ok (.laload, 1) := dX9_round_k189.2.1
theorem dX9_round_84 : decode cX9_round 84 = .ok (.lcmp, 1) := dX9_round_k189.2.2.1
theorem dX9_round_85 : decode cX9_round 85 = .ok (.ifCond .ne 7, 3) := dX9_round_k189.2.2.2.1
theorem dX9_round_88 : decode cX9_round 88 = .ok (.iload_n 1, 1) := dX9_round_k189.2.2.2.2.1
theorem dX9_round_89 : decode cX9_round 89 = .ok (.iload_n 2, 1) := dX9_round_k189.2.2.2.2.2
set_option maxRecDepth 100000 in
theorem dX9_round_k190 : (decode cX9_round 90 = .ok (.isub, 1)) ∧ (decode cX9_round 91 = .ok (.ireturn, 1)) ∧ (decode cX9_round 92 = .ok (.iinc 2 1, 3)) ∧ (decode cX9_round 95 = .ok (.goto (-56), 3)) ∧ (decode cX9_round 98 = .ok (.iinc 1 1, 3)) ∧ (decode cX9_round 101 = .ok (.goto (-80), 3)) := by decide +kernel
theorem dX9_round_90 : decode cX9_round 90 = .ok (.isub, 1) := dX9_round_k190.1
theorem dX9_round_91 : decode cX9_round 91 = .ok (.ireturn, 1) := dX9_round_k190.2.1
theorem dX9_round_92 : decode cX9_round 92 = .ok (.iinc 2 1, 3) := dX9_round_k190.2.2.1
theorem dX9_round_95 : decode cX9_round 95 = .ok (.goto (-56), 3) := dX9_round_k190.2.2.2.1
theorem dX9_round_98 : decode cX9_round 98 = .ok (.iinc 1 1, 3) := dX9_round_k190.2.2.2.2.1
theorem dX9_round_101 : decode cX9_round 101 = .ok (.goto (-80), 3) := dX9_round_k190.2.2.2.2.2
theorem dX9_round_104 : decode cX9_round 104 = .ok (.bipush (-6), 2) := by decide +kernel
