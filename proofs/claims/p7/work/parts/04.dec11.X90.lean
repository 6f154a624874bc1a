set_option maxRecDepth 100000 in
theorem dX9_init_k0 : (decode cX9_init 0 = .ok (.aload_n 0, 1)) ∧ (decode cX9_init 1 = .ok (.invokespecial 1, 3)) ∧ (decode cX9_init 4 = .ok (.aload_n 0, 1)) ∧ (decode cX9_init 5 = .ok (.iconst 3, 1)) ∧ (decode cX9_init 6 = .ok (.putfield 7, 3)) ∧ (decode cX9_init 9 = .ok (.aload_n 0, 1)) := by decide +kernel
theorem dX9_init_0 : decode cX9_init 0 = .ok (.aload_n 0, 1) := dX9_init_k0.1
theorem dX9_init_1 : decode cX9_init 1 = .ok (.invokespecial 1, 3) := dX9_init_k0.2.1
theorem dX9_init_4 : decode cX9_init 4 = .ok (.aload_n 0, 1) := dX9_init_k0.2.2.1
theorem dX9_init_5 : decode cX9_init 5 = .ok (.iconst 3, 1) := dX9_init_k0.2.2.2.1
theorem dX9_init_6 : decode cX9_init 6 = .ok (.putfield 7, 3) := dX9_init_k0.2.2.2.2.1
theorem dX9_init_9 : decode cX9_init 9 = .ok (.aload_n 0, 1) := dX9_init_k0.2.2.2.2.2
set_option maxRecDepth 100000 in
theorem dX9_init_k1 : (decode cX9_init 10 = .ok (.bipush 24, 2)) ∧ (decode cX9_init 12 = .ok (.newarray .int, 2)) ∧ (decode cX9_init 14 = .ok (.putfield 13, 3)) ∧ (decode cX9_init 17 = .ok (.aload_n 0, 1)) ∧ (decode cX9_init 18 = .ok (.bipush 6, 2)) ∧ (decode cX9_init 20 = .ok (.newarray .int, 2)) := by decide +kernel
theorem dX9_init_10 : decode cX9_init 10 = .ok (.bipush 24, 2) := dX9_init_k1.1
theorem dX9_init_12 : decode cX9_init 12 = .ok (.newarray .int, 2) := dX9_init_k1.2.1
theorem dX9_init_14 : decode cX9_init 14 = .ok (.putfield 13, 3) := dX9_init_k1.2.2.1
theorem dX9_init_17 : decode cX9_init 17 = .ok (.aload_n 0, 1) := dX9_init_k1.2.2.2.1
theorem dX9_init_18 : decode cX9_init 18 = .ok (.bipush 6, 2) := dX9_init_k1.2.2.2.2.1
theorem dX9_init_20 : decode cX9_init 20 = .ok (.newarray .int, 2) := dX9_init_k1.2.2.2.2.2
set_option maxRecDepth 100000 in
theorem dX9_init_k2 : (decode cX9_init 22 = .ok (.putfield 17, 3)) ∧ (decode cX9_init 25 = .ok (.aload_n 0, 1)) ∧ (decode cX9_init 26 = .ok (.bipush 6, 2)) ∧ (decode cX9_init 28 = .ok (.newarray .int, 2)) ∧ (decode cX9_init 30 = .ok (.putfield 20, 3)) ∧ (decode cX9_init 33 = .ok (.aload_n 0, 1)) := by decide +kernel
theorem dX9_init_22 : decode cX9_init 22 = .ok (.putfield 17, 3) := dX9_init_k2.1
theorem dX9_init_25 : decode cX9_init 25 = .ok (.aload_n 0, 1) := dX9_init_k2.2.1
theorem dX9_init_26 : decode cX9_init 26 = .ok (.bipush 6, 2) := dX9_init_k2.2.2.1
theorem dX9_init_28 : decode cX9_init 28 = .ok (.newarray .int, 2) := dX9_init_k2.2.2.2.1
theorem dX9_init_30 : decode cX9_init 30 = .ok (.putfield 20, 3) := dX9_init_k2.2.2.2.2.1
theorem dX9_init_33 : decode cX9_init 33 = .ok (.aload_n 0, 1) := dX9_init_k2.2.2.2.2.2
set_option maxRecDepth 100000 in
theorem dX9_init_k3 : (decode cX9_init 34 = .ok (.bipush 36, 2)) ∧ (decode cX9_init 36 = .ok (.newarray .int, 2)) ∧ (decode cX9_init 38 = .ok (.putfield 23, 3)) ∧ (decode cX9_init 41 = .ok (.aload_n 0, 1)) ∧ (decode cX9_init 42 = .ok (.bipush 40, 2)) ∧ (decode cX9_init 44 = .ok (.newarray .int, 2)) := by decide +kernel
theorem dX9_init_34 : decode cX9_init 34 = .ok (.bipush 36, 2) := dX9_init_k3.1
theorem dX9_init_36 : decode cX9_init 36 = .ok (.newarray .int, 2) := dX9_init_k3.2.1
theorem dX9_init_38 : decode cX9_init 38 = .ok (.putfield 23, 3) := dX9_init_k3.2.2.1
theorem dX9_init_41 : decode cX9_init 41 = .ok (.aload_n 0, 1) := dX9_init_k3.2.2.2.1
theorem dX9_init_42 : decode cX9_init 42 = .ok (.bipush 40, 2) := dX9_init_k3.2.2.2.2.1
theorem dX9_init_44 : decode cX9_init 44 = .ok (.newarray .int, 2) := dX9_init_k3.2.2.2.2.2
set_option maxRecDepth 100000 in
theorem dX9_init_k4 : (decode cX9_init 46 = .ok (.putfield 26, 3)) ∧ (decode cX9_init 49 = .ok (.aload_n 0, 1)) ∧ (decode cX9_init 50 = .ok (.bipush 8, 2)) ∧ (decode cX9_init 52 = .ok (.newarray .int, 2)) ∧ (decode cX9_init 54 = .ok (.putfield 29, 3)) ∧ (decode cX9_init 57 = .ok (.aload_n 0, 1)) := by decide +kernel
theorem dX9_init_46 : decode cX9_init 46 = .ok (.putfield 26, 3) := dX9_init_k4.1
theorem dX9_init_49 : decode cX9_init 49 = .ok (.aload_n 0, 1) := dX9_init_k4.2.1
theorem dX9_init_50 : decode cX9_init 50 = .ok (.bipush 8, 2) := dX9_init_k4.2.2.1
theorem dX9_init_52 : decode cX9_init 52 = .ok (.newarray .int, 2) := dX9_init_k4.2.2.2.1
theorem dX9_init_54 : decode cX9_init 54 = .ok (.putfield 29, 3) := dX9_init_k4.2.2.2.2.1
theorem dX9_init_57 : decode cX9_init 57 = .ok (.aload_n 0, 1) := dX9_init_k4.2.2.2.2.2
set_option maxRecDepth 100000 in
theorem dX9_init_k5 : (decode cX9_init 58 = .ok (.bipush 8, 2)) ∧ (decode cX9_init 60 = .ok (.newarray .int, 2)) ∧ (decode cX9_init 62 = .ok (.putfield 32, 3)) ∧ (decode cX9_init 65 = .ok (.aload_n 0, 1)) ∧ (decode cX9_init 66 = .ok (.bipush 8, 2)) ∧ (decode cX9_init 68 = .ok (.newarray .int, 2)) := by decide +kernel
theorem dX9_init_58 : decode cX9_init 58 = .ok (.bipush 8, 2) := dX9_init_k5.1
theorem dX9_init_60 : decode cX9_init 60 = .ok (.newarray .int, 2) := dX9_init_k5.2.1
theorem dX9_init_62 : decode cX9_init 62 = .ok (.putfield 32, 3) := dX9_init_k5.2.2.1
theorem dX9_init_65 : decode cX9_init 65 = .ok (.aload_n 0, 1) := dX9_init_k5.2.2.2.1
theorem dX9_init_66 : decode cX9_init 66 = .ok (.bipush 8, 2) := dX9_init_k5.2.2.2.2.1
theorem dX9_init_68 : decode cX9_init 68 = .ok (.newarray .int, 2) := dX9_init_k5.2.2.2.2.2
set_option maxRecDepth 100000 in
theorem dX9_init_k6 : (decode cX9_init 70 = .ok (.putfield 35, 3)) ∧ (decode cX9_init 73 = .ok (.aload_n 0, 1)) ∧ (decode cX9_init 74 = .ok (.bipush 8, 2)) ∧ (decode cX9_init 76 = .ok (.newarray .int, 2)) ∧ (decode cX9_init 78 = .ok (.putfield 38, 3)) ∧ (decode cX9_init 81 = .ok (.aload_n 0, 1)) := by decide +kernel
theorem dX9_init_70 : decode cX9_init 70 = .ok (.putfield 35, 3) := dX9_init_k6.1
theorem dX9_init_73 : decode cX9_init 73 = .ok (.aload_n 0, 1) := dX9_init_k6.2.1
theorem dX9_init_74 : decode cX9_init 74 = .ok (.bipush 8, 2) := dX9_init_k6.2.2.1
theorem dX9_init_76 : decode cX9_init 76 = .ok (.newarray .int, 2) := dX9_init_k6.2.2.2.1
theorem dX9_init_78 : decode cX9_init 78 = .ok (.putfield 38, 3) := dX9_init_k6.2.2.2.2.1
theorem dX9_init_81 : decode cX9_init 81 = .ok (.aload_n 0, 1) := dX9_init_k6.2.2.2.2.2
set_option maxRecDepth 100000 in
theorem dX9_init_k7 : (decode cX9_init 82 = .ok (.bipush 12, 2)) ∧ (decode cX9_init 84 = .ok (.newarray .int, 2)) ∧ (decode cX9_init 86 = .ok (.putfield 41, 3)) ∧ (decode cX9_init 89 = .ok (.aload_n 0, 1)) ∧ (decode cX9_init 90 = .ok (.bipush 60, 2)) ∧ (decode cX9_init 92 = .ok (.newarray .int, 2)) := by decide +kernel
theorem dX9_init_82 : decode cX9_init 82 = .ok (.bipush 12, 2) := dX9_init_k7.1
theorem dX9_init_84 : decode cX9_init 84 = .ok (.newarray .int, 2) := dX9_init_k7.2.1
theorem dX9_init_86 : decode cX9_init 86 = .ok (.putfield 41, 3) := dX9_init_k7.2.2.1
theorem dX9_init_89 : decode cX9_init 89 = .ok (.aload_n 0, 1) := dX9_init_k7.2.2.2.1
theorem dX9_init_90 : decode cX9_init 90 = .ok (.bipush 60, 2) := dX9_init_k7.2.2.2.2.1
theorem dX9_init_92 : decode cX9_init 92 = .ok (.newarray .int, 2) := dX9_init_k7.2.2.2.2.2
set_option maxRecDepth 100000 in
theorem dX9_init_k8 : (decode cX9_init 94 = .ok (.putfield 44, 3)) ∧ (decode cX9_init 97 = .ok (.aload_n 0, 1)) ∧ (decode cX9_init 98 = .ok (.bipush 8, 2)) ∧ (decode cX9_init 100 = .ok (.newarray .int, 2)) ∧ (decode cX9_init 102 = .ok (.putfield 47, 3)) ∧ (decode cX9_init 105 = .ok (.aload_n 0, 1)) := by decide +kernel
theorem dX9_init_94 : decode cX9_init 94 = .ok (.putfield 44, 3) := dX9_init_k8.1
theorem dX9_init_97 : decode cX9_init 97 = .ok (.aload_n 0, 1) := dX9_init_k8.2.1
theorem dX9_init_98 : decode cX9_init 98 = .ok (.bipush 8, 2) := dX9_init_k8.2.2.1
theorem dX9_init_100 : decode cX9_init 100 = .ok (.newarray .int, 2) := dX9_init_k8.2.2.2.1
theorem dX9_init_102 : decode cX9_init 102 = .ok (.putfield 47, 3) := dX9_init_k8.2.2.2.2.1
theorem dX9_init_105 : decode cX9_init 105 = .ok (.aload_n 0, 1) := dX9_init_k8.2.2.2.2.2
set_option maxRecDepth 100000 in
theorem dX9_init_k9 : (decode cX9_init 106 = .ok (.bipush 8, 2)) ∧ (decode cX9_init 108 = .ok (.newarray .int, 2)) ∧ (decode cX9_init 110 = .ok (.putfield 50, 3)) ∧ (decode cX9_init 113 = .ok (.aload_n 0, 1)) ∧ (decode cX9_init 114 = .ok (.bipush 8, 2)) ∧ (decode cX9_init 116 = .ok (.newarray .int, 2)) := by decide +kernel
theorem dX9_init_106 : decode cX9_init 106 = .ok (.bipush 8, 2) := dX9_init_k9.1
theorem dX9_init_108 : decode cX9_init 108 = .ok (.newarray .int, 2) := dX9_init_k9.2.1
theorem dX9_init_110 : decode cX9_init 110 = .ok (.putfield 50, 3) := dX9_init_k9.2.2.1
theorem dX9_init_113 : decode cX9_init 113 = .ok (.aload_n 0, 1) := dX9_init_k9.2.2.2.1
theorem dX9_init_114 : decode cX9_init 114 = .ok (.bipush 8, 2) := dX9_init_k9.2.2.2.2.1
theorem dX9_init_116 : decode cX9_init 116 = .ok (.newarray .int, 2) := dX9_init_k9.2.2.2.2.2
set_option maxRecDepth 100000 in
theorem dX9_init_k10 : (decode cX9_init 118 = .ok (.putfield 53, 3)) ∧ (decode cX9_init 121 = .ok (.aload_n 0, 1)) ∧ (decode cX9_init 122 = .ok (.bipush 8, 2)) ∧ (decode cX9_init 124 = .ok (.newarray .int, 2)) ∧ (decode cX9_init 126 = .ok (.putfield 56, 3)) ∧ (decode cX9_init 129 = .ok (.aload_n 0, 1)) := by decide +kernel
theorem dX9_init_118 : decode cX9_init 118 = .ok (.putfield 53, 3) := dX9_init_k10.1
theorem dX9_init_121 : decode cX9_init 121 = .ok (.aload_n 0, 1) := dX9_init_k10.2.1
theorem dX9_init_122 : decode cX9_init 122 = .ok (.bipush 8, 2) := dX9_init_k10.2.2.1
theorem dX9_init_124 : decode cX9_init 124 = .ok (.newarray .int, 2) := dX9_init_k10.2.2.2.1
theorem dX9_init_126 : decode cX9_init 126 = .ok (.putfield 56, 3) := dX9_init_k10.2.2.2.2.1
theorem dX9_init_129 : decode cX9_init 129 = .ok (.aload_n 0, 1) := dX9_init_k10.2.2.2.2.2
set_option maxRecDepth 100000 in
theorem dX9_init_k11 : (decode cX9_init 130 = .ok (.bipush 24, 2)) ∧ (decode cX9_init 132 = .ok (.newarray .int, 2)) ∧ (decode cX9_init 134 = .ok (.putfield 59, 3)) ∧ (decode cX9_init 137 = .ok (.aload_n 0, 1)) ∧ (decode cX9_init 138 = .ok (.bipush 36, 2)) ∧ (decode cX9_init 140 = .ok (.newarray .int, 2)) := by decide +kernel
theorem dX9_init_130 : decode cX9_init 130 = .ok (.bipush 24, 2) := dX9_init_k11.1
theorem dX9_init_132 : decode cX9_init 132 = .ok (.newarray .int, 2) := dX9_init_k11.2.1
theorem dX9_init_134 : decode cX9_init 134 = .ok (.putfield 59, 3) := dX9_init_k11.2.2.1
theorem dX9_init_137 : decode cX9_init 137 = .ok (.aload_n 0, 1) := dX9_init_k11.2.2.2.1
theorem dX9_init_138 : decode cX9_init 138 = .ok (.bipush 36, 2) := dX9_init_k11.2.2.2.2.1
theorem dX9_init_140 : decode cX9_init 140 = .ok (.newarray .int, 2) := dX9_init_k11.2.2.2.2.2
set_option maxRecDepth 100000 in
theorem dX9_init_k12 : (decode cX9_init 142 = .ok (.putfield 62, 3)) ∧ (decode cX9_init 145 = .ok (.aload_n 0, 1)) ∧ (decode cX9_init 146 = .ok (.sipush 200, 3)) ∧ (decode cX9_init 149 = .ok (.newarray .long, 2)) ∧ (decode cX9_init 151 = .ok (.putfield 65, 3)) ∧ (decode cX9_init 154 = .ok (.aload_n 0, 1)) := by decide +kernel
theorem dX9_init_142 : decode cX9_init 142 = .ok (.putfield 62, 3) := dX9_init_k12.1
theorem dX9_init_145 : decode cX9_init 145 = .ok (.aload_n 0, 1) := dX9_init_k12.2.1
theorem dX9_init_146 : decode cX9_init 146 = .ok (.sipush 200, 3) := dX9_init_k12.2.2.1
theorem dX9_init_149 : decode cX9_init 149 = .ok (.newarray .long, 2) := dX9_init_k12.2.2.2.1
theorem dX9_init_151 : decode cX9_init 151 = .ok (.putfield 65, 3) := dX9_init_k12.2.2.2.2.1
theorem dX9_init_154 : decode cX9_init 154 = .ok (.aload_n 0, 1) := dX9_init_k12.2.2.2.2.2
set_option maxRecDepth 100000 in
theorem dX9_init_k13 : (decode cX9_init 155 = .ok (.bipush 36, 2)) ∧ (decode cX9_init 157 = .ok (.newarray .int, 2)) ∧ (decode cX9_init 159 = .ok (.putfield 69, 3)) ∧ (decode cX9_init 162 = .ok (.aload_n 0, 1)) ∧ (decode cX9_init 163 = .ok (.bipush 6, 2)) ∧ (decode cX9_init 165 = .ok (.newarray .long, 2)) := by decide +kernel
theorem dX9_init_155 : decode cX9_init 155 = .ok (.bipush 36, 2) := dX9_init_k13.1
theorem dX9_init_157 : decode cX9_init 157 = .ok (.newarray .int, 2) := dX9_init_k13.2.1
theorem dX9_init_159 : decode cX9_init 159 = .ok (.putfield 69, 3) := dX9_init_k13.2.2.1
theorem dX9_init_162 : decode cX9_init 162 = .ok (.aload_n 0, 1) := dX9_init_k13.2.2.2.1
theorem dX9_init_163 : decode cX9_init 163 = .ok (.bipush 6, 2) := dX9_init_k13.2.2.2.2.1
theorem dX9_init_165 : decode cX9_init 165 = .ok (.newarray .long, 2) := dX9_init_k13.2.2.2.2.2
set_option maxRecDepth 100000 in
theorem dX9_init_k14 : (decode cX9_init 167 = .ok (.putfield 72, 3)) ∧ (decode cX9_init 170 = .ok (.aload_n 0, 1)) ∧ (decode cX9_init 171 = .ok (.bipush 6, 2)) ∧ (decode cX9_init 173 = .ok (.newarray .long, 2)) ∧ (decode cX9_init 175 = .ok (.putfield 75, 3)) ∧ (decode cX9_init 178 = .ok (.aload_n 0, 1)) := by decide +kernel
theorem dX9_init_167 : decode cX9_init 167 = .ok (.putfield 72, 3) := dX9_init_k14.1
theorem dX9_init_170 : decode cX9_init 170 = .ok (.aload_n 0, 1) := dX9_init_k14.2.1
theorem dX9_init_171 : decode cX9_init 171 = .ok (.bipush 6, 2) := dX9_init_k14.2.2.1
theorem dX9_init_173 : decode cX9_init 173 = .ok (.newarray .long, 2) := dX9_init_k14.2.2.2.1
theorem dX9_init_175 : decode cX9_init 175 = .ok (.putfield 75, 3) := dX9_init_k14.2.2.2.2.1
theorem dX9_init_178 : decode cX9_init 178 = .ok (.aload_n 0, 1) := dX9_init_k14.2.2.2.2.2
set_option maxRecDepth 100000 in
theorem dX9_init_k15 : (decode cX9_init 179 = .ok (.sipush 400, 3)) ∧ (decode cX9_init 182 = .ok (.newarray .int, 2)) ∧ (decode cX9_init 184 = .ok (.putfield 78, 3)) ∧ (decode cX9_init 187 = .ok (.aload_n 0, 1)) ∧ (decode cX9_init 188 = .ok (.iconst 2, 1)) ∧ (decode cX9_init 189 = .ok (.newarray .boolean, 2)) := by decide +kernel
theorem dX9_init_179 : decode cX9_init 179 = .ok (.sipush 400, 3) := dX9_init_k15.1
theorem dX9_init_182 : decode cX9_init 182 = .ok (.newarray .int, 2) := dX9_init_k15.2.1
theorem dX9_init_184 : decode cX9_init 184 = .ok (.putfield 78, 3) := dX9_init_k15.2.2.1
theorem dX9_init_187 : decode cX9_init 187 = .ok (.aload_n 0, 1) := dX9_init_k15.2.2.2.1
theorem dX9_init_188 : decode cX9_init 188 = .ok (.iconst 2, 1) := dX9_init_k15.2.2.2.2.1
theorem dX9_init_189 : decode cX9_init 189 = .ok (.newarray .boolean, 2) := dX9_init_k15.2.2.2.2.2
set_option maxRecDepth 100000 in
theorem dX9_init_k16 : (decode cX9_init 191 = .ok (.putfield 81, 3)) ∧ (decode cX9_init 194 = .ok (.aload_n 0, 1)) ∧ (decode cX9_init 195 = .ok (.invokevirtual 85, 3)) ∧ (decode cX9_init 198 = .ok (.return_, 1)) := by decide +kernel
theorem dX9_init_191 : decode cX9_init 191 = .ok (.putfield 81, 3) := dX9_init_k16.1
theorem dX9_init_194 : decode cX9_init 194 = .ok (.aload_n 0, 1) := dX9_init_k16.2.1
theorem dX9_init_195 : decode cX9_init 195 = .ok (.invokevirtual 85, 3) := dX9_init_k16.2.2.1
theorem dX9_init_198 : decode cX9_init 198 = .ok (.return_, 1) := dX9_init_k16.2.2.2
set_option maxRecDepth 100000 in
theorem dX9_empty_k17 : (decode cX9_empty 0 = .ok (.aload_n 0, 1)) ∧ (decode cX9_empty 1 = .ok (.iconst 0, 1)) ∧ (decode cX9_empty 2 = .ok (.putfield 88, 3)) ∧ (decode cX9_empty 5 = .ok (.aload_n 0, 1)) ∧ (decode cX9_empty 6 = .ok (.iconst 0, 1)) ∧ (decode cX9_empty 7 = .ok (.putfield 91, 3)) := by decide +kernel
theorem dX9_empty_0 : decode cX9_empty 0 = .ok (.aload_n 0, 1) := dX9_empty_k17.1
theorem dX9_empty_1 : decode cX9_empty 1 = .ok (.iconst 0, 1) := dX9_empty_k17.2.1
theorem dX9_empty_2 : decode cX9_empty 2 = .ok (.putfield 88, 3) := dX9_empty_k17.2.2.1
theorem dX9_empty_5 : decode cX9_empty 5 = .ok (.aload_n 0, 1) := dX9_empty_k17.2.2.2.1
theorem dX9_empty_6 : decode cX9_empty 6 = .ok (.iconst 0, 1) := dX9_empty_k17.2.2.2.2.1
theorem dX9_empty_7 : decode cX9_empty 7 = .ok (.putfield 91, 3) := dX9_empty_k17.2.2.2.2.2
set_option maxRecDepth 100000 in
theorem dX9_empty_k18 : (decode cX9_empty 10 = .ok (.iconst 0, 1)) ∧ (decode cX9_empty 11 = .ok (.istore_n 1, 1)) ∧ (decode cX9_empty 12 = .ok (.iload_n 1, 1)) ∧ (decode cX9_empty 13 = .ok (.bipush 6, 2)) ∧ (decode cX9_empty 15 = .ok (.if_icmp .ge 24, 3)) ∧ (decode cX9_empty 18 = .ok (.aload_n 0, 1)) := by decide +kernel
theorem dX9_empty_10 : decode cX9_empty 10 = .ok (.iconst 0, 1) := dX9_empty_k18.1
theorem dX9_empty_11 : decode cX9_empty 11 = .ok (.istore_n 1, 1) := dX9_empty_k18.2.1
theorem dX9_empty_12 : decode cX9_empty 12 = .ok (.iload_n 1, 1) := dX9_empty_k18.2.2.1
theorem dX9_empty_13 : decode cX9_empty 13 = .ok (.bipush 6, 2) := dX9_empty_k18.2.2.2.1
theorem dX9_empty_15 : decode cX9_empty 15 = .ok (.if_icmp .ge 24, 3) := dX9_empty_k18.2.2.2.2.1
theorem dX9_empty_18 : decode cX9_empty 18 = .ok (.aload_n 0, 1) := dX9_empty_k18.2.2.2.2.2
set_option maxRecDepth 100000 in
theorem dX9_empty_k19 : (decode cX9_empty 19 = .ok (.getfield 17, 3)) ∧ (decode cX9_empty 22 = .ok (.iload_n 1, 1)) ∧ (decode cX9_empty 23 = .ok (.bipush 8, 2)) ∧ (decode cX9_empty 25 = .ok (.iastore, 1)) ∧ (decode cX9_empty 26 = .ok (.aload_n 0, 1)) ∧ (decode cX9_empty 27 = .ok (.getfield 20, 3)) := by decide +kernel
theorem dX9_empty_19 : decode cX9_empty 19 = .ok (.getfield 17, 3) := dX9_empty_k19.1
theorem dX9_empty_22 : decode cX9_empty 22 = .ok (.iload_n 1, 1) := dX9_empty_k19.2.1
theorem dX9_empty_23 : decode cX9_empty 23 = .ok (.bipush 8, 2) := dX9_empty_k19.2.2.1
theorem dX9_empty_25 : decode cX9_empty 25 = .ok (.iastore, 1) := dX9_empty_k19.2.2.2.1
theorem dX9_empty_26 : decode cX9_empty 26 = .ok (.aload_n 0, 1) := dX9_empty_k19.2.2.2.2.1
theorem dX9_empty_27 : decode cX9_empty 27 = .ok (.getfield 20, 3) := dX9_empty_k19.2.2.2.2.2
set_option maxRecDepth 100000 in
theorem dX9_empty_k20 : (decode cX9_empty 30 = .ok (.iload_n 1, 1)) ∧ (decode cX9_empty 31 = .ok (.iconst 0, 1)) ∧ (decode cX9_empty 32 = .ok (.iastore, 1)) ∧ (decode cX9_empty 33 = .ok (.iinc 1 1, 3)) ∧ (decode cX9_empty 36 = .ok (.goto (-24), 3)) ∧ (decode cX9_empty 39 = .ok (.iconst 0, 1)) := by decide +kernel
theorem dX9_empty_30 : decode cX9_empty 30 = .ok (.iload_n 1, 1) := dX9_empty_k20.1
theorem dX9_empty_31 : decode cX9_empty 31 = .ok (.iconst 0, 1) := dX9_empty_k20.2.1
theorem dX9_empty_32 : decode cX9_empty 32 = .ok (.iastore, 1) := dX9_empty_k20.2.2.1
theorem dX9_empty_33 : decode cX9_empty 33 = .ok (.iinc 1 1, 3) := dX9_empty_k20.2.2.2.1
theorem dX9_empty_36 : decode cX9_empty 36 = .ok (.goto (-24), 3) := dX9_empty_k20.2.2.2.2.1
theorem dX9_empty_39 : decode cX9_empty 39 = .ok (.iconst 0, 1) := dX9_empty_k20.2.2.2.2.2
set_option maxRecDepth 100000 in
theorem dX9_empty_k21 : (decode cX9_empty 40 = .ok (.istore_n 1, 1)) ∧ (decode cX9_empty 41 = .ok (.iload_n 1, 1)) ∧ (decode cX9_empty 42 = .ok (.bipush 24, 2)) ∧ (decode cX9_empty 44 = .ok (.if_icmp .ge 16, 3)) ∧ (decode cX9_empty 47 = .ok (.aload_n 0, 1)) ∧ (decode cX9_empty 48 = .ok (.getfield 13, 3)) := by decide +kernel
theorem dX9_empty_40 : decode cX9_empty 40 = .ok (.istore_n 1, 1) := dX9_empty_k21.1
theorem dX9_empty_41 : decode cX9_empty 41 = .ok (.iload_n 1, 1) := dX9_empty_k21.2.1
theorem dX9_empty_42 : decode cX9_empty 42 = .ok (.bipush 24, 2) := dX9_empty_k21.2.2.1
theorem dX9_empty_44 : decode cX9_empty 44 = .ok (.if_icmp .ge 16, 3) := dX9_empty_k21.2.2.2.1
theorem dX9_empty_47 : decode cX9_empty 47 = .ok (.aload_n 0, 1) := dX9_empty_k21.2.2.2.2.1
theorem dX9_empty_48 : decode cX9_empty 48 = .ok (.getfield 13, 3) := dX9_empty_k21.2.2.2.2.2
set_option maxRecDepth 100000 in
theorem dX9_empty_k22 : (decode cX9_empty 51 = .ok (.iload_n 1, 1)) ∧ (decode cX9_empty 52 = .ok (.iconst 0, 1)) ∧ (decode cX9_empty 53 = .ok (.iastore, 1)) ∧ (decode cX9_empty 54 = .ok (.iinc 1 1, 3)) ∧ (decode cX9_empty 57 = .ok (.goto (-16), 3)) ∧ (decode cX9_empty 60 = .ok (.iconst 0, 1)) := by decide +kernel
theorem dX9_empty_51 : decode cX9_empty 51 = .ok (.iload_n 1, 1) := dX9_empty_k22.1
theorem dX9_empty_52 : decode cX9_empty 52 = .ok (.iconst 0, 1) := dX9_empty_k22.2.1
theorem dX9_empty_53 : decode cX9_empty 53 = .ok (.iastore, 1) := dX9_empty_k22.2.2.1
theorem dX9_empty_54 : decode cX9_empty 54 = .ok (.iinc 1 1, 3) := dX9_empty_k22.2.2.2.1
theorem dX9_empty_57 : decode cX9_empty 57 = .ok (.goto (-16), 3) := dX9_empty_k22.2.2.2.2.1
theorem dX9_empty_60 : decode cX9_empty 60 = .ok (.iconst 0, 1) := dX9_empty_k22.2.2.2.2.2
set_option maxRecDepth 100000 in
theorem dX9_empty_k23 : (decode cX9_empty 61 = .ok (.istore_n 1, 1)) ∧ (decode cX9_empty 62 = .ok (.iload_n 1, 1)) ∧ (decode cX9_empty 63 = .ok (.bipush 36, 2)) ∧ (decode cX9_empty 65 = .ok (.if_icmp .ge 16, 3)) ∧ (decode cX9_empty 68 = .ok (.aload_n 0, 1)) ∧ (decode cX9_empty 69 = .ok (.getfield 23, 3)) := by decide +kernel
theorem dX9_empty_61 : decode cX9_empty 61 = .ok (.istore_n 1, 1) := dX9_empty_k23.1
theorem dX9_empty_62 : decode cX9_empty 62 = .ok (.iload_n 1, 1) := dX9_empty_k23.2.1
theorem dX9_empty_63 : decode cX9_empty 63 = .ok (.bipush 36, 2) := dX9_empty_k23.2.2.1
theorem dX9_empty_65 : decode cX9_empty 65 = .ok (.if_icmp .ge 16, 3) := dX9_empty_k23.2.2.2.1
theorem dX9_empty_68 : decode cX9_empty 68 = .ok (.aload_n 0, 1) := dX9_empty_k23.2.2.2.2.1
theorem dX9_empty_69 : decode cX9_empty 69 = .ok (.getfield 23, 3) := dX9_empty_k23.2.2.2.2.2
set_option maxRecDepth 100000 in
theorem dX9_empty_k24 : (decode cX9_empty 72 = .ok (.iload_n 1, 1)) ∧ (decode cX9_empty 73 = .ok (.iconst 0, 1)) ∧ (decode cX9_empty 74 = .ok (.iastore, 1)) ∧ (decode cX9_empty 75 = .ok (.iinc 1 1, 3)) ∧ (decode cX9_empty 78 = .ok (.goto (-16), 3)) ∧ (decode cX9_empty 81 = .ok (.return_, 1)) := by decide +kernel
theorem dX9_empty_72 : decode cX9_empty 72 = .ok (.iload_n 1, 1) := dX9_empty_k24.1
theorem dX9_empty_73 : decode cX9_empty 73 = .ok (.iconst 0, 1) := dX9_empty_k24.2.1
theorem dX9_empty_74 : decode cX9_empty 74 = .ok (.iastore, 1) := dX9_empty_k24.2.2.1
theorem dX9_empty_75 : decode cX9_empty 75 = .ok (.iinc 1 1, 3) := dX9_empty_k24.2.2.2.1
theorem dX9_empty_78 : decode cX9_empty 78 = .ok (.goto (-16), 3) := dX9_empty_k24.2.2.2.2.1
theorem dX9_empty_81 : decode cX9_empty 81 = .ok (.return_, 1) := dX9_empty_k24.2.2.2.2.2
set_option maxRecDepth 100000 in
theorem dX9_in_k25 : (decode cX9_in 0 = .ok (.iload_n 0, 1)) ∧ (decode cX9_in 1 = .ok (.iload_n 1, 1)) ∧ (decode cX9_in 2 = .ok (.if_icmp .lt 12, 3)) ∧ (decode cX9_in 5 = .ok (.iload_n 0, 1)) ∧ (decode cX9_in 6 = .ok (.iload_n 2, 1)) ∧ (decode cX9_in 7 = .ok (.if_icmp .gt 7, 3)) := by decide +kernel
theorem dX9_in_0 : decode cX9_in 0 = .ok (.iload_n 0, 1) := dX9_in_k25.1
theorem dX9_in_1 : decode cX9_in 1 = .ok (.iload_n 1, 1) := dX9_in_k25.2.1
theorem dX9_in_2 : decode cX9_in 2 = .ok (.if_icmp .lt 12, 3) := dX9_in_k25.2.2.1
theorem dX9_in_5 : decode cX9_in 5 = .ok (.iload_n 0, 1) := dX9_in_k25.2.2.2.1
theorem dX9_in_6 : decode cX9_in 6 = .ok (.iload_n 2, 1) := dX9_in_k25.2.2.2.2.1
theorem dX9_in_7 : decode cX9_in 7 = .ok (.if_icmp .gt 7, 3) := dX9_in_k25.2.2.2.2.2
set_option maxRecDepth 100000 in
theorem dX9_in_k26 : (decode cX9_in 10 = .ok (.iconst 1, 1)) ∧ (decode cX9_in 11 = .ok (.goto 4, 3)) ∧ (decode cX9_in 14 = .ok (.iconst 0, 1)) ∧ (decode cX9_in 15 = .ok (.ireturn, 1)) := by decide +kernel
theorem dX9_in_10 : decode cX9_in 10 = .ok (.iconst 1, 1) := dX9_in_k26.1
theorem dX9_in_11 : decode cX9_in 11 = .ok (.goto 4, 3) := dX9_in_k26.2.1
theorem dX9_in_14 : decode cX9_in 14 = .ok (.iconst 0, 1) := dX9_in_k26.2.2.1
theorem dX9_in_15 : decode cX9_in 15 = .ok (.ireturn, 1) := dX9_in_k26.2.2.2
set_option maxRecDepth 100000 in
theorem dX9_has_k27 : (decode cX9_has 0 = .ok (.iload_n 0, 1)) ∧ (decode cX9_has 1 = .ok (.iload_n 1, 1)) ∧ (decode cX9_has 2 = .ok (.ishr, 1)) ∧ (decode cX9_has 3 = .ok (.iconst 1, 1)) ∧ (decode cX9_has 4 = .ok (.iand, 1)) ∧ (decode cX9_has 5 = .ok (.iconst 1, 1)) := by decide +kernel
theorem dX9_has_0 : decode cX9_has 0 = .ok (.iload_n 0, 1) := dX9_has_k27.1
theorem dX9_has_1 : decode cX9_has 1 = .ok (.iload_n 1, 1) := dX9_has_k27.2.1
theorem dX9_has_2 : decode cX9_has 2 = .ok (.ishr, 1) := dX9_has_k27.2.2.1
theorem dX9_has_3 : decode cX9_has 3 = .ok (.iconst 1, 1) := dX9_has_k27.2.2.2.1
theorem dX9_has_4 : decode cX9_has 4 = .ok (.iand, 1) := dX9_has_k27.2.2.2.2.1
theorem dX9_has_5 : decode cX9_has 5 = .ok (.iconst 1, 1) := dX9_has_k27.2.2.2.2.2
set_option maxRecDepth 100000 in
theorem dX9_has_k28 : (decode cX9_has 6 = .ok (.if_icmp .ne 7, 3)) ∧ (decode cX9_has 9 = .ok (.iconst 1, 1)) ∧ (decode cX9_has 10 = .ok (.goto 4, 3)) ∧ (decode cX9_has 13 = .ok (.iconst 0, 1)) ∧ (decode cX9_has 14 = .ok (.ireturn, 1)) := by decide +kernel
theorem dX9_has_6 : decode cX9_has 6 = .ok (.if_icmp .ne 7, 3) := dX9_has_k28.1
theorem dX9_has_9 : decode cX9_has 9 = .ok (.iconst 1, 1) := dX9_has_k28.2.1
theorem dX9_has_10 : decode cX9_has 10 = .ok (.goto 4, 3) := dX9_has_k28.2.2.1
theorem dX9_has_13 : decode cX9_has 13 = .ok (.iconst 0, 1) := dX9_has_k28.2.2.2.1
theorem dX9_has_14 : decode cX9_has 14 = .ok (.ireturn, 1) := dX9_has_k28.2.2.2.2
set_option maxRecDepth 100000 in
theorem dX9_bits_k29 : (decode cX9_bits 0 = .ok (.iconst 0, 1)) ∧ (decode cX9_bits 1 = .ok (.istore_n 1, 1)) ∧ (decode cX9_bits 2 = .ok (.iconst 0, 1)) ∧ (decode cX9_bits 3 = .ok (.istore_n 2, 1)) ∧ (decode cX9_bits 4 = .ok (.iload_n 2, 1)) ∧ (decode cX9_bits 5 = .ok (.bipush 8, 2)) := by decide +kernel
theorem dX9_bits_0 : decode cX9_bits 0 = .ok (.iconst 0, 1) := dX9_bits_k29.1
theorem dX9_bits_1 : decode cX9_bits 1 = .ok (.istore_n 1, 1) := dX9_bits_k29.2.1
theorem dX9_bits_2 : decode cX9_bits 2 = .ok (.iconst 0, 1) := dX9_bits_k29.2.2.1
theorem dX9_bits_3 : decode cX9_bits 3 = .ok (.istore_n 2, 1) := dX9_bits_k29.2.2.2.1
theorem dX9_bits_4 : decode cX9_bits 4 = .ok (.iload_n 2, 1) := dX9_bits_k29.2.2.2.2.1
theorem dX9_bits_5 : decode cX9_bits 5 = .ok (.bipush 8, 2) := dX9_bits_k29.2.2.2.2.2
set_option maxRecDepth 100000 in
theorem dX9_bits_k30 : (decode cX9_bits 7 = .ok (.if_icmp .ge 17, 3)) ∧ (decode cX9_bits 10 = .ok (.iload_n 1, 1)) ∧ (decode cX9_bits 11 = .ok (.iload_n 0, 1)) ∧ (decode cX9_bits 12 = .ok (.iload_n 2, 1)) ∧ (decode cX9_bits 13 = .ok (.ishr, 1)) ∧ (decode cX9_bits 14 = .ok (.iconst 1, 1)) := by decide +kernel
theorem dX9_bits_7 : decode cX9_bits 7 = .ok (.if_icmp .ge 17, 3) := dX9_bits_k30.1
theorem dX9_bits_10 : decode cX9_bits 10 = .ok (.iload_n 1, 1) := dX9_bits_k30.2.1
theorem dX9_bits_11 : decode cX9_bits 11 = .ok (.iload_n 0, 1) := dX9_bits_k30.2.2.1
theorem dX9_bits_12 : decode cX9_bits 12 = .ok (.iload_n 2, 1) := dX9_bits_k30.2.2.2.1
theorem dX9_bits_13 : decode cX9_bits 13 = .ok (.ishr, 1) := dX9_bits_k30.2.2.2.2.1
theorem dX9_bits_14 : decode cX9_bits 14 = .ok (.iconst 1, 1) := dX9_bits_k30.2.2.2.2.2
set_option maxRecDepth 100000 in
theorem dX9_bits_k31 : (decode cX9_bits 15 = .ok (.iand, 1)) ∧ (decode cX9_bits 16 = .ok (.iadd, 1)) ∧ (decode cX9_bits 17 = .ok (.istore_n 1, 1)) ∧ (decode cX9_bits 18 = .ok (.iinc 2 1, 3)) ∧ (decode cX9_bits 21 = .ok (.goto (-17), 3)) ∧ (decode cX9_bits 24 = .ok (.iload_n 1, 1)) := by decide +kernel
theorem dX9_bits_15 : decode cX9_bits 15 = .ok (.iand, 1) := dX9_bits_k31.1
theorem dX9_bits_16 : decode cX9_bits 16 = .ok (.iadd, 1) := dX9_bits_k31.2.1
theorem dX9_bits_17 : decode cX9_bits 17 = .ok (.istore_n 1, 1) := dX9_bits_k31.2.2.1
theorem dX9_bits_18 : decode cX9_bits 18 = .ok (.iinc 2 1, 3) := dX9_bits_k31.2.2.2.1
theorem dX9_bits_21 : decode cX9_bits 21 = .ok (.goto (-17), 3) := dX9_bits_k31.2.2.2.2.1
theorem dX9_bits_24 : decode cX9_bits 24 = .ok (.iload_n 1, 1) := dX9_bits_k31.2.2.2.2.2
theorem dX9_bits_25 : decode cX9_bits 25 = .ok (.ireturn, 1) := by decide +kernel
set_option maxRecDepth 100000 in
theorem dX9_isRoom_k32 : (decode cX9_isRoom 0 = .ok (.iload_n 1, 1)) ∧ (decode cX9_isRoom 1 = .ok (.iconst 0, 1)) ∧ (decode cX9_isRoom 2 = .ok (.aload_n 0, 1)) ∧ (decode cX9_isRoom 3 = .ok (.getfield 7, 3)) ∧ (decode cX9_isRoom 6 = .ok (.iconst 1, 1)) ∧ (decode cX9_isRoom 7 = .ok (.isub, 1)) := by decide +kernel
theorem dX9_isRoom_0 : decode cX9_isRoom 0 = .ok (.iload_n 1, 1) := dX9_isRoom_k32.1
theorem dX9_isRoom_1 : decode cX9_isRoom 1 = .ok (.iconst 0, 1) := dX9_isRoom_k32.2.1
theorem dX9_isRoom_2 : decode cX9_isRoom 2 = .ok (.aload_n 0, 1) := dX9_isRoom_k32.2.2.1
theorem dX9_isRoom_3 : decode cX9_isRoom 3 = .ok (.getfield 7, 3) := dX9_isRoom_k32.2.2.2.1
theorem dX9_isRoom_6 : decode cX9_isRoom 6 = .ok (.iconst 1, 1) := dX9_isRoom_k32.2.2.2.2.1
theorem dX9_isRoom_7 : decode cX9_isRoom 7 = .ok (.isub, 1) := dX9_isRoom_k32.2.2.2.2.2
set_option maxRecDepth 100000 in
theorem dX9_isRoom_k33 : (decode cX9_isRoom 8 = .ok (.invokestatic 94, 3)) ∧ (decode cX9_isRoom 11 = .ok (.ireturn, 1)) := by decide +kernel
theorem dX9_isRoom_8 : decode cX9_isRoom 8 = .ok (.invokestatic 94, 3) := dX9_isRoom_k33.1
theorem dX9_isRoom_11 : decode cX9_isRoom 11 = .ok (.ireturn, 1) := dX9_isRoom_k33.2
set_option maxRecDepth 100000 in
theorem dX9_isThere_k34 : (decode cX9_isThere 0 = .ok (.iload_n 1, 1)) ∧ (decode cX9_isThere 1 = .ok (.iconst 0, 1)) ∧ (decode cX9_isThere 2 = .ok (.bipush 7, 2)) ∧ (decode cX9_isThere 4 = .ok (.invokestatic 94, 3)) ∧ (decode cX9_isThere 7 = .ok (.ifCond .eq 18, 3)) ∧ (decode cX9_isThere 10 = .ok (.aload_n 0, 1)) := by decide +kernel
theorem dX9_isThere_0 : decode cX9_isThere 0 = .ok (.iload_n 1, 1) := dX9_isThere_k34.1
theorem dX9_isThere_1 : decode cX9_isThere 1 = .ok (.iconst 0, 1) := dX9_isThere_k34.2.1
theorem dX9_isThere_2 : decode cX9_isThere 2 = .ok (.bipush 7, 2) := dX9_isThere_k34.2.2.1
theorem dX9_isThere_4 : decode cX9_isThere 4 = .ok (.invokestatic 94, 3) := dX9_isThere_k34.2.2.2.1
theorem dX9_isThere_7 : decode cX9_isThere 7 = .ok (.ifCond .eq 18, 3) := dX9_isThere_k34.2.2.2.2.1
theorem dX9_isThere_10 : decode cX9_isThere 10 = .ok (.aload_n 0, 1) := dX9_isThere_k34.2.2.2.2.2
set_option maxRecDepth 100000 in
theorem dX9_isThere_k35 : (decode cX9_isThere 11 = .ok (.getfield 88, 3)) ∧ (decode cX9_isThere 14 = .ok (.iload_n 1, 1)) ∧ (decode cX9_isThere 15 = .ok (.invokestatic 98, 3)) ∧ (decode cX9_isThere 18 = .ok (.ifCond .eq 7, 3)) ∧ (decode cX9_isThere 21 = .ok (.iconst 1, 1)) ∧ (decode cX9_isThere 22 = .ok (.goto 4, 3)) := by decide +kernel
theorem dX9_isThere_11 : decode cX9_isThere 11 = .ok (.getfield 88, 3) := dX9_isThere_k35.1
theorem dX9_isThere_14 : decode cX9_isThere 14 = .ok (.iload_n 1, 1) := dX9_isThere_k35.2.1
theorem dX9_isThere_15 : decode cX9_isThere 15 = .ok (.invokestatic 98, 3) := dX9_isThere_k35.2.2.1
theorem dX9_isThere_18 : decode cX9_isThere 18 = .ok (.ifCond .eq 7, 3) := dX9_isThere_k35.2.2.2.1
theorem dX9_isThere_21 : decode cX9_isThere 21 = .ok (.iconst 1, 1) := dX9_isThere_k35.2.2.2.2.1
theorem dX9_isThere_22 : decode cX9_isThere 22 = .ok (.goto 4, 3) := dX9_isThere_k35.2.2.2.2.2
set_option maxRecDepth 100000 in
theorem dX9_isThere_k36 : (decode cX9_isThere 25 = .ok (.iconst 0, 1)) ∧ (decode cX9_isThere 26 = .ok (.ireturn, 1)) := by decide +kernel
theorem dX9_isThere_25 : decode cX9_isThere 25 = .ok (.iconst 0, 1) := dX9_isThere_k36.1
theorem dX9_isThere_26 : decode cX9_isThere 26 = .ok (.ireturn, 1) := dX9_isThere_k36.2
set_option maxRecDepth 100000 in
theorem dX9_rooms_k37 : (decode cX9_rooms 0 = .ok (.iload_n 1, 1)) ∧ (decode cX9_rooms 1 = .ok (.iconst 2, 1)) ∧ (decode cX9_rooms 2 = .ok (.bipush 6, 2)) ∧ (decode cX9_rooms 4 = .ok (.invokestatic 94, 3)) ∧ (decode cX9_rooms 7 = .ok (.ifCond .ne 6, 3)) ∧ (decode cX9_rooms 10 = .ok (.bipush (-2), 2)) := by decide +kernel
theorem dX9_rooms_0 : decode cX9_rooms 0 = .ok (.iload_n 1, 1) := dX9_rooms_k37.1
theorem dX9_rooms_1 : decode cX9_rooms 1 = .ok (.iconst 2, 1) := dX9_rooms_k37.2.1
theorem dX9_rooms_2 : decode cX9_rooms 2 = .ok (.bipush 6, 2) := dX9_rooms_k37.2.2.1
theorem dX9_rooms_4 : decode cX9_rooms 4 = .ok (.invokestatic 94, 3) := dX9_rooms_k37.2.2.2.1
theorem dX9_rooms_7 : decode cX9_rooms 7 = .ok (.ifCond .ne 6, 3) := dX9_rooms_k37.2.2.2.2.1
theorem dX9_rooms_10 : decode cX9_rooms 10 = .ok (.bipush (-2), 2) := dX9_rooms_k37.2.2.2.2.2
set_option maxRecDepth 100000 in
theorem dX9_rooms_k38 : (decode cX9_rooms 12 = .ok (.ireturn, 1)) ∧ (decode cX9_rooms 13 = .ok (.aload_n 0, 1)) ∧ (decode cX9_rooms 14 = .ok (.getfield 7, 3)) ∧ (decode cX9_rooms 17 = .ok (.istore_n 2, 1)) ∧ (decode cX9_rooms 18 = .ok (.aload_n 0, 1)) ∧ (decode cX9_rooms 19 = .ok (.iload_n 1, 1)) := by decide +kernel
theorem dX9_rooms_12 : decode cX9_rooms 12 = .ok (.ireturn, 1) := dX9_rooms_k38.1
theorem dX9_rooms_13 : decode cX9_rooms 13 = .ok (.aload_n 0, 1) := dX9_rooms_k38.2.1
theorem dX9_rooms_14 : decode cX9_rooms 14 = .ok (.getfield 7, 3) := dX9_rooms_k38.2.2.1
theorem dX9_rooms_17 : decode cX9_rooms 17 = .ok (.istore_n 2, 1) := dX9_rooms_k38.2.2.2.1
theorem dX9_rooms_18 : decode cX9_rooms 18 = .ok (.aload_n 0, 1) := dX9_rooms_k38.2.2.2.2.1
theorem dX9_rooms_19 : decode cX9_rooms 19 = .ok (.iload_n 1, 1) := dX9_rooms_k38.2.2.2.2.2
set_option maxRecDepth 100000 in
theorem dX9_rooms_k39 : (decode cX9_rooms 20 = .ok (.putfield 7, 3)) ∧ (decode cX9_rooms 23 = .ok (.aload_n 0, 1)) ∧ (decode cX9_rooms 24 = .ok (.invokevirtual 85, 3)) ∧ (decode cX9_rooms 27 = .ok (.iload_n 2, 1)) ∧ (decode cX9_rooms 28 = .ok (.ireturn, 1)) := by decide +kernel
theorem dX9_rooms_20 : decode cX9_rooms 20 = .ok (.putfield 7, 3) := dX9_rooms_k39.1
theorem dX9_rooms_23 : decode cX9_rooms 23 = .ok (.aload_n 0, 1) := dX9_rooms_k39.2.1
theorem dX9_rooms_24 : decode cX9_rooms 24 = .ok (.invokevirtual 85, 3) := dX9_rooms_k39.2.2.1
theorem dX9_rooms_27 : decode cX9_rooms 27 = .ok (.iload_n 2, 1) := dX9_rooms_k39.2.2.2.1
theorem dX9_rooms_28 : decode cX9_rooms 28 = .ok (.ireturn, 1) := dX9_rooms_k39.2.2.2.2
set_option maxRecDepth 100000 in
theorem dX9_inRoom_k40 : (decode cX9_inRoom 0 = .ok (.iconst 0, 1)) ∧ (decode cX9_inRoom 1 = .ok (.istore 4, 2)) ∧ (decode cX9_inRoom 3 = .ok (.iconst 0, 1)) ∧ (decode cX9_inRoom 4 = .ok (.istore 5, 2)) ∧ (decode cX9_inRoom 6 = .ok (.iload 5, 2)) ∧ (decode cX9_inRoom 8 = .ok (.bipush 8, 2)) := by decide +kernel
theorem dX9_inRoom_0 : decode cX9_inRoom 0 = .ok (.iconst 0, 1) := dX9_inRoom_k40.1
theorem dX9_inRoom_1 : decode cX9_inRoom 1 = .ok (.istore 4, 2) := dX9_inRoom_k40.2.1
theorem dX9_inRoom_3 : decode cX9_inRoom 3 = .ok (.iconst 0, 1) := dX9_inRoom_k40.2.2.1
theorem dX9_inRoom_4 : decode cX9_inRoom 4 = .ok (.istore 5, 2) := dX9_inRoom_k40.2.2.2.1
theorem dX9_inRoom_6 : decode cX9_inRoom 6 = .ok (.iload 5, 2) := dX9_inRoom_k40.2.2.2.2.1
theorem dX9_inRoom_8 : decode cX9_inRoom 8 = .ok (.bipush 8, 2) := dX9_inRoom_k40.2.2.2.2.2
set_option maxRecDepth 100000 in
theorem dX9_inRoom_k41 : (decode cX9_inRoom 10 = .ok (.if_icmp .ge 63, 3)) ∧ (decode cX9_inRoom 13 = .ok (.iload 4, 2)) ∧ (decode cX9_inRoom 15 = .ok (.aload_n 0, 1)) ∧ (decode cX9_inRoom 16 = .ok (.getfield 88, 3)) ∧ (decode cX9_inRoom 19 = .ok (.iload 5, 2)) ∧ (decode cX9_inRoom 21 = .ok (.invokestatic 98, 3)) := by decide +kernel
theorem dX9_inRoom_10 : decode cX9_inRoom 10 = .ok (.if_icmp .ge 63, 3) := dX9_inRoom_k41.1
theorem dX9_inRoom_13 : decode cX9_inRoom 13 = .ok (.iload 4, 2) := dX9_inRoom_k41.2.1
theorem dX9_inRoom_15 : decode cX9_inRoom 15 = .ok (.aload_n 0, 1) := dX9_inRoom_k41.2.2.1
theorem dX9_inRoom_16 : decode cX9_inRoom 16 = .ok (.getfield 88, 3) := dX9_inRoom_k41.2.2.2.1
theorem dX9_inRoom_19 : decode cX9_inRoom 19 = .ok (.iload 5, 2) := dX9_inRoom_k41.2.2.2.2.1
theorem dX9_inRoom_21 : decode cX9_inRoom 21 = .ok (.invokestatic 98, 3) := dX9_inRoom_k41.2.2.2.2.2
set_option maxRecDepth 100000 in
theorem dX9_inRoom_k42 : (decode cX9_inRoom 24 = .ok (.ifCond .eq 39, 3)) ∧ (decode cX9_inRoom 27 = .ok (.iload 5, 2)) ∧ (decode cX9_inRoom 29 = .ok (.iload_n 3, 1)) ∧ (decode cX9_inRoom 30 = .ok (.if_icmp .eq 33, 3)) ∧ (decode cX9_inRoom 33 = .ok (.aload_n 0, 1)) ∧ (decode cX9_inRoom 34 = .ok (.getfield 29, 3)) := by decide +kernel
theorem dX9_inRoom_24 : decode cX9_inRoom 24 = .ok (.ifCond .eq 39, 3) := dX9_inRoom_k42.1
theorem dX9_inRoom_27 : decode cX9_inRoom 27 = .ok (.iload 5, 2) := dX9_inRoom_k42.2.1
theorem dX9_inRoom_29 : decode cX9_inRoom 29 = .ok (.iload_n 3, 1) := dX9_inRoom_k42.2.2.1
theorem dX9_inRoom_30 : decode cX9_inRoom 30 = .ok (.if_icmp .eq 33, 3) := dX9_inRoom_k42.2.2.2.1
theorem dX9_inRoom_33 : decode cX9_inRoom 33 = .ok (.aload_n 0, 1) := dX9_inRoom_k42.2.2.2.2.1
theorem dX9_inRoom_34 : decode cX9_inRoom 34 = .ok (.getfield 29, 3) := dX9_inRoom_k42.2.2.2.2.2
set_option maxRecDepth 100000 in
theorem dX9_inRoom_k43 : (decode cX9_inRoom 37 = .ok (.iload 5, 2)) ∧ (decode cX9_inRoom 39 = .ok (.iaload, 1)) ∧ (decode cX9_inRoom 40 = .ok (.iload_n 1, 1)) ∧ (decode cX9_inRoom 41 = .ok (.if_icmp .ne 22, 3)) ∧ (decode cX9_inRoom 44 = .ok (.iload_n 2, 1)) ∧ (decode cX9_inRoom 45 = .ok (.ifCond .lt 14, 3)) := by decide +kernel
theorem dX9_inRoom_37 : decode cX9_inRoom 37 = .ok (.iload 5, 2) := dX9_inRoom_k43.1
theorem dX9_inRoom_39 : decode cX9_inRoom 39 = .ok (.iaload, 1) := dX9_inRoom_k43.2.1
theorem dX9_inRoom_40 : decode cX9_inRoom 40 = .ok (.iload_n 1, 1) := dX9_inRoom_k43.2.2.1
theorem dX9_inRoom_41 : decode cX9_inRoom 41 = .ok (.if_icmp .ne 22, 3) := dX9_inRoom_k43.2.2.2.1
theorem dX9_inRoom_44 : decode cX9_inRoom 44 = .ok (.iload_n 2, 1) := dX9_inRoom_k43.2.2.2.2.1
theorem dX9_inRoom_45 : decode cX9_inRoom 45 = .ok (.ifCond .lt 14, 3) := dX9_inRoom_k43.2.2.2.2.2
set_option maxRecDepth 100000 in
theorem dX9_inRoom_k44 : (decode cX9_inRoom 48 = .ok (.aload_n 0, 1)) ∧ (decode cX9_inRoom 49 = .ok (.getfield 32, 3)) ∧ (decode cX9_inRoom 52 = .ok (.iload 5, 2)) ∧ (decode cX9_inRoom 54 = .ok (.iaload, 1)) ∧ (decode cX9_inRoom 55 = .ok (.iload_n 2, 1)) ∧ (decode cX9_inRoom 56 = .ok (.if_icmp .ne 7, 3)) := by decide +kernel
theorem dX9_inRoom_48 : decode cX9_inRoom 48 = .ok (.aload_n 0, 1) := dX9_inRoom_k44.1
theorem dX9_inRoom_49 : decode cX9_inRoom 49 = .ok (.getfield 32, 3) := dX9_inRoom_k44.2.1
theorem dX9_inRoom_52 : decode cX9_inRoom 52 = .ok (.iload 5, 2) := dX9_inRoom_k44.2.2.1
theorem dX9_inRoom_54 : decode cX9_inRoom 54 = .ok (.iaload, 1) := dX9_inRoom_k44.2.2.2.1
theorem dX9_inRoom_55 : decode cX9_inRoom 55 = .ok (.iload_n 2, 1) := dX9_inRoom_k44.2.2.2.2.1
theorem dX9_inRoom_56 : decode cX9_inRoom 56 = .ok (.if_icmp .ne 7, 3) := dX9_inRoom_k44.2.2.2.2.2
set_option maxRecDepth 100000 in
theorem dX9_inRoom_k45 : (decode cX9_inRoom 59 = .ok (.iconst 1, 1)) ∧ (decode cX9_inRoom 60 = .ok (.goto 4, 3)) ∧ (decode cX9_inRoom 63 = .ok (.iconst 0, 1)) ∧ (decode cX9_inRoom 64 = .ok (.iadd, 1)) ∧ (decode cX9_inRoom 65 = .ok (.istore 4, 2)) ∧ (decode cX9_inRoom 67 = .ok (.iinc 5 1, 3)) := by decide +kernel
theorem dX9_inRoom_59 : decode cX9_inRoom 59 = .ok (.iconst 1, 1) := dX9_inRoom_k45.1
theorem dX9_inRoom_60 : decode cX9_inRoom 60 = .ok (.goto 4, 3) := dX9_inRoom_k45.2.1
theorem dX9_inRoom_63 : decode cX9_inRoom 63 = .ok (.iconst 0, 1) := dX9_inRoom_k45.2.2.1
theorem dX9_inRoom_64 : decode cX9_inRoom 64 = .ok (.iadd, 1) := dX9_inRoom_k45.2.2.2.1
theorem dX9_inRoom_65 : decode cX9_inRoom 65 = .ok (.istore 4, 2) := dX9_inRoom_k45.2.2.2.2.1
theorem dX9_inRoom_67 : decode cX9_inRoom 67 = .ok (.iinc 5 1, 3) := dX9_inRoom_k45.2.2.2.2.2
set_option maxRecDepth 100000 in
theorem dX9_inRoom_k46 : (decode cX9_inRoom 70 = .ok (.goto (-64), 3)) ∧ (decode cX9_inRoom 73 = .ok (.iload 4, 2)) ∧ (decode cX9_inRoom 75 = .ok (.ireturn, 1)) := by decide +kernel
theorem dX9_inRoom_70 : decode cX9_inRoom 70 = .ok (.goto (-64), 3) := dX9_inRoom_k46.1
theorem dX9_inRoom_73 : decode cX9_inRoom 73 = .ok (.iload 4, 2) := dX9_inRoom_k46.2.1
theorem dX9_inRoom_75 : decode cX9_inRoom 75 = .ok (.ireturn, 1) := dX9_inRoom_k46.2.2
set_option maxRecDepth 100000 in
theorem dX9_room_k47 : (decode cX9_room 0 = .ok (.aload_n 0, 1)) ∧ (decode cX9_room 1 = .ok (.iload_n 1, 1)) ∧ (decode cX9_room 2 = .ok (.invokevirtual 102, 3)) ∧ (decode cX9_room 5 = .ok (.ifCond .ne 5, 3)) ∧ (decode cX9_room 8 = .ok (.iconst (-1), 1)) ∧ (decode cX9_room 9 = .ok (.ireturn, 1)) := by decide +kernel
theorem dX9_room_0 : decode cX9_room 0 = .ok (.aload_n 0, 1) := dX9_room_k47.1
theorem dX9_room_1 : decode cX9_room 1 = .ok (.iload_n 1, 1) := dX9_room_k47.2.1
theorem dX9_room_2 : decode cX9_room 2 = .ok (.invokevirtual 102, 3) := dX9_room_k47.2.2.1
theorem dX9_room_5 : decode cX9_room 5 = .ok (.ifCond .ne 5, 3) := dX9_room_k47.2.2.2.1
theorem dX9_room_8 : decode cX9_room 8 = .ok (.iconst (-1), 1) := dX9_room_k47.2.2.2.2.1
theorem dX9_room_9 : decode cX9_room 9 = .ok (.ireturn, 1) := dX9_room_k47.2.2.2.2.2
set_option maxRecDepth 100000 in
theorem dX9_room_k48 : (decode cX9_room 10 = .ok (.iload_n 2, 1)) ∧ (decode cX9_room 11 = .ok (.iconst 0, 1)) ∧ (decode cX9_room 12 = .ok (.iconst 5, 1)) ∧ (decode cX9_room 13 = .ok (.invokestatic 94, 3)) ∧ (decode cX9_room 16 = .ok (.ifCond .eq 22, 3)) ∧ (decode cX9_room 19 = .ok (.iload_n 3, 1)) := by decide +kernel
theorem dX9_room_10 : decode cX9_room 10 = .ok (.iload_n 2, 1) := dX9_room_k48.1
theorem dX9_room_11 : decode cX9_room 11 = .ok (.iconst 0, 1) := dX9_room_k48.2.1
theorem dX9_room_12 : decode cX9_room 12 = .ok (.iconst 5, 1) := dX9_room_k48.2.2.1
theorem dX9_room_13 : decode cX9_room 13 = .ok (.invokestatic 94, 3) := dX9_room_k48.2.2.2.1
theorem dX9_room_16 : decode cX9_room 16 = .ok (.ifCond .eq 22, 3) := dX9_room_k48.2.2.2.2.1
theorem dX9_room_19 : decode cX9_room 19 = .ok (.iload_n 3, 1) := dX9_room_k48.2.2.2.2.2
set_option maxRecDepth 100000 in
theorem dX9_room_k49 : (decode cX9_room 20 = .ok (.iload_n 2, 1)) ∧ (decode cX9_room 21 = .ok (.iconst 4, 1)) ∧ (decode cX9_room 22 = .ok (.if_icmp .ne 7, 3)) ∧ (decode cX9_room 25 = .ok (.iconst 1, 1)) ∧ (decode cX9_room 26 = .ok (.goto 4, 3)) ∧ (decode cX9_room 29 = .ok (.iconst 0, 1)) := by decide +kernel
theorem dX9_room_20 : decode cX9_room 20 = .ok (.iload_n 2, 1) := dX9_room_k49.1
theorem dX9_room_21 : decode cX9_room 21 = .ok (.iconst 4, 1) := dX9_room_k49.2.1
theorem dX9_room_22 : decode cX9_room 22 = .ok (.if_icmp .ne 7, 3) := dX9_room_k49.2.2.1
theorem dX9_room_25 : decode cX9_room 25 = .ok (.iconst 1, 1) := dX9_room_k49.2.2.2.1
theorem dX9_room_26 : decode cX9_room 26 = .ok (.goto 4, 3) := dX9_room_k49.2.2.2.2.1
theorem dX9_room_29 : decode cX9_room 29 = .ok (.iconst 0, 1) := dX9_room_k49.2.2.2.2.2
set_option maxRecDepth 100000 in
theorem dX9_room_k50 : (decode cX9_room 30 = .ok (.bipush 9, 2)) ∧ (decode cX9_room 32 = .ok (.invokestatic 94, 3)) ∧ (decode cX9_room 35 = .ok (.ifCond .ne 6, 3)) ∧ (decode cX9_room 38 = .ok (.bipush (-2), 2)) ∧ (decode cX9_room 40 = .ok (.ireturn, 1)) ∧ (decode cX9_room 41 = .ok (.iload_n 2, 1)) := by decide +kernel
theorem dX9_room_30 : decode cX9_room 30 = .ok (.bipush 9, 2) := dX9_room_k50.1
theorem dX9_room_32 : decode cX9_room 32 = .ok (.invokestatic 94, 3) := dX9_room_k50.2.1
theorem dX9_room_35 : decode cX9_room 35 = .ok (.ifCond .ne 6, 3) := dX9_room_k50.2.2.1
theorem dX9_room_38 : decode cX9_room 38 = .ok (.bipush (-2), 2) := dX9_room_k50.2.2.2.1
theorem dX9_room_40 : decode cX9_room 40 = .ok (.ireturn, 1) := dX9_room_k50.2.2.2.2.1
theorem dX9_room_41 : decode cX9_room 41 = .ok (.iload_n 2, 1) := dX9_room_k50.2.2.2.2.2
set_option maxRecDepth 100000 in
theorem dX9_room_k51 : (decode cX9_room 42 = .ok (.iconst 4, 1)) ∧ (decode cX9_room 43 = .ok (.if_icmp .ne 15, 3)) ∧ (decode cX9_room 46 = .ok (.aload_n 0, 1)) ∧ (decode cX9_room 47 = .ok (.iload_n 1, 1)) ∧ (decode cX9_room 48 = .ok (.iconst (-1), 1)) ∧ (decode cX9_room 49 = .ok (.bipush (-6), 2)) := by decide +kernel
theorem dX9_room_42 : decode cX9_room 42 = .ok (.iconst 4, 1) := dX9_room_k51.1
theorem dX9_room_43 : decode cX9_room 43 = .ok (.if_icmp .ne 15, 3) := dX9_room_k51.2.1
theorem dX9_room_46 : decode cX9_room 46 = .ok (.aload_n 0, 1) := dX9_room_k51.2.2.1
theorem dX9_room_47 : decode cX9_room 47 = .ok (.iload_n 1, 1) := dX9_room_k51.2.2.2.1
theorem dX9_room_48 : decode cX9_room 48 = .ok (.iconst (-1), 1) := dX9_room_k51.2.2.2.2.1
theorem dX9_room_49 : decode cX9_room 49 = .ok (.bipush (-6), 2) := dX9_room_k51.2.2.2.2.2
set_option maxRecDepth 100000 in
theorem dX9_room_k52 : (decode cX9_room 51 = .ok (.invokevirtual 106, 3)) ∧ (decode cX9_room 54 = .ok (.iload_n 3, 1)) ∧ (decode cX9_room 55 = .ok (.if_icmp .gt 20, 3)) ∧ (decode cX9_room 58 = .ok (.iload_n 2, 1)) ∧ (decode cX9_room 59 = .ok (.iconst 5, 1)) ∧ (decode cX9_room 60 = .ok (.if_icmp .ne 18, 3)) := by decide +kernel
theorem dX9_room_51 : decode cX9_room 51 = .ok (.invokevirtual 106, 3) := dX9_room_k52.1
theorem dX9_room_54 : decode cX9_room 54 = .ok (.iload_n 3, 1) := dX9_room_k52.2.1
theorem dX9_room_55 : decode cX9_room 55 = .ok (.if_icmp .gt 20, 3) := dX9_room_k52.2.2.1
theorem dX9_room_58 : decode cX9_room 58 = .ok (.iload_n 2, 1) := dX9_room_k52.2.2.2.1
theorem dX9_room_59 : decode cX9_room 59 = .ok (.iconst 5, 1) := dX9_room_k52.2.2.2.2.1
theorem dX9_room_60 : decode cX9_room 60 = .ok (.if_icmp .ne 18, 3) := dX9_room_k52.2.2.2.2.2
set_option maxRecDepth 100000 in
theorem dX9_room_k53 : (decode cX9_room 63 = .ok (.aload_n 0, 1)) ∧ (decode cX9_room 64 = .ok (.iload_n 1, 1)) ∧ (decode cX9_room 65 = .ok (.iconst 2, 1)) ∧ (decode cX9_room 66 = .ok (.bipush (-6), 2)) ∧ (decode cX9_room 68 = .ok (.invokevirtual 106, 3)) ∧ (decode cX9_room 71 = .ok (.iload_n 3, 1)) := by decide +kernel
theorem dX9_room_63 : decode cX9_room 63 = .ok (.aload_n 0, 1) := dX9_room_k53.1
theorem dX9_room_64 : decode cX9_room 64 = .ok (.iload_n 1, 1) := dX9_room_k53.2.1
theorem dX9_room_65 : decode cX9_room 65 = .ok (.iconst 2, 1) := dX9_room_k53.2.2.1
theorem dX9_room_66 : decode cX9_room 66 = .ok (.bipush (-6), 2) := dX9_room_k53.2.2.2.1
theorem dX9_room_68 : decode cX9_room 68 = .ok (.invokevirtual 106, 3) := dX9_room_k53.2.2.2.2.1
theorem dX9_room_71 : decode cX9_room 71 = .ok (.iload_n 3, 1) := dX9_room_k53.2.2.2.2.2
set_option maxRecDepth 100000 in
theorem dX9_room_k54 : (decode cX9_room 72 = .ok (.if_icmp .le 6, 3)) ∧ (decode cX9_room 75 = .ok (.bipush (-3), 2)) ∧ (decode cX9_room 77 = .ok (.ireturn, 1)) ∧ (decode cX9_room 78 = .ok (.iload_n 2, 1)) ∧ (decode cX9_room 79 = .ok (.iconst 4, 1)) ∧ (decode cX9_room 80 = .ok (.if_icmp .ge 16, 3)) := by decide +kernel
theorem dX9_room_72 : decode cX9_room 72 = .ok (.if_icmp .le 6, 3) := dX9_room_k54.1
theorem dX9_room_75 : decode cX9_room 75 = .ok (.bipush (-3), 2) := dX9_room_k54.2.1
theorem dX9_room_77 : decode cX9_room 77 = .ok (.ireturn, 1) := dX9_room_k54.2.2.1
theorem dX9_room_78 : decode cX9_room 78 = .ok (.iload_n 2, 1) := dX9_room_k54.2.2.2.1
theorem dX9_room_79 : decode cX9_room 79 = .ok (.iconst 4, 1) := dX9_room_k54.2.2.2.2.1
theorem dX9_room_80 : decode cX9_room 80 = .ok (.if_icmp .ge 16, 3) := dX9_room_k54.2.2.2.2.2
set_option maxRecDepth 100000 in
theorem dX9_room_k55 : (decode cX9_room 83 = .ok (.aload_n 0, 1)) ∧ (decode cX9_room 84 = .ok (.getfield 13, 3)) ∧ (decode cX9_room 87 = .ok (.iconst 4, 1)) ∧ (decode cX9_room 88 = .ok (.iload_n 1, 1)) ∧ (decode cX9_room 89 = .ok (.imul, 1)) ∧ (decode cX9_room 90 = .ok (.iload_n 2, 1)) := by decide +kernel
theorem dX9_room_83 : decode cX9_room 83 = .ok (.aload_n 0, 1) := dX9_room_k55.1
theorem dX9_room_84 : decode cX9_room 84 = .ok (.getfield 13, 3) := dX9_room_k55.2.1
theorem dX9_room_87 : decode cX9_room 87 = .ok (.iconst 4, 1) := dX9_room_k55.2.2.1
theorem dX9_room_88 : decode cX9_room 88 = .ok (.iload_n 1, 1) := dX9_room_k55.2.2.2.1
theorem dX9_room_89 : decode cX9_room 89 = .ok (.imul, 1) := dX9_room_k55.2.2.2.2.1
theorem dX9_room_90 : decode cX9_room 90 = .ok (.iload_n 2, 1) := dX9_room_k55.2.2.2.2.2
set_option maxRecDepth 100000 in
theorem dX9_room_k56 : (decode cX9_room 91 = .ok (.iadd, 1)) ∧ (decode cX9_room 92 = .ok (.iaload, 1)) ∧ (decode cX9_room 93 = .ok (.goto 23, 3)) ∧ (decode cX9_room 96 = .ok (.iload_n 2, 1)) ∧ (decode cX9_room 97 = .ok (.iconst 4, 1)) ∧ (decode cX9_room 98 = .ok (.if_icmp .ne 12, 3)) := by decide +kernel
theorem dX9_room_91 : decode cX9_room 91 = .ok (.iadd, 1) := dX9_room_k56.1
theorem dX9_room_92 : decode cX9_room 92 = .ok (.iaload, 1) := dX9_room_k56.2.1
theorem dX9_room_93 : decode cX9_room 93 = .ok (.goto 23, 3) := dX9_room_k56.2.2.1
theorem dX9_room_96 : decode cX9_room 96 = .ok (.iload_n 2, 1) := dX9_room_k56.2.2.2.1
theorem dX9_room_97 : decode cX9_room 97 = .ok (.iconst 4, 1) := dX9_room_k56.2.2.2.2.1
theorem dX9_room_98 : decode cX9_room 98 = .ok (.if_icmp .ne 12, 3) := dX9_room_k56.2.2.2.2.2
set_option maxRecDepth 100000 in
theorem dX9_room_k57 : (decode cX9_room 101 = .ok (.aload_n 0, 1)) ∧ (decode cX9_room 102 = .ok (.getfield 17, 3)) ∧ (decode cX9_room 105 = .ok (.iload_n 1, 1)) ∧ (decode cX9_room 106 = .ok (.iaload, 1)) ∧ (decode cX9_room 107 = .ok (.goto 9, 3)) ∧ (decode cX9_room 110 = .ok (.aload_n 0, 1)) := by decide +kernel
theorem dX9_room_101 : decode cX9_room 101 = .ok (.aload_n 0, 1) := dX9_room_k57.1
theorem dX9_room_102 : decode cX9_room 102 = .ok (.getfield 17, 3) := dX9_room_k57.2.1
theorem dX9_room_105 : decode cX9_room 105 = .ok (.iload_n 1, 1) := dX9_room_k57.2.2.1
theorem dX9_room_106 : decode cX9_room 106 = .ok (.iaload, 1) := dX9_room_k57.2.2.2.1
theorem dX9_room_107 : decode cX9_room 107 = .ok (.goto 9, 3) := dX9_room_k57.2.2.2.2.1
theorem dX9_room_110 : decode cX9_room 110 = .ok (.aload_n 0, 1) := dX9_room_k57.2.2.2.2.2
set_option maxRecDepth 100000 in
theorem dX9_room_k58 : (decode cX9_room 111 = .ok (.getfield 20, 3)) ∧ (decode cX9_room 114 = .ok (.iload_n 1, 1)) ∧ (decode cX9_room 115 = .ok (.iaload, 1)) ∧ (decode cX9_room 116 = .ok (.istore 4, 2)) ∧ (decode cX9_room 118 = .ok (.iload_n 2, 1)) ∧ (decode cX9_room 119 = .ok (.iconst 4, 1)) := by decide +kernel
theorem dX9_room_111 : decode cX9_room 111 = .ok (.getfield 20, 3) := dX9_room_k58.1
theorem dX9_room_114 : decode cX9_room 114 = .ok (.iload_n 1, 1) := dX9_room_k58.2.1
theorem dX9_room_115 : decode cX9_room 115 = .ok (.iaload, 1) := dX9_room_k58.2.2.1
theorem dX9_room_116 : decode cX9_room 116 = .ok (.istore 4, 2) := dX9_room_k58.2.2.2.1
theorem dX9_room_118 : decode cX9_room 118 = .ok (.iload_n 2, 1) := dX9_room_k58.2.2.2.2.1
theorem dX9_room_119 : decode cX9_room 119 = .ok (.iconst 4, 1) := dX9_room_k58.2.2.2.2.2
set_option maxRecDepth 100000 in
theorem dX9_room_k59 : (decode cX9_room 120 = .ok (.if_icmp .ge 17, 3)) ∧ (decode cX9_room 123 = .ok (.aload_n 0, 1)) ∧ (decode cX9_room 124 = .ok (.getfield 13, 3)) ∧ (decode cX9_room 127 = .ok (.iconst 4, 1)) ∧ (decode cX9_room 128 = .ok (.iload_n 1, 1)) ∧ (decode cX9_room 129 = .ok (.imul, 1)) := by decide +kernel
theorem dX9_room_120 : decode cX9_room 120 = .ok (.if_icmp .ge 17, 3) := dX9_room_k59.1
theorem dX9_room_123 : decode cX9_room 123 = .ok (.aload_n 0, 1) := dX9_room_k59.2.1
theorem dX9_room_124 : decode cX9_room 124 = .ok (.getfield 13, 3) := dX9_room_k59.2.2.1
theorem dX9_room_127 : decode cX9_room 127 = .ok (.iconst 4, 1) := dX9_room_k59.2.2.2.1
theorem dX9_room_128 : decode cX9_room 128 = .ok (.iload_n 1, 1) := dX9_room_k59.2.2.2.2.1
theorem dX9_room_129 : decode cX9_room 129 = .ok (.imul, 1) := dX9_room_k59.2.2.2.2.2
set_option maxRecDepth 100000 in
theorem dX9_room_k60 : (decode cX9_room 130 = .ok (.iload_n 2, 1)) ∧ (decode cX9_room 131 = .ok (.iadd, 1)) ∧ (decode cX9_room 132 = .ok (.iload_n 3, 1)) ∧ (decode cX9_room 133 = .ok (.iastore, 1)) ∧ (decode cX9_room 134 = .ok (.goto 25, 3)) ∧ (decode cX9_room 137 = .ok (.iload_n 2, 1)) := by decide +kernel
theorem dX9_room_130 : decode cX9_room 130 = .ok (.iload_n 2, 1) := dX9_room_k60.1
theorem dX9_room_131 : decode cX9_room 131 = .ok (.iadd, 1) := dX9_room_k60.2.1
theorem dX9_room_132 : decode cX9_room 132 = .ok (.iload_n 3, 1) := dX9_room_k60.2.2.1
theorem dX9_room_133 : decode cX9_room 133 = .ok (.iastore, 1) := dX9_room_k60.2.2.2.1
theorem dX9_room_134 : decode cX9_room 134 = .ok (.goto 25, 3) := dX9_room_k60.2.2.2.2.1
theorem dX9_room_137 : decode cX9_room 137 = .ok (.iload_n 2, 1) := dX9_room_k60.2.2.2.2.2
set_option maxRecDepth 100000 in
theorem dX9_room_k61 : (decode cX9_room 138 = .ok (.iconst 4, 1)) ∧ (decode cX9_room 139 = .ok (.if_icmp .ne 13, 3)) ∧ (decode cX9_room 142 = .ok (.aload_n 0, 1)) ∧ (decode cX9_room 143 = .ok (.getfield 17, 3)) ∧ (decode cX9_room 146 = .ok (.iload_n 1, 1)) ∧ (decode cX9_room 147 = .ok (.iload_n 3, 1)) := by decide +kernel
theorem dX9_room_138 : decode cX9_room 138 = .ok (.iconst 4, 1) := dX9_room_k61.1
theorem dX9_room_139 : decode cX9_room 139 = .ok (.if_icmp .ne 13, 3) := dX9_room_k61.2.1
theorem dX9_room_142 : decode cX9_room 142 = .ok (.aload_n 0, 1) := dX9_room_k61.2.2.1
theorem dX9_room_143 : decode cX9_room 143 = .ok (.getfield 17, 3) := dX9_room_k61.2.2.2.1
theorem dX9_room_146 : decode cX9_room 146 = .ok (.iload_n 1, 1) := dX9_room_k61.2.2.2.2.1
theorem dX9_room_147 : decode cX9_room 147 = .ok (.iload_n 3, 1) := dX9_room_k61.2.2.2.2.2
set_option maxRecDepth 100000 in
theorem dX9_room_k62 : (decode cX9_room 148 = .ok (.iastore, 1)) ∧ (decode cX9_room 149 = .ok (.goto 10, 3)) ∧ (decode cX9_room 152 = .ok (.aload_n 0, 1)) ∧ (decode cX9_room 153 = .ok (.getfield 20, 3)) ∧ (decode cX9_room 156 = .ok (.iload_n 1, 1)) ∧ (decode cX9_room 157 = .ok (.iload_n 3, 1)) := by decide +kernel
theorem dX9_room_148 : decode cX9_room 148 = .ok (.iastore, 1) := dX9_room_k62.1
theorem dX9_room_149 : decode cX9_room 149 = .ok (.goto 10, 3) := dX9_room_k62.2.1
theorem dX9_room_152 : decode cX9_room 152 = .ok (.aload_n 0, 1) := dX9_room_k62.2.2.1
theorem dX9_room_153 : decode cX9_room 153 = .ok (.getfield 20, 3) := dX9_room_k62.2.2.2.1
theorem dX9_room_156 : decode cX9_room 156 = .ok (.iload_n 1, 1) := dX9_room_k62.2.2.2.2.1
theorem dX9_room_157 : decode cX9_room 157 = .ok (.iload_n 3, 1) := dX9_room_k62.2.2.2.2.2
set_option maxRecDepth 100000 in
theorem dX9_room_k63 : (decode cX9_room 158 = .ok (.iastore, 1)) ∧ (decode cX9_room 159 = .ok (.iload 4, 2)) ∧ (decode cX9_room 161 = .ok (.ireturn, 1)) := by decide +kernel
theorem dX9_room_158 : decode cX9_room 158 = .ok (.iastore, 1) := dX9_room_k63.1
theorem dX9_room_159 : decode cX9_room 159 = .ok (.iload 4, 2) := dX9_room_k63.2.1
theorem dX9_room_161 : decode cX9_room 161 = .ok (.ireturn, 1) := dX9_room_k63.2.2
set_option maxRecDepth 100000 in
theorem dX9_standsIn_k64 : (decode cX9_standsIn 0 = .ok (.aload_n 0, 1)) ∧ (decode cX9_standsIn 1 = .ok (.getfield 88, 3)) ∧ (decode cX9_standsIn 4 = .ok (.iload_n 1, 1)) ∧ (decode cX9_standsIn 5 = .ok (.invokestatic 98, 3)) ∧ (decode cX9_standsIn 8 = .ok (.ifCond .eq 57, 3)) ∧ (decode cX9_standsIn 11 = .ok (.aload_n 0, 1)) := by decide +kernel
theorem dX9_standsIn_0 : decode cX9_standsIn 0 = .ok (.aload_n 0, 1) := dX9_standsIn_k64.1
theorem dX9_standsIn_1 : decode cX9_standsIn 1 = .ok (.getfield 88, 3) := dX9_standsIn_k64.2.1
theorem dX9_standsIn_4 : decode cX9_standsIn 4 = .ok (.iload_n 1, 1) := dX9_standsIn_k64.2.2.1
theorem dX9_standsIn_5 : decode cX9_standsIn 5 = .ok (.invokestatic 98, 3) := dX9_standsIn_k64.2.2.2.1
theorem dX9_standsIn_8 : decode cX9_standsIn 8 = .ok (.ifCond .eq 57, 3) := dX9_standsIn_k64.2.2.2.2.1
theorem dX9_standsIn_11 : decode cX9_standsIn 11 = .ok (.aload_n 0, 1) := dX9_standsIn_k64.2.2.2.2.2
set_option maxRecDepth 100000 in
theorem dX9_standsIn_k65 : (decode cX9_standsIn 12 = .ok (.getfield 32, 3)) ∧ (decode cX9_standsIn 15 = .ok (.iload_n 1, 1)) ∧ (decode cX9_standsIn 16 = .ok (.iaload, 1)) ∧ (decode cX9_standsIn 17 = .ok (.iconst 3, 1)) ∧ (decode cX9_standsIn 18 = .ok (.if_icmp .ne 47, 3)) ∧ (decode cX9_standsIn 21 = .ok (.aload_n 0, 1)) := by decide +kernel
theorem dX9_standsIn_12 : decode cX9_standsIn 12 = .ok (.getfield 32, 3) := dX9_standsIn_k65.1
theorem dX9_standsIn_15 : decode cX9_standsIn 15 = .ok (.iload_n 1, 1) := dX9_standsIn_k65.2.1
theorem dX9_standsIn_16 : decode cX9_standsIn 16 = .ok (.iaload, 1) := dX9_standsIn_k65.2.2.1
theorem dX9_standsIn_17 : decode cX9_standsIn 17 = .ok (.iconst 3, 1) := dX9_standsIn_k65.2.2.2.1
theorem dX9_standsIn_18 : decode cX9_standsIn 18 = .ok (.if_icmp .ne 47, 3) := dX9_standsIn_k65.2.2.2.2.1
theorem dX9_standsIn_21 : decode cX9_standsIn 21 = .ok (.aload_n 0, 1) := dX9_standsIn_k65.2.2.2.2.2
set_option maxRecDepth 100000 in
theorem dX9_standsIn_k66 : (decode cX9_standsIn 22 = .ok (.getfield 29, 3)) ∧ (decode cX9_standsIn 25 = .ok (.iload_n 1, 1)) ∧ (decode cX9_standsIn 26 = .ok (.iaload, 1)) ∧ (decode cX9_standsIn 27 = .ok (.iload_n 2, 1)) ∧ (decode cX9_standsIn 28 = .ok (.if_icmp .ne 13, 3)) ∧ (decode cX9_standsIn 31 = .ok (.aload_n 0, 1)) := by decide +kernel
theorem dX9_standsIn_22 : decode cX9_standsIn 22 = .ok (.getfield 29, 3) := dX9_standsIn_k66.1
theorem dX9_standsIn_25 : decode cX9_standsIn 25 = .ok (.iload_n 1, 1) := dX9_standsIn_k66.2.1
theorem dX9_standsIn_26 : decode cX9_standsIn 26 = .ok (.iaload, 1) := dX9_standsIn_k66.2.2.1
theorem dX9_standsIn_27 : decode cX9_standsIn 27 = .ok (.iload_n 2, 1) := dX9_standsIn_k66.2.2.2.1
theorem dX9_standsIn_28 : decode cX9_standsIn 28 = .ok (.if_icmp .ne 13, 3) := dX9_standsIn_k66.2.2.2.2.1
theorem dX9_standsIn_31 : decode cX9_standsIn 31 = .ok (.aload_n 0, 1) := dX9_standsIn_k66.2.2.2.2.2
set_option maxRecDepth 100000 in
theorem dX9_standsIn_k67 : (decode cX9_standsIn 32 = .ok (.getfield 35, 3)) ∧ (decode cX9_standsIn 35 = .ok (.iload_n 1, 1)) ∧ (decode cX9_standsIn 36 = .ok (.iaload, 1)) ∧ (decode cX9_standsIn 37 = .ok (.iload_n 3, 1)) ∧ (decode cX9_standsIn 38 = .ok (.if_icmp .eq 23, 3)) ∧ (decode cX9_standsIn 41 = .ok (.aload_n 0, 1)) := by decide +kernel
theorem dX9_standsIn_32 : decode cX9_standsIn 32 = .ok (.getfield 35, 3) := dX9_standsIn_k67.1
theorem dX9_standsIn_35 : decode cX9_standsIn 35 = .ok (.iload_n 1, 1) := dX9_standsIn_k67.2.1
theorem dX9_standsIn_36 : decode cX9_standsIn 36 = .ok (.iaload, 1) := dX9_standsIn_k67.2.2.1
theorem dX9_standsIn_37 : decode cX9_standsIn 37 = .ok (.iload_n 3, 1) := dX9_standsIn_k67.2.2.2.1
theorem dX9_standsIn_38 : decode cX9_standsIn 38 = .ok (.if_icmp .eq 23, 3) := dX9_standsIn_k67.2.2.2.2.1
theorem dX9_standsIn_41 : decode cX9_standsIn 41 = .ok (.aload_n 0, 1) := dX9_standsIn_k67.2.2.2.2.2
set_option maxRecDepth 100000 in
theorem dX9_standsIn_k68 : (decode cX9_standsIn 42 = .ok (.getfield 29, 3)) ∧ (decode cX9_standsIn 45 = .ok (.iload_n 1, 1)) ∧ (decode cX9_standsIn 46 = .ok (.iaload, 1)) ∧ (decode cX9_standsIn 47 = .ok (.iload_n 3, 1)) ∧ (decode cX9_standsIn 48 = .ok (.if_icmp .ne 17, 3)) ∧ (decode cX9_standsIn 51 = .ok (.aload_n 0, 1)) := by decide +kernel
theorem dX9_standsIn_42 : decode cX9_standsIn 42 = .ok (.getfield 29, 3) := dX9_standsIn_k68.1
theorem dX9_standsIn_45 : decode cX9_standsIn 45 = .ok (.iload_n 1, 1) := dX9_standsIn_k68.2.1
theorem dX9_standsIn_46 : decode cX9_standsIn 46 = .ok (.iaload, 1) := dX9_standsIn_k68.2.2.1
theorem dX9_standsIn_47 : decode cX9_standsIn 47 = .ok (.iload_n 3, 1) := dX9_standsIn_k68.2.2.2.1
theorem dX9_standsIn_48 : decode cX9_standsIn 48 = .ok (.if_icmp .ne 17, 3) := dX9_standsIn_k68.2.2.2.2.1
theorem dX9_standsIn_51 : decode cX9_standsIn 51 = .ok (.aload_n 0, 1) := dX9_standsIn_k68.2.2.2.2.2
set_option maxRecDepth 100000 in
theorem dX9_standsIn_k69 : (decode cX9_standsIn 52 = .ok (.getfield 35, 3)) ∧ (decode cX9_standsIn 55 = .ok (.iload_n 1, 1)) ∧ (decode cX9_standsIn 56 = .ok (.iaload, 1)) ∧ (decode cX9_standsIn 57 = .ok (.iload_n 2, 1)) ∧ (decode cX9_standsIn 58 = .ok (.if_icmp .ne 7, 3)) ∧ (decode cX9_standsIn 61 = .ok (.iconst 1, 1)) := by decide +kernel
theorem dX9_standsIn_52 : decode cX9_standsIn 52 = .ok (.getfield 35, 3) := dX9_standsIn_k69.1
theorem dX9_standsIn_55 : decode cX9_standsIn 55 = .ok (.iload_n 1, 1) := dX9_standsIn_k69.2.1
theorem dX9_standsIn_56 : decode cX9_standsIn 56 = .ok (.iaload, 1) := dX9_standsIn_k69.2.2.1
theorem dX9_standsIn_57 : decode cX9_standsIn 57 = .ok (.iload_n 2, 1) := dX9_standsIn_k69.2.2.2.1
theorem dX9_standsIn_58 : decode cX9_standsIn 58 = .ok (.if_icmp .ne 7, 3) := dX9_standsIn_k69.2.2.2.2.1
theorem dX9_standsIn_61 : decode cX9_standsIn 61 = .ok (.iconst 1, 1) := dX9_standsIn_k69.2.2.2.2.2
set_option maxRecDepth 100000 in
theorem dX9_standsIn_k70 : (decode cX9_standsIn 62 = .ok (.goto 4, 3)) ∧ (decode cX9_standsIn 65 = .ok (.iconst 0, 1)) ∧ (decode cX9_standsIn 66 = .ok (.ireturn, 1)) := by decide +kernel
theorem dX9_standsIn_62 : decode cX9_standsIn 62 = .ok (.goto 4, 3) := dX9_standsIn_k70.1
theorem dX9_standsIn_65 : decode cX9_standsIn 65 = .ok (.iconst 0, 1) := dX9_standsIn_k70.2.1
theorem dX9_standsIn_66 : decode cX9_standsIn 66 = .ok (.ireturn, 1) := dX9_standsIn_k70.2.2
set_option maxRecDepth 100000 in
theorem dX9_door_k71 : (decode cX9_door 0 = .ok (.aload_n 0, 1)) ∧ (decode cX9_door 1 = .ok (.iload_n 1, 1)) ∧ (decode cX9_door 2 = .ok (.invokevirtual 102, 3)) ∧ (decode cX9_door 5 = .ok (.ifCond .eq 16, 3)) ∧ (decode cX9_door 8 = .ok (.aload_n 0, 1)) ∧ (decode cX9_door 9 = .ok (.iload_n 2, 1)) := by decide +kernel
theorem dX9_door_0 : decode cX9_door 0 = .ok (.aload_n 0, 1) := dX9_door_k71.1
theorem dX9_door_1 : decode cX9_door 1 = .ok (.iload_n 1, 1) := dX9_door_k71.2.1
theorem dX9_door_2 : decode cX9_door 2 = .ok (.invokevirtual 102, 3) := dX9_door_k71.2.2.1
theorem dX9_door_5 : decode cX9_door 5 = .ok (.ifCond .eq 16, 3) := dX9_door_k71.2.2.2.1
theorem dX9_door_8 : decode cX9_door 8 = .ok (.aload_n 0, 1) := dX9_door_k71.2.2.2.2.1
theorem dX9_door_9 : decode cX9_door 9 = .ok (.iload_n 2, 1) := dX9_door_k71.2.2.2.2.2
set_option maxRecDepth 100000 in
theorem dX9_door_k72 : (decode cX9_door 10 = .ok (.invokevirtual 102, 3)) ∧ (decode cX9_door 13 = .ok (.ifCond .eq 8, 3)) ∧ (decode cX9_door 16 = .ok (.iload_n 1, 1)) ∧ (decode cX9_door 17 = .ok (.iload_n 2, 1)) ∧ (decode cX9_door 18 = .ok (.if_icmp .ne 5, 3)) ∧ (decode cX9_door 21 = .ok (.iconst (-1), 1)) := by decide +kernel
theorem dX9_door_10 : decode cX9_door 10 = .ok (.invokevirtual 102, 3) := dX9_door_k72.1
theorem dX9_door_13 : decode cX9_door 13 = .ok (.ifCond .eq 8, 3) := dX9_door_k72.2.1
theorem dX9_door_16 : decode cX9_door 16 = .ok (.iload_n 1, 1) := dX9_door_k72.2.2.1
theorem dX9_door_17 : decode cX9_door 17 = .ok (.iload_n 2, 1) := dX9_door_k72.2.2.2.1
theorem dX9_door_18 : decode cX9_door 18 = .ok (.if_icmp .ne 5, 3) := dX9_door_k72.2.2.2.2.1
theorem dX9_door_21 : decode cX9_door 21 = .ok (.iconst (-1), 1) := dX9_door_k72.2.2.2.2.2
set_option maxRecDepth 100000 in
theorem dX9_door_k73 : (decode cX9_door 22 = .ok (.ireturn, 1)) ∧ (decode cX9_door 23 = .ok (.iload_n 3, 1)) ∧ (decode cX9_door 24 = .ok (.iconst 0, 1)) ∧ (decode cX9_door 25 = .ok (.iconst 3, 1)) ∧ (decode cX9_door 26 = .ok (.invokestatic 94, 3)) ∧ (decode cX9_door 29 = .ok (.ifCond .ne 6, 3)) := by decide +kernel
theorem dX9_door_22 : decode cX9_door 22 = .ok (.ireturn, 1) := dX9_door_k73.1
theorem dX9_door_23 : decode cX9_door 23 = .ok (.iload_n 3, 1) := dX9_door_k73.2.1
theorem dX9_door_24 : decode cX9_door 24 = .ok (.iconst 0, 1) := dX9_door_k73.2.2.1
theorem dX9_door_25 : decode cX9_door 25 = .ok (.iconst 3, 1) := dX9_door_k73.2.2.2.1
theorem dX9_door_26 : decode cX9_door 26 = .ok (.invokestatic 94, 3) := dX9_door_k73.2.2.2.2.1
theorem dX9_door_29 : decode cX9_door 29 = .ok (.ifCond .ne 6, 3) := dX9_door_k73.2.2.2.2.2
set_option maxRecDepth 100000 in
theorem dX9_door_k74 : (decode cX9_door 32 = .ok (.bipush (-2), 2)) ∧ (decode cX9_door 34 = .ok (.ireturn, 1)) ∧ (decode cX9_door 35 = .ok (.iconst 0, 1)) ∧ (decode cX9_door 36 = .ok (.istore 4, 2)) ∧ (decode cX9_door 38 = .ok (.iload 4, 2)) ∧ (decode cX9_door 40 = .ok (.bipush 8, 2)) := by decide +kernel
theorem dX9_door_32 : decode cX9_door 32 = .ok (.bipush (-2), 2) := dX9_door_k74.1
theorem dX9_door_34 : decode cX9_door 34 = .ok (.ireturn, 1) := dX9_door_k74.2.1
theorem dX9_door_35 : decode cX9_door 35 = .ok (.iconst 0, 1) := dX9_door_k74.2.2.1
theorem dX9_door_36 : decode cX9_door 36 = .ok (.istore 4, 2) := dX9_door_k74.2.2.2.1
theorem dX9_door_38 : decode cX9_door 38 = .ok (.iload 4, 2) := dX9_door_k74.2.2.2.2.1
theorem dX9_door_40 : decode cX9_door 40 = .ok (.bipush 8, 2) := dX9_door_k74.2.2.2.2.2
set_option maxRecDepth 100000 in
theorem dX9_door_k75 : (decode cX9_door 42 = .ok (.if_icmp .ge 27, 3)) ∧ (decode cX9_door 45 = .ok (.iload_n 3, 1)) ∧ (decode cX9_door 46 = .ok (.ifCond .ne 17, 3)) ∧ (decode cX9_door 49 = .ok (.aload_n 0, 1)) ∧ (decode cX9_door 50 = .ok (.iload 4, 2)) ∧ (decode cX9_door 52 = .ok (.iload_n 1, 1)) := by decide +kernel
theorem dX9_door_42 : decode cX9_door 42 = .ok (.if_icmp .ge 27, 3) := dX9_door_k75.1
theorem dX9_door_45 : decode cX9_door 45 = .ok (.iload_n 3, 1) := dX9_door_k75.2.1
theorem dX9_door_46 : decode cX9_door 46 = .ok (.ifCond .ne 17, 3) := dX9_door_k75.2.2.1
theorem dX9_door_49 : decode cX9_door 49 = .ok (.aload_n 0, 1) := dX9_door_k75.2.2.2.1
theorem dX9_door_50 : decode cX9_door 50 = .ok (.iload 4, 2) := dX9_door_k75.2.2.2.2.1
theorem dX9_door_52 : decode cX9_door 52 = .ok (.iload_n 1, 1) := dX9_door_k75.2.2.2.2.2
set_option maxRecDepth 100000 in
theorem dX9_door_k76 : (decode cX9_door 53 = .ok (.iload_n 2, 1)) ∧ (decode cX9_door 54 = .ok (.invokevirtual 110, 3)) ∧ (decode cX9_door 57 = .ok (.ifCond .eq 6, 3)) ∧ (decode cX9_door 60 = .ok (.bipush (-3), 2)) ∧ (decode cX9_door 62 = .ok (.ireturn, 1)) ∧ (decode cX9_door 63 = .ok (.iinc 4 1, 3)) := by decide +kernel
theorem dX9_door_53 : decode cX9_door 53 = .ok (.iload_n 2, 1) := dX9_door_k76.1
theorem dX9_door_54 : decode cX9_door 54 = .ok (.invokevirtual 110, 3) := dX9_door_k76.2.1
theorem dX9_door_57 : decode cX9_door 57 = .ok (.ifCond .eq 6, 3) := dX9_door_k76.2.2.1
theorem dX9_door_60 : decode cX9_door 60 = .ok (.bipush (-3), 2) := dX9_door_k76.2.2.2.1
theorem dX9_door_62 : decode cX9_door 62 = .ok (.ireturn, 1) := dX9_door_k76.2.2.2.2.1
theorem dX9_door_63 : decode cX9_door 63 = .ok (.iinc 4 1, 3) := dX9_door_k76.2.2.2.2.2
set_option maxRecDepth 100000 in
theorem dX9_door_k77 : (decode cX9_door 66 = .ok (.goto (-28), 3)) ∧ (decode cX9_door 69 = .ok (.aload_n 0, 1)) ∧ (decode cX9_door 70 = .ok (.getfield 23, 3)) ∧ (decode cX9_door 73 = .ok (.bipush 6, 2)) ∧ (decode cX9_door 75 = .ok (.iload_n 1, 1)) ∧ (decode cX9_door 76 = .ok (.imul, 1)) := by decide +kernel
theorem dX9_door_66 : decode cX9_door 66 = .ok (.goto (-28), 3) := dX9_door_k77.1
theorem dX9_door_69 : decode cX9_door 69 = .ok (.aload_n 0, 1) := dX9_door_k77.2.1
theorem dX9_door_70 : decode cX9_door 70 = .ok (.getfield 23, 3) := dX9_door_k77.2.2.1
theorem dX9_door_73 : decode cX9_door 73 = .ok (.bipush 6, 2) := dX9_door_k77.2.2.2.1
theorem dX9_door_75 : decode cX9_door 75 = .ok (.iload_n 1, 1) := dX9_door_k77.2.2.2.2.1
theorem dX9_door_76 : decode cX9_door 76 = .ok (.imul, 1) := dX9_door_k77.2.2.2.2.2
set_option maxRecDepth 100000 in
theorem dX9_door_k78 : (decode cX9_door 77 = .ok (.iload_n 2, 1)) ∧ (decode cX9_door 78 = .ok (.iadd, 1)) ∧ (decode cX9_door 79 = .ok (.iaload, 1)) ∧ (decode cX9_door 80 = .ok (.istore 4, 2)) ∧ (decode cX9_door 82 = .ok (.aload_n 0, 1)) ∧ (decode cX9_door 83 = .ok (.getfield 23, 3)) := by decide +kernel
theorem dX9_door_77 : decode cX9_door 77 = .ok (.iload_n 2, 1) := dX9_door_k78.1
theorem dX9_door_78 : decode cX9_door 78 = .ok (.iadd, 1) := dX9_door_k78.2.1
theorem dX9_door_79 : decode cX9_door 79 = .ok (.iaload, 1) := dX9_door_k78.2.2.1
theorem dX9_door_80 : decode cX9_door 80 = .ok (.istore 4, 2) := dX9_door_k78.2.2.2.1
theorem dX9_door_82 : decode cX9_door 82 = .ok (.aload_n 0, 1) := dX9_door_k78.2.2.2.2.1
theorem dX9_door_83 : decode cX9_door 83 = .ok (.getfield 23, 3) := dX9_door_k78.2.2.2.2.2
set_option maxRecDepth 100000 in
theorem dX9_door_k79 : (decode cX9_door 86 = .ok (.bipush 6, 2)) ∧ (decode cX9_door 88 = .ok (.iload_n 1, 1)) ∧ (decode cX9_door 89 = .ok (.imul, 1)) ∧ (decode cX9_door 90 = .ok (.iload_n 2, 1)) ∧ (decode cX9_door 91 = .ok (.iadd, 1)) ∧ (decode cX9_door 92 = .ok (.iload_n 3, 1)) := by decide +kernel
theorem dX9_door_86 : decode cX9_door 86 = .ok (.bipush 6, 2) := dX9_door_k79.1
theorem dX9_door_88 : decode cX9_door 88 = .ok (.iload_n 1, 1) := dX9_door_k79.2.1
theorem dX9_door_89 : decode cX9_door 89 = .ok (.imul, 1) := dX9_door_k79.2.2.1
theorem dX9_door_90 : decode cX9_door 90 = .ok (.iload_n 2, 1) := dX9_door_k79.2.2.2.1
theorem dX9_door_91 : decode cX9_door 91 = .ok (.iadd, 1) := dX9_door_k79.2.2.2.2.1
theorem dX9_door_92 : decode cX9_door 92 = .ok (.iload_n 3, 1) := dX9_door_k79.2.2.2.2.2
set_option maxRecDepth 100000 in
theorem dX9_door_k80 : (decode cX9_door 93 = .ok (.iastore, 1)) ∧ (decode cX9_door 94 = .ok (.aload_n 0, 1)) ∧ (decode cX9_door 95 = .ok (.getfield 23, 3)) ∧ (decode cX9_door 98 = .ok (.bipush 6, 2)) ∧ (decode cX9_door 100 = .ok (.iload_n 2, 1)) ∧ (decode cX9_door 101 = .ok (.imul, 1)) := by decide +kernel
theorem dX9_door_93 : decode cX9_door 93 = .ok (.iastore, 1) := dX9_door_k80.1
theorem dX9_door_94 : decode cX9_door 94 = .ok (.aload_n 0, 1) := dX9_door_k80.2.1
theorem dX9_door_95 : decode cX9_door 95 = .ok (.getfield 23, 3) := dX9_door_k80.2.2.1
theorem dX9_door_98 : decode cX9_door 98 = .ok (.bipush 6, 2) := dX9_door_k80.2.2.2.1
theorem dX9_door_100 : decode cX9_door 100 = .ok (.iload_n 2, 1) := dX9_door_k80.2.2.2.2.1
theorem dX9_door_101 : decode cX9_door 101 = .ok (.imul, 1) := dX9_door_k80.2.2.2.2.2
set_option maxRecDepth 100000 in
theorem dX9_door_k81 : (decode cX9_door 102 = .ok (.iload_n 1, 1)) ∧ (decode cX9_door 103 = .ok (.iadd, 1)) ∧ (decode cX9_door 104 = .ok (.iload_n 3, 1)) ∧ (decode cX9_door 105 = .ok (.iastore, 1)) ∧ (decode cX9_door 106 = .ok (.iload 4, 2)) ∧ (decode cX9_door 108 = .ok (.ireturn, 1)) := by decide +kernel
theorem dX9_door_102 : decode cX9_door 102 = .ok (.iload_n 1, 1) := dX9_door_k81.1
theorem dX9_door_103 : decode cX9_door 103 = .ok (.iadd, 1) := dX9_door_k81.2.1
theorem dX9_door_104 : decode cX9_door 104 = .ok (.iload_n 3, 1) := dX9_door_k81.2.2.1
theorem dX9_door_105 : decode cX9_door 105 = .ok (.iastore, 1) := dX9_door_k81.2.2.2.1
theorem dX9_door_106 : decode cX9_door 106 = .ok (.iload 4, 2) := dX9_door_k81.2.2.2.2.1
theorem dX9_door_108 : decode cX9_door 108 = .ok (.ireturn, 1) := dX9_door_k81.2.2.2.2.2
set_option maxRecDepth 100000 in
theorem dX9_leaveOff_k82 : (decode cX9_leaveOff 0 = .ok (.aload_n 0, 1)) ∧ (decode cX9_leaveOff 1 = .ok (.getfield 88, 3)) ∧ (decode cX9_leaveOff 4 = .ok (.iload_n 1, 1)) ∧ (decode cX9_leaveOff 5 = .ok (.invokestatic 98, 3)) ∧ (decode cX9_leaveOff 8 = .ok (.ifCond .eq 37, 3)) ∧ (decode cX9_leaveOff 11 = .ok (.aload_n 0, 1)) := by decide +kernel
theorem dX9_leaveOff_0 : decode cX9_leaveOff 0 = .ok (.aload_n 0, 1) := dX9_leaveOff_k82.1
theorem dX9_leaveOff_1 : decode cX9_leaveOff 1 = .ok (.getfield 88, 3) := dX9_leaveOff_k82.2.1
theorem dX9_leaveOff_4 : decode cX9_leaveOff 4 = .ok (.iload_n 1, 1) := dX9_leaveOff_k82.2.2.1
theorem dX9_leaveOff_5 : decode cX9_leaveOff 5 = .ok (.invokestatic 98, 3) := dX9_leaveOff_k82.2.2.2.1
theorem dX9_leaveOff_8 : decode cX9_leaveOff 8 = .ok (.ifCond .eq 37, 3) := dX9_leaveOff_k82.2.2.2.2.1
theorem dX9_leaveOff_11 : decode cX9_leaveOff 11 = .ok (.aload_n 0, 1) := dX9_leaveOff_k82.2.2.2.2.2
set_option maxRecDepth 100000 in
theorem dX9_leaveOff_k83 : (decode cX9_leaveOff 12 = .ok (.getfield 32, 3)) ∧ (decode cX9_leaveOff 15 = .ok (.iload_n 1, 1)) ∧ (decode cX9_leaveOff 16 = .ok (.iaload, 1)) ∧ (decode cX9_leaveOff 17 = .ok (.iconst 1, 1)) ∧ (decode cX9_leaveOff 18 = .ok (.if_icmp .ne 27, 3)) ∧ (decode cX9_leaveOff 21 = .ok (.aload_n 0, 1)) := by decide +kernel
theorem dX9_leaveOff_12 : decode cX9_leaveOff 12 = .ok (.getfield 32, 3) := dX9_leaveOff_k83.1
theorem dX9_leaveOff_15 : decode cX9_leaveOff 15 = .ok (.iload_n 1, 1) := dX9_leaveOff_k83.2.1
theorem dX9_leaveOff_16 : decode cX9_leaveOff 16 = .ok (.iaload, 1) := dX9_leaveOff_k83.2.2.1
theorem dX9_leaveOff_17 : decode cX9_leaveOff 17 = .ok (.iconst 1, 1) := dX9_leaveOff_k83.2.2.2.1
theorem dX9_leaveOff_18 : decode cX9_leaveOff 18 = .ok (.if_icmp .ne 27, 3) := dX9_leaveOff_k83.2.2.2.2.1
theorem dX9_leaveOff_21 : decode cX9_leaveOff 21 = .ok (.aload_n 0, 1) := dX9_leaveOff_k83.2.2.2.2.2
set_option maxRecDepth 100000 in
theorem dX9_leaveOff_k84 : (decode cX9_leaveOff 22 = .ok (.getfield 32, 3)) ∧ (decode cX9_leaveOff 25 = .ok (.aload_n 0, 1)) ∧ (decode cX9_leaveOff 26 = .ok (.getfield 35, 3)) ∧ (decode cX9_leaveOff 29 = .ok (.iload_n 1, 1)) ∧ (decode cX9_leaveOff 30 = .ok (.iaload, 1)) ∧ (decode cX9_leaveOff 31 = .ok (.iconst 0, 1)) := by decide +kernel
theorem dX9_leaveOff_22 : decode cX9_leaveOff 22 = .ok (.getfield 32, 3) := dX9_leaveOff_k84.1
theorem dX9_leaveOff_25 : decode cX9_leaveOff 25 = .ok (.aload_n 0, 1) := dX9_leaveOff_k84.2.1
theorem dX9_leaveOff_26 : decode cX9_leaveOff 26 = .ok (.getfield 35, 3) := dX9_leaveOff_k84.2.2.1
theorem dX9_leaveOff_29 : decode cX9_leaveOff 29 = .ok (.iload_n 1, 1) := dX9_leaveOff_k84.2.2.2.1
theorem dX9_leaveOff_30 : decode cX9_leaveOff 30 = .ok (.iaload, 1) := dX9_leaveOff_k84.2.2.2.2.1
theorem dX9_leaveOff_31 : decode cX9_leaveOff 31 = .ok (.iconst 0, 1) := dX9_leaveOff_k84.2.2.2.2.2
set_option maxRecDepth 100000 in
theorem dX9_leaveOff_k85 : (decode cX9_leaveOff 32 = .ok (.iastore, 1)) ∧ (decode cX9_leaveOff 33 = .ok (.aload_n 0, 1)) ∧ (decode cX9_leaveOff 34 = .ok (.getfield 38, 3)) ∧ (decode cX9_leaveOff 37 = .ok (.aload_n 0, 1)) ∧ (decode cX9_leaveOff 38 = .ok (.getfield 35, 3)) ∧ (decode cX9_leaveOff 41 = .ok (.iload_n 1, 1)) := by decide +kernel
theorem dX9_leaveOff_32 : decode cX9_leaveOff 32 = .ok (.iastore, 1) := dX9_leaveOff_k85.1
theorem dX9_leaveOff_33 : decode cX9_leaveOff 33 = .ok (.aload_n 0, 1) := dX9_leaveOff_k85.2.1
theorem dX9_leaveOff_34 : decode cX9_leaveOff 34 = .ok (.getfield 38, 3) := dX9_leaveOff_k85.2.2.1
theorem dX9_leaveOff_37 : decode cX9_leaveOff 37 = .ok (.aload_n 0, 1) := dX9_leaveOff_k85.2.2.2.1
theorem dX9_leaveOff_38 : decode cX9_leaveOff 38 = .ok (.getfield 35, 3) := dX9_leaveOff_k85.2.2.2.2.1
theorem dX9_leaveOff_41 : decode cX9_leaveOff 41 = .ok (.iload_n 1, 1) := dX9_leaveOff_k85.2.2.2.2.2
set_option maxRecDepth 100000 in
theorem dX9_leaveOff_k86 : (decode cX9_leaveOff 42 = .ok (.iaload, 1)) ∧ (decode cX9_leaveOff 43 = .ok (.iconst 0, 1)) ∧ (decode cX9_leaveOff 44 = .ok (.iastore, 1)) ∧ (decode cX9_leaveOff 45 = .ok (.aload_n 0, 1)) ∧ (decode cX9_leaveOff 46 = .ok (.getfield 32, 3)) ∧ (decode cX9_leaveOff 49 = .ok (.iload_n 1, 1)) := by decide +kernel
theorem dX9_leaveOff_42 : decode cX9_leaveOff 42 = .ok (.iaload, 1) := dX9_leaveOff_k86.1
theorem dX9_leaveOff_43 : decode cX9_leaveOff 43 = .ok (.iconst 0, 1) := dX9_leaveOff_k86.2.1
theorem dX9_leaveOff_44 : decode cX9_leaveOff 44 = .ok (.iastore, 1) := dX9_leaveOff_k86.2.2.1
theorem dX9_leaveOff_45 : decode cX9_leaveOff 45 = .ok (.aload_n 0, 1) := dX9_leaveOff_k86.2.2.2.1
theorem dX9_leaveOff_46 : decode cX9_leaveOff 46 = .ok (.getfield 32, 3) := dX9_leaveOff_k86.2.2.2.2.1
theorem dX9_leaveOff_49 : decode cX9_leaveOff 49 = .ok (.iload_n 1, 1) := dX9_leaveOff_k86.2.2.2.2.2
set_option maxRecDepth 100000 in
theorem dX9_leaveOff_k87 : (decode cX9_leaveOff 50 = .ok (.iconst 0, 1)) ∧ (decode cX9_leaveOff 51 = .ok (.iastore, 1)) ∧ (decode cX9_leaveOff 52 = .ok (.aload_n 0, 1)) ∧ (decode cX9_leaveOff 53 = .ok (.getfield 38, 3)) ∧ (decode cX9_leaveOff 56 = .ok (.iload_n 1, 1)) ∧ (decode cX9_leaveOff 57 = .ok (.iconst 0, 1)) := by decide +kernel
theorem dX9_leaveOff_50 : decode cX9_leaveOff 50 = .ok (.iconst 0, 1) := dX9_leaveOff_k87.1
theorem dX9_leaveOff_51 : decode cX9_leaveOff 51 = .ok (.iastore, 1) := dX9_leaveOff_k87.2.1
theorem dX9_leaveOff_52 : decode cX9_leaveOff 52 = .ok (.aload_n 0, 1) := dX9_leaveOff_k87.2.2.1
theorem dX9_leaveOff_53 : decode cX9_leaveOff 53 = .ok (.getfield 38, 3) := dX9_leaveOff_k87.2.2.2.1
theorem dX9_leaveOff_56 : decode cX9_leaveOff 56 = .ok (.iload_n 1, 1) := dX9_leaveOff_k87.2.2.2.2.1
theorem dX9_leaveOff_57 : decode cX9_leaveOff 57 = .ok (.iconst 0, 1) := dX9_leaveOff_k87.2.2.2.2.2
set_option maxRecDepth 100000 in
theorem dX9_leaveOff_k88 : (decode cX9_leaveOff 58 = .ok (.iastore, 1)) ∧ (decode cX9_leaveOff 59 = .ok (.return_, 1)) := by decide +kernel
theorem dX9_leaveOff_58 : decode cX9_leaveOff 58 = .ok (.iastore, 1) := dX9_leaveOff_k88.1
theorem dX9_leaveOff_59 : decode cX9_leaveOff 59 = .ok (.return_, 1) := dX9_leaveOff_k88.2
set_option maxRecDepth 100000 in
theorem dX9_guest_k89 : (decode cX9_guest 0 = .ok (.iload_n 1, 1)) ∧ (decode cX9_guest 1 = .ok (.iconst 0, 1)) ∧ (decode cX9_guest 2 = .ok (.bipush 7, 2)) ∧ (decode cX9_guest 4 = .ok (.invokestatic 94, 3)) ∧ (decode cX9_guest 7 = .ok (.ifCond .eq 11, 3)) ∧ (decode cX9_guest 10 = .ok (.aload_n 0, 1)) := by decide +kernel
theorem dX9_guest_0 : decode cX9_guest 0 = .ok (.iload_n 1, 1) := dX9_guest_k89.1
theorem dX9_guest_1 : decode cX9_guest 1 = .ok (.iconst 0, 1) := dX9_guest_k89.2.1
theorem dX9_guest_2 : decode cX9_guest 2 = .ok (.bipush 7, 2) := dX9_guest_k89.2.2.1
theorem dX9_guest_4 : decode cX9_guest 4 = .ok (.invokestatic 94, 3) := dX9_guest_k89.2.2.2.1
theorem dX9_guest_7 : decode cX9_guest 7 = .ok (.ifCond .eq 11, 3) := dX9_guest_k89.2.2.2.2.1
theorem dX9_guest_10 : decode cX9_guest 10 = .ok (.aload_n 0, 1) := dX9_guest_k89.2.2.2.2.2
set_option maxRecDepth 100000 in
theorem dX9_guest_k90 : (decode cX9_guest 11 = .ok (.iload_n 2, 1)) ∧ (decode cX9_guest 12 = .ok (.invokevirtual 102, 3)) ∧ (decode cX9_guest 15 = .ok (.ifCond .ne 5, 3)) ∧ (decode cX9_guest 18 = .ok (.iconst (-1), 1)) ∧ (decode cX9_guest 19 = .ok (.ireturn, 1)) ∧ (decode cX9_guest 20 = .ok (.aload_n 0, 1)) := by decide +kernel
theorem dX9_guest_11 : decode cX9_guest 11 = .ok (.iload_n 2, 1) := dX9_guest_k90.1
theorem dX9_guest_12 : decode cX9_guest 12 = .ok (.invokevirtual 102, 3) := dX9_guest_k90.2.1
theorem dX9_guest_15 : decode cX9_guest 15 = .ok (.ifCond .ne 5, 3) := dX9_guest_k90.2.2.1
theorem dX9_guest_18 : decode cX9_guest 18 = .ok (.iconst (-1), 1) := dX9_guest_k90.2.2.2.1
theorem dX9_guest_19 : decode cX9_guest 19 = .ok (.ireturn, 1) := dX9_guest_k90.2.2.2.2.1
theorem dX9_guest_20 : decode cX9_guest 20 = .ok (.aload_n 0, 1) := dX9_guest_k90.2.2.2.2.2
set_option maxRecDepth 100000 in
theorem dX9_guest_k91 : (decode cX9_guest 21 = .ok (.iload_n 2, 1)) ∧ (decode cX9_guest 22 = .ok (.iconst (-1), 1)) ∧ (decode cX9_guest 23 = .ok (.iload_n 1, 1)) ∧ (decode cX9_guest 24 = .ok (.invokevirtual 106, 3)) ∧ (decode cX9_guest 27 = .ok (.aload_n 0, 1)) ∧ (decode cX9_guest 28 = .ok (.getfield 17, 3)) := by decide +kernel
theorem dX9_guest_21 : decode cX9_guest 21 = .ok (.iload_n 2, 1) := dX9_guest_k91.1
theorem dX9_guest_22 : decode cX9_guest 22 = .ok (.iconst (-1), 1) := dX9_guest_k91.2.1
theorem dX9_guest_23 : decode cX9_guest 23 = .ok (.iload_n 1, 1) := dX9_guest_k91.2.2.1
theorem dX9_guest_24 : decode cX9_guest 24 = .ok (.invokevirtual 106, 3) := dX9_guest_k91.2.2.2.1
theorem dX9_guest_27 : decode cX9_guest 27 = .ok (.aload_n 0, 1) := dX9_guest_k91.2.2.2.2.1
theorem dX9_guest_28 : decode cX9_guest 28 = .ok (.getfield 17, 3) := dX9_guest_k91.2.2.2.2.2
set_option maxRecDepth 100000 in
theorem dX9_guest_k92 : (decode cX9_guest 31 = .ok (.iload_n 2, 1)) ∧ (decode cX9_guest 32 = .ok (.iaload, 1)) ∧ (decode cX9_guest 33 = .ok (.if_icmp .lt 6, 3)) ∧ (decode cX9_guest 36 = .ok (.bipush (-4), 2)) ∧ (decode cX9_guest 38 = .ok (.ireturn, 1)) ∧ (decode cX9_guest 39 = .ok (.aload_n 0, 1)) := by decide +kernel
theorem dX9_guest_31 : decode cX9_guest 31 = .ok (.iload_n 2, 1) := dX9_guest_k92.1
theorem dX9_guest_32 : decode cX9_guest 32 = .ok (.iaload, 1) := dX9_guest_k92.2.1
theorem dX9_guest_33 : decode cX9_guest 33 = .ok (.if_icmp .lt 6, 3) := dX9_guest_k92.2.2.1
theorem dX9_guest_36 : decode cX9_guest 36 = .ok (.bipush (-4), 2) := dX9_guest_k92.2.2.2.1
theorem dX9_guest_38 : decode cX9_guest 38 = .ok (.ireturn, 1) := dX9_guest_k92.2.2.2.2.1
theorem dX9_guest_39 : decode cX9_guest 39 = .ok (.aload_n 0, 1) := dX9_guest_k92.2.2.2.2.2
set_option maxRecDepth 100000 in
theorem dX9_guest_k93 : (decode cX9_guest 40 = .ok (.iload_n 1, 1)) ∧ (decode cX9_guest 41 = .ok (.invokevirtual 113, 3)) ∧ (decode cX9_guest 44 = .ok (.aload_n 0, 1)) ∧ (decode cX9_guest 45 = .ok (.dup, 1)) ∧ (decode cX9_guest 46 = .ok (.getfield 88, 3)) ∧ (decode cX9_guest 49 = .ok (.iconst 1, 1)) := by decide +kernel
theorem dX9_guest_40 : decode cX9_guest 40 = .ok (.iload_n 1, 1) := dX9_guest_k93.1
theorem dX9_guest_41 : decode cX9_guest 41 = .ok (.invokevirtual 113, 3) := dX9_guest_k93.2.1
theorem dX9_guest_44 : decode cX9_guest 44 = .ok (.aload_n 0, 1) := dX9_guest_k93.2.2.1
theorem dX9_guest_45 : decode cX9_guest 45 = .ok (.dup, 1) := dX9_guest_k93.2.2.2.1
theorem dX9_guest_46 : decode cX9_guest 46 = .ok (.getfield 88, 3) := dX9_guest_k93.2.2.2.2.1
theorem dX9_guest_49 : decode cX9_guest 49 = .ok (.iconst 1, 1) := dX9_guest_k93.2.2.2.2.2
set_option maxRecDepth 100000 in
theorem dX9_guest_k94 : (decode cX9_guest 50 = .ok (.iload_n 1, 1)) ∧ (decode cX9_guest 51 = .ok (.ishl, 1)) ∧ (decode cX9_guest 52 = .ok (.ior, 1)) ∧ (decode cX9_guest 53 = .ok (.putfield 88, 3)) ∧ (decode cX9_guest 56 = .ok (.aload_n 0, 1)) ∧ (decode cX9_guest 57 = .ok (.getfield 29, 3)) := by decide +kernel
theorem dX9_guest_50 : decode cX9_guest 50 = .ok (.iload_n 1, 1) := dX9_guest_k94.1
theorem dX9_guest_51 : decode cX9_guest 51 = .ok (.ishl, 1) := dX9_guest_k94.2.1
theorem dX9_guest_52 : decode cX9_guest 52 = .ok (.ior, 1) := dX9_guest_k94.2.2.1
theorem dX9_guest_53 : decode cX9_guest 53 = .ok (.putfield 88, 3) := dX9_guest_k94.2.2.2.1
theorem dX9_guest_56 : decode cX9_guest 56 = .ok (.aload_n 0, 1) := dX9_guest_k94.2.2.2.2.1
theorem dX9_guest_57 : decode cX9_guest 57 = .ok (.getfield 29, 3) := dX9_guest_k94.2.2.2.2.2
set_option maxRecDepth 100000 in
theorem dX9_guest_k95 : (decode cX9_guest 60 = .ok (.iload_n 1, 1)) ∧ (decode cX9_guest 61 = .ok (.iload_n 2, 1)) ∧ (decode cX9_guest 62 = .ok (.iastore, 1)) ∧ (decode cX9_guest 63 = .ok (.iconst 0, 1)) ∧ (decode cX9_guest 64 = .ok (.istore_n 3, 1)) ∧ (decode cX9_guest 65 = .ok (.iload_n 3, 1)) := by decide +kernel
theorem dX9_guest_60 : decode cX9_guest 60 = .ok (.iload_n 1, 1) := dX9_guest_k95.1
theorem dX9_guest_61 : decode cX9_guest 61 = .ok (.iload_n 2, 1) := dX9_guest_k95.2.1
theorem dX9_guest_62 : decode cX9_guest 62 = .ok (.iastore, 1) := dX9_guest_k95.2.2.1
theorem dX9_guest_63 : decode cX9_guest 63 = .ok (.iconst 0, 1) := dX9_guest_k95.2.2.2.1
theorem dX9_guest_64 : decode cX9_guest 64 = .ok (.istore_n 3, 1) := dX9_guest_k95.2.2.2.2.1
theorem dX9_guest_65 : decode cX9_guest 65 = .ok (.iload_n 3, 1) := dX9_guest_k95.2.2.2.2.2
set_option maxRecDepth 100000 in
theorem dX9_guest_k96 : (decode cX9_guest 66 = .ok (.iconst 5, 1)) ∧ (decode cX9_guest 67 = .ok (.if_icmp .ge 20, 3)) ∧ (decode cX9_guest 70 = .ok (.aload_n 0, 1)) ∧ (decode cX9_guest 71 = .ok (.getfield 26, 3)) ∧ (decode cX9_guest 74 = .ok (.iconst 5, 1)) ∧ (decode cX9_guest 75 = .ok (.iload_n 1, 1)) := by decide +kernel
theorem dX9_guest_66 : decode cX9_guest 66 = .ok (.iconst 5, 1) := dX9_guest_k96.1
theorem dX9_guest_67 : decode cX9_guest 67 = .ok (.if_icmp .ge 20, 3) := dX9_guest_k96.2.1
theorem dX9_guest_70 : decode cX9_guest 70 = .ok (.aload_n 0, 1) := dX9_guest_k96.2.2.1
theorem dX9_guest_71 : decode cX9_guest 71 = .ok (.getfield 26, 3) := dX9_guest_k96.2.2.2.1
theorem dX9_guest_74 : decode cX9_guest 74 = .ok (.iconst 5, 1) := dX9_guest_k96.2.2.2.2.1
theorem dX9_guest_75 : decode cX9_guest 75 = .ok (.iload_n 1, 1) := dX9_guest_k96.2.2.2.2.2
set_option maxRecDepth 100000 in
theorem dX9_guest_k97 : (decode cX9_guest 76 = .ok (.imul, 1)) ∧ (decode cX9_guest 77 = .ok (.iload_n 3, 1)) ∧ (decode cX9_guest 78 = .ok (.iadd, 1)) ∧ (decode cX9_guest 79 = .ok (.iconst 0, 1)) ∧ (decode cX9_guest 80 = .ok (.iastore, 1)) ∧ (decode cX9_guest 81 = .ok (.iinc 3 1, 3)) := by decide +kernel
theorem dX9_guest_76 : decode cX9_guest 76 = .ok (.imul, 1) := dX9_guest_k97.1
theorem dX9_guest_77 : decode cX9_guest 77 = .ok (.iload_n 3, 1) := dX9_guest_k97.2.1
theorem dX9_guest_78 : decode cX9_guest 78 = .ok (.iadd, 1) := dX9_guest_k97.2.2.1
theorem dX9_guest_79 : decode cX9_guest 79 = .ok (.iconst 0, 1) := dX9_guest_k97.2.2.2.1
theorem dX9_guest_80 : decode cX9_guest 80 = .ok (.iastore, 1) := dX9_guest_k97.2.2.2.2.1
theorem dX9_guest_81 : decode cX9_guest 81 = .ok (.iinc 3 1, 3) := dX9_guest_k97.2.2.2.2.2
set_option maxRecDepth 100000 in
theorem dX9_guest_k98 : (decode cX9_guest 84 = .ok (.goto (-19), 3)) ∧ (decode cX9_guest 87 = .ok (.aload_n 0, 1)) ∧ (decode cX9_guest 88 = .ok (.getfield 88, 3)) ∧ (decode cX9_guest 91 = .ok (.invokestatic 117, 3)) ∧ (decode cX9_guest 94 = .ok (.ireturn, 1)) := by decide +kernel
theorem dX9_guest_84 : decode cX9_guest 84 = .ok (.goto (-19), 3) := dX9_guest_k98.1
theorem dX9_guest_87 : decode cX9_guest 87 = .ok (.aload_n 0, 1) := dX9_guest_k98.2.1
theorem dX9_guest_88 : decode cX9_guest 88 = .ok (.getfield 88, 3) := dX9_guest_k98.2.2.1
theorem dX9_guest_91 : decode cX9_guest 91 = .ok (.invokestatic 117, 3) := dX9_guest_k98.2.2.2.1
theorem dX9_guest_94 : decode cX9_guest 94 = .ok (.ireturn, 1) := dX9_guest_k98.2.2.2.2
set_option maxRecDepth 100000 in
theorem dX9_likes_k99 : (decode cX9_likes 0 = .ok (.aload_n 0, 1)) ∧ (decode cX9_likes 1 = .ok (.iload_n 1, 1)) ∧ (decode cX9_likes 2 = .ok (.invokevirtual 121, 3)) ∧ (decode cX9_likes 5 = .ok (.ifCond .ne 5, 3)) ∧ (decode cX9_likes 8 = .ok (.iconst (-1), 1)) ∧ (decode cX9_likes 9 = .ok (.ireturn, 1)) := by decide +kernel
theorem dX9_likes_0 : decode cX9_likes 0 = .ok (.aload_n 0, 1) := dX9_likes_k99.1
theorem dX9_likes_1 : decode cX9_likes 1 = .ok (.iload_n 1, 1) := dX9_likes_k99.2.1
theorem dX9_likes_2 : decode cX9_likes 2 = .ok (.invokevirtual 121, 3) := dX9_likes_k99.2.2.1
theorem dX9_likes_5 : decode cX9_likes 5 = .ok (.ifCond .ne 5, 3) := dX9_likes_k99.2.2.2.1
theorem dX9_likes_8 : decode cX9_likes 8 = .ok (.iconst (-1), 1) := dX9_likes_k99.2.2.2.2.1
theorem dX9_likes_9 : decode cX9_likes 9 = .ok (.ireturn, 1) := dX9_likes_k99.2.2.2.2.2
set_option maxRecDepth 100000 in
theorem dX9_likes_k100 : (decode cX9_likes 10 = .ok (.iload_n 2, 1)) ∧ (decode cX9_likes 11 = .ok (.iconst 0, 1)) ∧ (decode cX9_likes 12 = .ok (.iconst 4, 1)) ∧ (decode cX9_likes 13 = .ok (.invokestatic 94, 3)) ∧ (decode cX9_likes 16 = .ok (.ifCond .eq 13, 3)) ∧ (decode cX9_likes 19 = .ok (.iload_n 3, 1)) := by decide +kernel
theorem dX9_likes_10 : decode cX9_likes 10 = .ok (.iload_n 2, 1) := dX9_likes_k100.1
theorem dX9_likes_11 : decode cX9_likes 11 = .ok (.iconst 0, 1) := dX9_likes_k100.2.1
theorem dX9_likes_12 : decode cX9_likes 12 = .ok (.iconst 4, 1) := dX9_likes_k100.2.2.1
theorem dX9_likes_13 : decode cX9_likes 13 = .ok (.invokestatic 94, 3) := dX9_likes_k100.2.2.2.1
theorem dX9_likes_16 : decode cX9_likes 16 = .ok (.ifCond .eq 13, 3) := dX9_likes_k100.2.2.2.2.1
theorem dX9_likes_19 : decode cX9_likes 19 = .ok (.iload_n 3, 1) := dX9_likes_k100.2.2.2.2.2
set_option maxRecDepth 100000 in
theorem dX9_likes_k101 : (decode cX9_likes 20 = .ok (.bipush (-3), 2)) ∧ (decode cX9_likes 22 = .ok (.iconst 3, 1)) ∧ (decode cX9_likes 23 = .ok (.invokestatic 94, 3)) ∧ (decode cX9_likes 26 = .ok (.ifCond .ne 6, 3)) ∧ (decode cX9_likes 29 = .ok (.bipush (-2), 2)) ∧ (decode cX9_likes 31 = .ok (.ireturn, 1)) := by decide +kernel
theorem dX9_likes_20 : decode cX9_likes 20 = .ok (.bipush (-3), 2) := dX9_likes_k101.1
theorem dX9_likes_22 : decode cX9_likes 22 = .ok (.iconst 3, 1) := dX9_likes_k101.2.1
theorem dX9_likes_23 : decode cX9_likes 23 = .ok (.invokestatic 94, 3) := dX9_likes_k101.2.2.1
theorem dX9_likes_26 : decode cX9_likes 26 = .ok (.ifCond .ne 6, 3) := dX9_likes_k101.2.2.2.1
theorem dX9_likes_29 : decode cX9_likes 29 = .ok (.bipush (-2), 2) := dX9_likes_k101.2.2.2.2.1
theorem dX9_likes_31 : decode cX9_likes 31 = .ok (.ireturn, 1) := dX9_likes_k101.2.2.2.2.2
set_option maxRecDepth 100000 in
theorem dX9_likes_k102 : (decode cX9_likes 32 = .ok (.aload_n 0, 1)) ∧ (decode cX9_likes 33 = .ok (.getfield 26, 3)) ∧ (decode cX9_likes 36 = .ok (.iconst 5, 1)) ∧ (decode cX9_likes 37 = .ok (.iload_n 1, 1)) ∧ (decode cX9_likes 38 = .ok (.imul, 1)) ∧ (decode cX9_likes 39 = .ok (.iload_n 2, 1)) := by decide +kernel
theorem dX9_likes_32 : decode cX9_likes 32 = .ok (.aload_n 0, 1) := dX9_likes_k102.1
theorem dX9_likes_33 : decode cX9_likes 33 = .ok (.getfield 26, 3) := dX9_likes_k102.2.1
theorem dX9_likes_36 : decode cX9_likes 36 = .ok (.iconst 5, 1) := dX9_likes_k102.2.2.1
theorem dX9_likes_37 : decode cX9_likes 37 = .ok (.iload_n 1, 1) := dX9_likes_k102.2.2.2.1
theorem dX9_likes_38 : decode cX9_likes 38 = .ok (.imul, 1) := dX9_likes_k102.2.2.2.2.1
theorem dX9_likes_39 : decode cX9_likes 39 = .ok (.iload_n 2, 1) := dX9_likes_k102.2.2.2.2.2
set_option maxRecDepth 100000 in
theorem dX9_likes_k103 : (decode cX9_likes 40 = .ok (.iadd, 1)) ∧ (decode cX9_likes 41 = .ok (.iaload, 1)) ∧ (decode cX9_likes 42 = .ok (.bipush 10, 2)) ∧ (decode cX9_likes 44 = .ok (.iadd, 1)) ∧ (decode cX9_likes 45 = .ok (.istore 4, 2)) ∧ (decode cX9_likes 47 = .ok (.aload_n 0, 1)) := by decide +kernel
theorem dX9_likes_40 : decode cX9_likes 40 = .ok (.iadd, 1) := dX9_likes_k103.1
theorem dX9_likes_41 : decode cX9_likes 41 = .ok (.iaload, 1) := dX9_likes_k103.2.1
theorem dX9_likes_42 : decode cX9_likes 42 = .ok (.bipush 10, 2) := dX9_likes_k103.2.2.1
theorem dX9_likes_44 : decode cX9_likes 44 = .ok (.iadd, 1) := dX9_likes_k103.2.2.2.1
theorem dX9_likes_45 : decode cX9_likes 45 = .ok (.istore 4, 2) := dX9_likes_k103.2.2.2.2.1
theorem dX9_likes_47 : decode cX9_likes 47 = .ok (.aload_n 0, 1) := dX9_likes_k103.2.2.2.2.2
set_option maxRecDepth 100000 in
theorem dX9_likes_k104 : (decode cX9_likes 48 = .ok (.getfield 26, 3)) ∧ (decode cX9_likes 51 = .ok (.iconst 5, 1)) ∧ (decode cX9_likes 52 = .ok (.iload_n 1, 1)) ∧ (decode cX9_likes 53 = .ok (.imul, 1)) ∧ (decode cX9_likes 54 = .ok (.iload_n 2, 1)) ∧ (decode cX9_likes 55 = .ok (.iadd, 1)) := by decide +kernel
theorem dX9_likes_48 : decode cX9_likes 48 = .ok (.getfield 26, 3) := dX9_likes_k104.1
theorem dX9_likes_51 : decode cX9_likes 51 = .ok (.iconst 5, 1) := dX9_likes_k104.2.1
theorem dX9_likes_52 : decode cX9_likes 52 = .ok (.iload_n 1, 1) := dX9_likes_k104.2.2.1
theorem dX9_likes_53 : decode cX9_likes 53 = .ok (.imul, 1) := dX9_likes_k104.2.2.2.1
theorem dX9_likes_54 : decode cX9_likes 54 = .ok (.iload_n 2, 1) := dX9_likes_k104.2.2.2.2.1
theorem dX9_likes_55 : decode cX9_likes 55 = .ok (.iadd, 1) := dX9_likes_k104.2.2.2.2.2
set_option maxRecDepth 100000 in
theorem dX9_likes_k105 : (decode cX9_likes 56 = .ok (.iload_n 3, 1)) ∧ (decode cX9_likes 57 = .ok (.iastore, 1)) ∧ (decode cX9_likes 58 = .ok (.iload 4, 2)) ∧ (decode cX9_likes 60 = .ok (.ireturn, 1)) := by decide +kernel
theorem dX9_likes_56 : decode cX9_likes 56 = .ok (.iload_n 3, 1) := dX9_likes_k105.1
theorem dX9_likes_57 : decode cX9_likes 57 = .ok (.iastore, 1) := dX9_likes_k105.2.1
theorem dX9_likes_58 : decode cX9_likes 58 = .ok (.iload 4, 2) := dX9_likes_k105.2.2.1
theorem dX9_likes_60 : decode cX9_likes 60 = .ok (.ireturn, 1) := dX9_likes_k105.2.2.2
set_option maxRecDepth 100000 in
theorem dX9_leave_k106 : (decode cX9_leave 0 = .ok (.aload_n 0, 1)) ∧ (decode cX9_leave 1 = .ok (.iload_n 1, 1)) ∧ (decode cX9_leave 2 = .ok (.invokevirtual 121, 3)) ∧ (decode cX9_leave 5 = .ok (.ifCond .ne 5, 3)) ∧ (decode cX9_leave 8 = .ok (.iconst (-1), 1)) ∧ (decode cX9_leave 9 = .ok (.ireturn, 1)) := by decide +kernel
theorem dX9_leave_0 : decode cX9_leave 0 = .ok (.aload_n 0, 1) := dX9_leave_k106.1
theorem dX9_leave_1 : decode cX9_leave 1 = .ok (.iload_n 1, 1) := dX9_leave_k106.2.1
theorem dX9_leave_2 : decode cX9_leave 2 = .ok (.invokevirtual 121, 3) := dX9_leave_k106.2.2.1
theorem dX9_leave_5 : decode cX9_leave 5 = .ok (.ifCond .ne 5, 3) := dX9_leave_k106.2.2.2.1
theorem dX9_leave_8 : decode cX9_leave 8 = .ok (.iconst (-1), 1) := dX9_leave_k106.2.2.2.2.1
theorem dX9_leave_9 : decode cX9_leave 9 = .ok (.ireturn, 1) := dX9_leave_k106.2.2.2.2.2
set_option maxRecDepth 100000 in
theorem dX9_leave_k107 : (decode cX9_leave 10 = .ok (.aload_n 0, 1)) ∧ (decode cX9_leave 11 = .ok (.iload_n 1, 1)) ∧ (decode cX9_leave 12 = .ok (.invokevirtual 113, 3)) ∧ (decode cX9_leave 15 = .ok (.aload_n 0, 1)) ∧ (decode cX9_leave 16 = .ok (.dup, 1)) ∧ (decode cX9_leave 17 = .ok (.getfield 88, 3)) := by decide +kernel
theorem dX9_leave_10 : decode cX9_leave 10 = .ok (.aload_n 0, 1) := dX9_leave_k107.1
theorem dX9_leave_11 : decode cX9_leave 11 = .ok (.iload_n 1, 1) := dX9_leave_k107.2.1
theorem dX9_leave_12 : decode cX9_leave 12 = .ok (.invokevirtual 113, 3) := dX9_leave_k107.2.2.1
theorem dX9_leave_15 : decode cX9_leave 15 = .ok (.aload_n 0, 1) := dX9_leave_k107.2.2.2.1
theorem dX9_leave_16 : decode cX9_leave 16 = .ok (.dup, 1) := dX9_leave_k107.2.2.2.2.1
theorem dX9_leave_17 : decode cX9_leave 17 = .ok (.getfield 88, 3) := dX9_leave_k107.2.2.2.2.2
set_option maxRecDepth 100000 in
theorem dX9_leave_k108 : (decode cX9_leave 20 = .ok (.iconst 1, 1)) ∧ (decode cX9_leave 21 = .ok (.iload_n 1, 1)) ∧ (decode cX9_leave 22 = .ok (.ishl, 1)) ∧ (decode cX9_leave 23 = .ok (.iconst (-1), 1)) ∧ (decode cX9_leave 24 = .ok (.ixor, 1)) ∧ (decode cX9_leave 25 = .ok (.iand, 1)) := by decide +kernel
theorem dX9_leave_20 : decode cX9_leave 20 = .ok (.iconst 1, 1) := dX9_leave_k108.1
theorem dX9_leave_21 : decode cX9_leave 21 = .ok (.iload_n 1, 1) := dX9_leave_k108.2.1
theorem dX9_leave_22 : decode cX9_leave 22 = .ok (.ishl, 1) := dX9_leave_k108.2.2.1
theorem dX9_leave_23 : decode cX9_leave 23 = .ok (.iconst (-1), 1) := dX9_leave_k108.2.2.2.1
theorem dX9_leave_24 : decode cX9_leave 24 = .ok (.ixor, 1) := dX9_leave_k108.2.2.2.2.1
theorem dX9_leave_25 : decode cX9_leave 25 = .ok (.iand, 1) := dX9_leave_k108.2.2.2.2.2
set_option maxRecDepth 100000 in
theorem dX9_leave_k109 : (decode cX9_leave 26 = .ok (.putfield 88, 3)) ∧ (decode cX9_leave 29 = .ok (.aload_n 0, 1)) ∧ (decode cX9_leave 30 = .ok (.getfield 88, 3)) ∧ (decode cX9_leave 33 = .ok (.invokestatic 117, 3)) ∧ (decode cX9_leave 36 = .ok (.ireturn, 1)) := by decide +kernel
theorem dX9_leave_26 : decode cX9_leave 26 = .ok (.putfield 88, 3) := dX9_leave_k109.1
theorem dX9_leave_29 : decode cX9_leave 29 = .ok (.aload_n 0, 1) := dX9_leave_k109.2.1
theorem dX9_leave_30 : decode cX9_leave 30 = .ok (.getfield 88, 3) := dX9_leave_k109.2.2.1
theorem dX9_leave_33 : decode cX9_leave 33 = .ok (.invokestatic 117, 3) := dX9_leave_k109.2.2.2.1
theorem dX9_leave_36 : decode cX9_leave 36 = .ok (.ireturn, 1) := dX9_leave_k109.2.2.2.2
set_option maxRecDepth 100000 in
theorem dX9_say_k110 : (decode cX9_say 0 = .ok (.iload_n 1, 1)) ∧ (decode cX9_say 1 = .ok (.bipush 33, 2)) ∧ (decode cX9_say 3 = .ok (.bipush 126, 2)) ∧ (decode cX9_say 5 = .ok (.invokestatic 94, 3)) ∧ (decode cX9_say 8 = .ok (.ifCond .ne 6, 3)) ∧ (decode cX9_say 11 = .ok (.bipush (-2), 2)) := by decide +kernel
theorem dX9_say_0 : decode cX9_say 0 = .ok (.iload_n 1, 1) := dX9_say_k110.1
theorem dX9_say_1 : decode cX9_say 1 = .ok (.bipush 33, 2) := dX9_say_k110.2.1
theorem dX9_say_3 : decode cX9_say 3 = .ok (.bipush 126, 2) := dX9_say_k110.2.2.1
theorem dX9_say_5 : decode cX9_say 5 = .ok (.invokestatic 94, 3) := dX9_say_k110.2.2.2.1
theorem dX9_say_8 : decode cX9_say 8 = .ok (.ifCond .ne 6, 3) := dX9_say_k110.2.2.2.2.1
theorem dX9_say_11 : decode cX9_say 11 = .ok (.bipush (-2), 2) := dX9_say_k110.2.2.2.2.2
set_option maxRecDepth 100000 in
theorem dX9_say_k111 : (decode cX9_say 13 = .ok (.ireturn, 1)) ∧ (decode cX9_say 14 = .ok (.aload_n 0, 1)) ∧ (decode cX9_say 15 = .ok (.getfield 124, 3)) ∧ (decode cX9_say 18 = .ok (.bipush 60, 2)) ∧ (decode cX9_say 20 = .ok (.if_icmp .ne 6, 3)) ∧ (decode cX9_say 23 = .ok (.bipush (-4), 2)) := by decide +kernel
theorem dX9_say_13 : decode cX9_say 13 = .ok (.ireturn, 1) := dX9_say_k111.1
theorem dX9_say_14 : decode cX9_say 14 = .ok (.aload_n 0, 1) := dX9_say_k111.2.1
theorem dX9_say_15 : decode cX9_say 15 = .ok (.getfield 124, 3) := dX9_say_k111.2.2.1
theorem dX9_say_18 : decode cX9_say 18 = .ok (.bipush 60, 2) := dX9_say_k111.2.2.2.1
theorem dX9_say_20 : decode cX9_say 20 = .ok (.if_icmp .ne 6, 3) := dX9_say_k111.2.2.2.2.1
theorem dX9_say_23 : decode cX9_say 23 = .ok (.bipush (-4), 2) := dX9_say_k111.2.2.2.2.2
set_option maxRecDepth 100000 in
theorem dX9_say_k112 : (decode cX9_say 25 = .ok (.ireturn, 1)) ∧ (decode cX9_say 26 = .ok (.aload_n 0, 1)) ∧ (decode cX9_say 27 = .ok (.getfield 44, 3)) ∧ (decode cX9_say 30 = .ok (.aload_n 0, 1)) ∧ (decode cX9_say 31 = .ok (.getfield 124, 3)) ∧ (decode cX9_say 34 = .ok (.iload_n 1, 1)) := by decide +kernel
theorem dX9_say_25 : decode cX9_say 25 = .ok (.ireturn, 1) := dX9_say_k112.1
theorem dX9_say_26 : decode cX9_say 26 = .ok (.aload_n 0, 1) := dX9_say_k112.2.1
theorem dX9_say_27 : decode cX9_say 27 = .ok (.getfield 44, 3) := dX9_say_k112.2.2.1
theorem dX9_say_30 : decode cX9_say 30 = .ok (.aload_n 0, 1) := dX9_say_k112.2.2.2.1
theorem dX9_say_31 : decode cX9_say 31 = .ok (.getfield 124, 3) := dX9_say_k112.2.2.2.2.1
theorem dX9_say_34 : decode cX9_say 34 = .ok (.iload_n 1, 1) := dX9_say_k112.2.2.2.2.2
set_option maxRecDepth 100000 in
theorem dX9_say_k113 : (decode cX9_say 35 = .ok (.iastore, 1)) ∧ (decode cX9_say 36 = .ok (.aload_n 0, 1)) ∧ (decode cX9_say 37 = .ok (.dup, 1)) ∧ (decode cX9_say 38 = .ok (.getfield 124, 3)) ∧ (decode cX9_say 41 = .ok (.iconst 1, 1)) ∧ (decode cX9_say 42 = .ok (.iadd, 1)) := by decide +kernel
theorem dX9_say_35 : decode cX9_say 35 = .ok (.iastore, 1) := dX9_say_k113.1
theorem dX9_say_36 : decode cX9_say 36 = .ok (.aload_n 0, 1) := dX9_say_k113.2.1
theorem dX9_say_37 : decode cX9_say 37 = .ok (.dup, 1) := dX9_say_k113.2.2.1
theorem dX9_say_38 : decode cX9_say 38 = .ok (.getfield 124, 3) := dX9_say_k113.2.2.2.1
theorem dX9_say_41 : decode cX9_say 41 = .ok (.iconst 1, 1) := dX9_say_k113.2.2.2.2.1
theorem dX9_say_42 : decode cX9_say 42 = .ok (.iadd, 1) := dX9_say_k113.2.2.2.2.2
set_option maxRecDepth 100000 in
theorem dX9_say_k114 : (decode cX9_say 43 = .ok (.putfield 124, 3)) ∧ (decode cX9_say 46 = .ok (.aload_n 0, 1)) ∧ (decode cX9_say 47 = .ok (.getfield 124, 3)) ∧ (decode cX9_say 50 = .ok (.ireturn, 1)) := by decide +kernel
theorem dX9_say_43 : decode cX9_say 43 = .ok (.putfield 124, 3) := dX9_say_k114.1
theorem dX9_say_46 : decode cX9_say 46 = .ok (.aload_n 0, 1) := dX9_say_k114.2.1
theorem dX9_say_47 : decode cX9_say 47 = .ok (.getfield 124, 3) := dX9_say_k114.2.2.1
theorem dX9_say_50 : decode cX9_say 50 = .ok (.ireturn, 1) := dX9_say_k114.2.2.2
set_option maxRecDepth 100000 in
theorem dX9_wipe_k115 : (decode cX9_wipe 0 = .ok (.aload_n 0, 1)) ∧ (decode cX9_wipe 1 = .ok (.getfield 124, 3)) ∧ (decode cX9_wipe 4 = .ok (.istore_n 1, 1)) ∧ (decode cX9_wipe 5 = .ok (.aload_n 0, 1)) ∧ (decode cX9_wipe 6 = .ok (.iconst 0, 1)) ∧ (decode cX9_wipe 7 = .ok (.putfield 124, 3)) := by decide +kernel
theorem dX9_wipe_0 : decode cX9_wipe 0 = .ok (.aload_n 0, 1) := dX9_wipe_k115.1
theorem dX9_wipe_1 : decode cX9_wipe 1 = .ok (.getfield 124, 3) := dX9_wipe_k115.2.1
theorem dX9_wipe_4 : decode cX9_wipe 4 = .ok (.istore_n 1, 1) := dX9_wipe_k115.2.2.1
theorem dX9_wipe_5 : decode cX9_wipe 5 = .ok (.aload_n 0, 1) := dX9_wipe_k115.2.2.2.1
theorem dX9_wipe_6 : decode cX9_wipe 6 = .ok (.iconst 0, 1) := dX9_wipe_k115.2.2.2.2.1
theorem dX9_wipe_7 : decode cX9_wipe 7 = .ok (.putfield 124, 3) := dX9_wipe_k115.2.2.2.2.2
set_option maxRecDepth 100000 in
theorem dX9_wipe_k116 : (decode cX9_wipe 10 = .ok (.iload_n 1, 1)) ∧ (decode cX9_wipe 11 = .ok (.ireturn, 1)) := by decide +kernel
theorem dX9_wipe_10 : decode cX9_wipe 10 = .ok (.iload_n 1, 1) := dX9_wipe_k116.1
theorem dX9_wipe_11 : decode cX9_wipe 11 = .ok (.ireturn, 1) := dX9_wipe_k116.2
set_option maxRecDepth 100000 in
theorem dX9_faultOf_k117 : (decode cX9_faultOf 0 = .ok (.iconst 0, 1)) ∧ (decode cX9_faultOf 1 = .ok (.istore_n 1, 1)) ∧ (decode cX9_faultOf 2 = .ok (.iconst 0, 1)) ∧ (decode cX9_faultOf 3 = .ok (.istore_n 2, 1)) ∧ (decode cX9_faultOf 4 = .ok (.iload_n 2, 1)) ∧ (decode cX9_faultOf 5 = .ok (.aload_n 0, 1)) := by decide +kernel
theorem dX9_faultOf_0 : decode cX9_faultOf 0 = .ok (.iconst 0, 1) := dX9_faultOf_k117.1
theorem dX9_faultOf_1 : decode cX9_faultOf 1 = .ok (.istore_n 1, 1) := dX9_faultOf_k117.2.1
theorem dX9_faultOf_2 : decode cX9_faultOf 2 = .ok (.iconst 0, 1) := dX9_faultOf_k117.2.2.1
theorem dX9_faultOf_3 : decode cX9_faultOf 3 = .ok (.istore_n 2, 1) := dX9_faultOf_k117.2.2.2.1
theorem dX9_faultOf_4 : decode cX9_faultOf 4 = .ok (.iload_n 2, 1) := dX9_faultOf_k117.2.2.2.2.1
theorem dX9_faultOf_5 : decode cX9_faultOf 5 = .ok (.aload_n 0, 1) := dX9_faultOf_k117.2.2.2.2.2
set_option maxRecDepth 100000 in
theorem dX9_faultOf_k118 : (decode cX9_faultOf 6 = .ok (.getfield 124, 3)) ∧ (decode cX9_faultOf 9 = .ok (.if_icmp .ge 206, 3)) ∧ (decode cX9_faultOf 12 = .ok (.aload_n 0, 1)) ∧ (decode cX9_faultOf 13 = .ok (.getfield 44, 3)) ∧ (decode cX9_faultOf 16 = .ok (.iload_n 2, 1)) ∧ (decode cX9_faultOf 17 = .ok (.iaload, 1)) := by decide +kernel
theorem dX9_faultOf_6 : decode cX9_faultOf 6 = .ok (.getfield 124, 3) := dX9_faultOf_k118.1
theorem dX9_faultOf_9 : decode cX9_faultOf 9 = .ok (.if_icmp .ge 206, 3) := dX9_faultOf_k118.2.1
theorem dX9_faultOf_12 : decode cX9_faultOf 12 = .ok (.aload_n 0, 1) := dX9_faultOf_k118.2.2.1
theorem dX9_faultOf_13 : decode cX9_faultOf 13 = .ok (.getfield 44, 3) := dX9_faultOf_k118.2.2.2.1
theorem dX9_faultOf_16 : decode cX9_faultOf 16 = .ok (.iload_n 2, 1) := dX9_faultOf_k118.2.2.2.2.1
theorem dX9_faultOf_17 : decode cX9_faultOf 17 = .ok (.iaload, 1) := dX9_faultOf_k118.2.2.2.2.2
set_option maxRecDepth 100000 in
theorem dX9_faultOf_k119 : (decode cX9_faultOf 18 = .ok (.istore_n 3, 1)) ∧ (decode cX9_faultOf 19 = .ok (.iload_n 3, 1)) ∧ (decode cX9_faultOf 20 = .ok (.bipush 65, 2)) ∧ (decode cX9_faultOf 22 = .ok (.bipush 72, 2)) ∧ (decode cX9_faultOf 24 = .ok (.invokestatic 94, 3)) ∧ (decode cX9_faultOf 27 = .ok (.istore 4, 2)) := by decide +kernel
theorem dX9_faultOf_18 : decode cX9_faultOf 18 = .ok (.istore_n 3, 1) := dX9_faultOf_k119.1
theorem dX9_faultOf_19 : decode cX9_faultOf 19 = .ok (.iload_n 3, 1) := dX9_faultOf_k119.2.1
theorem dX9_faultOf_20 : decode cX9_faultOf 20 = .ok (.bipush 65, 2) := dX9_faultOf_k119.2.2.1
theorem dX9_faultOf_22 : decode cX9_faultOf 22 = .ok (.bipush 72, 2) := dX9_faultOf_k119.2.2.2.1
theorem dX9_faultOf_24 : decode cX9_faultOf 24 = .ok (.invokestatic 94, 3) := dX9_faultOf_k119.2.2.2.2.1
theorem dX9_faultOf_27 : decode cX9_faultOf 27 = .ok (.istore 4, 2) := dX9_faultOf_k119.2.2.2.2.2
set_option maxRecDepth 100000 in
theorem dX9_faultOf_k120 : (decode cX9_faultOf 29 = .ok (.iload_n 3, 1)) ∧ (decode cX9_faultOf 30 = .ok (.bipush 97, 2)) ∧ (decode cX9_faultOf 32 = .ok (.bipush 97, 2)) ∧ (decode cX9_faultOf 34 = .ok (.aload_n 0, 1)) ∧ (decode cX9_faultOf 35 = .ok (.getfield 7, 3)) ∧ (decode cX9_faultOf 38 = .ok (.iadd, 1)) := by decide +kernel
theorem dX9_faultOf_29 : decode cX9_faultOf 29 = .ok (.iload_n 3, 1) := dX9_faultOf_k120.1
theorem dX9_faultOf_30 : decode cX9_faultOf 30 = .ok (.bipush 97, 2) := dX9_faultOf_k120.2.1
theorem dX9_faultOf_32 : decode cX9_faultOf 32 = .ok (.bipush 97, 2) := dX9_faultOf_k120.2.2.1
theorem dX9_faultOf_34 : decode cX9_faultOf 34 = .ok (.aload_n 0, 1) := dX9_faultOf_k120.2.2.2.1
theorem dX9_faultOf_35 : decode cX9_faultOf 35 = .ok (.getfield 7, 3) := dX9_faultOf_k120.2.2.2.2.1
theorem dX9_faultOf_38 : decode cX9_faultOf 38 = .ok (.iadd, 1) := dX9_faultOf_k120.2.2.2.2.2
set_option maxRecDepth 100000 in
theorem dX9_faultOf_k121 : (decode cX9_faultOf 39 = .ok (.iconst 1, 1)) ∧ (decode cX9_faultOf 40 = .ok (.isub, 1)) ∧ (decode cX9_faultOf 41 = .ok (.invokestatic 94, 3)) ∧ (decode cX9_faultOf 44 = .ok (.istore 5, 2)) ∧ (decode cX9_faultOf 46 = .ok (.iload_n 1, 1)) ∧ (decode cX9_faultOf 47 = .ok (.ifCond .ne 49, 3)) := by decide +kernel
theorem dX9_faultOf_39 : decode cX9_faultOf 39 = .ok (.iconst 1, 1) := dX9_faultOf_k121.1
theorem dX9_faultOf_40 : decode cX9_faultOf 40 = .ok (.isub, 1) := dX9_faultOf_k121.2.1
theorem dX9_faultOf_41 : decode cX9_faultOf 41 = .ok (.invokestatic 94, 3) := dX9_faultOf_k121.2.2.1
theorem dX9_faultOf_44 : decode cX9_faultOf 44 = .ok (.istore 5, 2) := dX9_faultOf_k121.2.2.2.1
theorem dX9_faultOf_46 : decode cX9_faultOf 46 = .ok (.iload_n 1, 1) := dX9_faultOf_k121.2.2.2.2.1
theorem dX9_faultOf_47 : decode cX9_faultOf 47 = .ok (.ifCond .ne 49, 3) := dX9_faultOf_k121.2.2.2.2.2
set_option maxRecDepth 100000 in
theorem dX9_faultOf_k122 : (decode cX9_faultOf 50 = .ok (.iload 4, 2)) ∧ (decode cX9_faultOf 52 = .ok (.ifCond .ne 14, 3)) ∧ (decode cX9_faultOf 55 = .ok (.iload 5, 2)) ∧ (decode cX9_faultOf 57 = .ok (.ifCond .ne 9, 3)) ∧ (decode cX9_faultOf 60 = .ok (.iload_n 3, 1)) ∧ (decode cX9_faultOf 61 = .ok (.bipush 46, 2)) := by decide +kernel
theorem dX9_faultOf_50 : decode cX9_faultOf 50 = .ok (.iload 4, 2) := dX9_faultOf_k122.1
theorem dX9_faultOf_52 : decode cX9_faultOf 52 = .ok (.ifCond .ne 14, 3) := dX9_faultOf_k122.2.1
theorem dX9_faultOf_55 : decode cX9_faultOf 55 = .ok (.iload 5, 2) := dX9_faultOf_k122.2.2.1
theorem dX9_faultOf_57 : decode cX9_faultOf 57 = .ok (.ifCond .ne 9, 3) := dX9_faultOf_k122.2.2.2.1
theorem dX9_faultOf_60 : decode cX9_faultOf 60 = .ok (.iload_n 3, 1) := dX9_faultOf_k122.2.2.2.2.1
theorem dX9_faultOf_61 : decode cX9_faultOf 61 = .ok (.bipush 46, 2) := dX9_faultOf_k122.2.2.2.2.2
set_option maxRecDepth 100000 in
theorem dX9_faultOf_k123 : (decode cX9_faultOf 63 = .ok (.if_icmp .ne 7, 3)) ∧ (decode cX9_faultOf 66 = .ok (.iconst 1, 1)) ∧ (decode cX9_faultOf 67 = .ok (.goto 4, 3)) ∧ (decode cX9_faultOf 70 = .ok (.iconst 0, 1)) ∧ (decode cX9_faultOf 71 = .ok (.istore 6, 2)) ∧ (decode cX9_faultOf 73 = .ok (.iload 4, 2)) := by decide +kernel
theorem dX9_faultOf_63 : decode cX9_faultOf 63 = .ok (.if_icmp .ne 7, 3) := dX9_faultOf_k123.1
theorem dX9_faultOf_66 : decode cX9_faultOf 66 = .ok (.iconst 1, 1) := dX9_faultOf_k123.2.1
theorem dX9_faultOf_67 : decode cX9_faultOf 67 = .ok (.goto 4, 3) := dX9_faultOf_k123.2.2.1
theorem dX9_faultOf_70 : decode cX9_faultOf 70 = .ok (.iconst 0, 1) := dX9_faultOf_k123.2.2.2.1
theorem dX9_faultOf_71 : decode cX9_faultOf 71 = .ok (.istore 6, 2) := dX9_faultOf_k123.2.2.2.2.1
theorem dX9_faultOf_73 : decode cX9_faultOf 73 = .ok (.iload 4, 2) := dX9_faultOf_k123.2.2.2.2.2
set_option maxRecDepth 100000 in
theorem dX9_faultOf_k124 : (decode cX9_faultOf 75 = .ok (.ifCond .eq 7, 3)) ∧ (decode cX9_faultOf 78 = .ok (.iconst 1, 1)) ∧ (decode cX9_faultOf 79 = .ok (.goto 13, 3)) ∧ (decode cX9_faultOf 82 = .ok (.iload 5, 2)) ∧ (decode cX9_faultOf 84 = .ok (.ifCond .eq 7, 3)) ∧ (decode cX9_faultOf 87 = .ok (.iconst 3, 1)) := by decide +kernel
theorem dX9_faultOf_75 : decode cX9_faultOf 75 = .ok (.ifCond .eq 7, 3) := dX9_faultOf_k124.1
theorem dX9_faultOf_78 : decode cX9_faultOf 78 = .ok (.iconst 1, 1) := dX9_faultOf_k124.2.1
theorem dX9_faultOf_79 : decode cX9_faultOf 79 = .ok (.goto 13, 3) := dX9_faultOf_k124.2.2.1
theorem dX9_faultOf_82 : decode cX9_faultOf 82 = .ok (.iload 5, 2) := dX9_faultOf_k124.2.2.2.1
theorem dX9_faultOf_84 : decode cX9_faultOf 84 = .ok (.ifCond .eq 7, 3) := dX9_faultOf_k124.2.2.2.2.1
theorem dX9_faultOf_87 : decode cX9_faultOf 87 = .ok (.iconst 3, 1) := dX9_faultOf_k124.2.2.2.2.2
set_option maxRecDepth 100000 in
theorem dX9_faultOf_k125 : (decode cX9_faultOf 88 = .ok (.goto 4, 3)) ∧ (decode cX9_faultOf 91 = .ok (.iconst 0, 1)) ∧ (decode cX9_faultOf 92 = .ok (.istore_n 1, 1)) ∧ (decode cX9_faultOf 93 = .ok (.goto 109, 3)) ∧ (decode cX9_faultOf 96 = .ok (.iload_n 1, 1)) ∧ (decode cX9_faultOf 97 = .ok (.iconst 1, 1)) := by decide +kernel
theorem dX9_faultOf_88 : decode cX9_faultOf 88 = .ok (.goto 4, 3) := dX9_faultOf_k125.1
theorem dX9_faultOf_91 : decode cX9_faultOf 91 = .ok (.iconst 0, 1) := dX9_faultOf_k125.2.1
theorem dX9_faultOf_92 : decode cX9_faultOf 92 = .ok (.istore_n 1, 1) := dX9_faultOf_k125.2.2.1
theorem dX9_faultOf_93 : decode cX9_faultOf 93 = .ok (.goto 109, 3) := dX9_faultOf_k125.2.2.2.1
theorem dX9_faultOf_96 : decode cX9_faultOf 96 = .ok (.iload_n 1, 1) := dX9_faultOf_k125.2.2.2.2.1
theorem dX9_faultOf_97 : decode cX9_faultOf 97 = .ok (.iconst 1, 1) := dX9_faultOf_k125.2.2.2.2.2
set_option maxRecDepth 100000 in
theorem dX9_faultOf_k126 : (decode cX9_faultOf 98 = .ok (.if_icmp .ne 58, 3)) ∧ (decode cX9_faultOf 101 = .ok (.iload 4, 2)) ∧ (decode cX9_faultOf 103 = .ok (.ifCond .eq 15, 3)) ∧ (decode cX9_faultOf 106 = .ok (.iload_n 3, 1)) ∧ (decode cX9_faultOf 107 = .ok (.aload_n 0, 1)) ∧ (decode cX9_faultOf 108 = .ok (.getfield 44, 3)) := by decide +kernel
theorem dX9_faultOf_98 : decode cX9_faultOf 98 = .ok (.if_icmp .ne 58, 3) := dX9_faultOf_k126.1
theorem dX9_faultOf_101 : decode cX9_faultOf 101 = .ok (.iload 4, 2) := dX9_faultOf_k126.2.1
theorem dX9_faultOf_103 : decode cX9_faultOf 103 = .ok (.ifCond .eq 15, 3) := dX9_faultOf_k126.2.2.1
theorem dX9_faultOf_106 : decode cX9_faultOf 106 = .ok (.iload_n 3, 1) := dX9_faultOf_k126.2.2.2.1
theorem dX9_faultOf_107 : decode cX9_faultOf 107 = .ok (.aload_n 0, 1) := dX9_faultOf_k126.2.2.2.2.1
theorem dX9_faultOf_108 : decode cX9_faultOf 108 = .ok (.getfield 44, 3) := dX9_faultOf_k126.2.2.2.2.2
set_option maxRecDepth 100000 in
theorem dX9_faultOf_k127 : (decode cX9_faultOf 111 = .ok (.iload_n 2, 1)) ∧ (decode cX9_faultOf 112 = .ok (.iconst 1, 1)) ∧ (decode cX9_faultOf 113 = .ok (.isub, 1)) ∧ (decode cX9_faultOf 114 = .ok (.iaload, 1)) ∧ (decode cX9_faultOf 115 = .ok (.if_icmp .gt 20, 3)) ∧ (decode cX9_faultOf 118 = .ok (.iload 5, 2)) := by decide +kernel
theorem dX9_faultOf_111 : decode cX9_faultOf 111 = .ok (.iload_n 2, 1) := dX9_faultOf_k127.1
theorem dX9_faultOf_112 : decode cX9_faultOf 112 = .ok (.iconst 1, 1) := dX9_faultOf_k127.2.1
theorem dX9_faultOf_113 : decode cX9_faultOf 113 = .ok (.isub, 1) := dX9_faultOf_k127.2.2.1
theorem dX9_faultOf_114 : decode cX9_faultOf 114 = .ok (.iaload, 1) := dX9_faultOf_k127.2.2.2.1
theorem dX9_faultOf_115 : decode cX9_faultOf 115 = .ok (.if_icmp .gt 20, 3) := dX9_faultOf_k127.2.2.2.2.1
theorem dX9_faultOf_118 : decode cX9_faultOf 118 = .ok (.iload 5, 2) := dX9_faultOf_k127.2.2.2.2.2
set_option maxRecDepth 100000 in
theorem dX9_faultOf_k128 : (decode cX9_faultOf 120 = .ok (.ifCond .ne 15, 3)) ∧ (decode cX9_faultOf 123 = .ok (.iload_n 3, 1)) ∧ (decode cX9_faultOf 124 = .ok (.bipush 95, 2)) ∧ (decode cX9_faultOf 126 = .ok (.if_icmp .eq 9, 3)) ∧ (decode cX9_faultOf 129 = .ok (.iload_n 3, 1)) ∧ (decode cX9_faultOf 130 = .ok (.bipush 94, 2)) := by decide +kernel
theorem dX9_faultOf_120 : decode cX9_faultOf 120 = .ok (.ifCond .ne 15, 3) := dX9_faultOf_k128.1
theorem dX9_faultOf_123 : decode cX9_faultOf 123 = .ok (.iload_n 3, 1) := dX9_faultOf_k128.2.1
theorem dX9_faultOf_124 : decode cX9_faultOf 124 = .ok (.bipush 95, 2) := dX9_faultOf_k128.2.2.1
theorem dX9_faultOf_126 : decode cX9_faultOf 126 = .ok (.if_icmp .eq 9, 3) := dX9_faultOf_k128.2.2.2.1
theorem dX9_faultOf_129 : decode cX9_faultOf 129 = .ok (.iload_n 3, 1) := dX9_faultOf_k128.2.2.2.2.1
theorem dX9_faultOf_130 : decode cX9_faultOf 130 = .ok (.bipush 94, 2) := dX9_faultOf_k128.2.2.2.2.2
set_option maxRecDepth 100000 in
theorem dX9_faultOf_k129 : (decode cX9_faultOf 132 = .ok (.if_icmp .ne 7, 3)) ∧ (decode cX9_faultOf 135 = .ok (.iconst 1, 1)) ∧ (decode cX9_faultOf 136 = .ok (.goto 4, 3)) ∧ (decode cX9_faultOf 139 = .ok (.iconst 0, 1)) ∧ (decode cX9_faultOf 140 = .ok (.istore 6, 2)) ∧ (decode cX9_faultOf 142 = .ok (.iload 4, 2)) := by decide +kernel
theorem dX9_faultOf_132 : decode cX9_faultOf 132 = .ok (.if_icmp .ne 7, 3) := dX9_faultOf_k129.1
theorem dX9_faultOf_135 : decode cX9_faultOf 135 = .ok (.iconst 1, 1) := dX9_faultOf_k129.2.1
theorem dX9_faultOf_136 : decode cX9_faultOf 136 = .ok (.goto 4, 3) := dX9_faultOf_k129.2.2.1
theorem dX9_faultOf_139 : decode cX9_faultOf 139 = .ok (.iconst 0, 1) := dX9_faultOf_k129.2.2.2.1
theorem dX9_faultOf_140 : decode cX9_faultOf 140 = .ok (.istore 6, 2) := dX9_faultOf_k129.2.2.2.2.1
theorem dX9_faultOf_142 : decode cX9_faultOf 142 = .ok (.iload 4, 2) := dX9_faultOf_k129.2.2.2.2.2
set_option maxRecDepth 100000 in
theorem dX9_faultOf_k130 : (decode cX9_faultOf 144 = .ok (.ifCond .eq 7, 3)) ∧ (decode cX9_faultOf 147 = .ok (.iconst 2, 1)) ∧ (decode cX9_faultOf 148 = .ok (.goto 4, 3)) ∧ (decode cX9_faultOf 151 = .ok (.iconst 0, 1)) ∧ (decode cX9_faultOf 152 = .ok (.istore_n 1, 1)) ∧ (decode cX9_faultOf 153 = .ok (.goto 49, 3)) := by decide +kernel
theorem dX9_faultOf_144 : decode cX9_faultOf 144 = .ok (.ifCond .eq 7, 3) := dX9_faultOf_k130.1
theorem dX9_faultOf_147 : decode cX9_faultOf 147 = .ok (.iconst 2, 1) := dX9_faultOf_k130.2.1
theorem dX9_faultOf_148 : decode cX9_faultOf 148 = .ok (.goto 4, 3) := dX9_faultOf_k130.2.2.1
theorem dX9_faultOf_151 : decode cX9_faultOf 151 = .ok (.iconst 0, 1) := dX9_faultOf_k130.2.2.2.1
theorem dX9_faultOf_152 : decode cX9_faultOf 152 = .ok (.istore_n 1, 1) := dX9_faultOf_k130.2.2.2.2.1
theorem dX9_faultOf_153 : decode cX9_faultOf 153 = .ok (.goto 49, 3) := dX9_faultOf_k130.2.2.2.2.2
set_option maxRecDepth 100000 in
theorem dX9_faultOf_k131 : (decode cX9_faultOf 156 = .ok (.iload_n 1, 1)) ∧ (decode cX9_faultOf 157 = .ok (.iconst 2, 1)) ∧ (decode cX9_faultOf 158 = .ok (.if_icmp .ne 18, 3)) ∧ (decode cX9_faultOf 161 = .ok (.iload_n 3, 1)) ∧ (decode cX9_faultOf 162 = .ok (.bipush 49, 2)) ∧ (decode cX9_faultOf 164 = .ok (.bipush 57, 2)) := by decide +kernel
theorem dX9_faultOf_156 : decode cX9_faultOf 156 = .ok (.iload_n 1, 1) := dX9_faultOf_k131.1
theorem dX9_faultOf_157 : decode cX9_faultOf 157 = .ok (.iconst 2, 1) := dX9_faultOf_k131.2.1
theorem dX9_faultOf_158 : decode cX9_faultOf 158 = .ok (.if_icmp .ne 18, 3) := dX9_faultOf_k131.2.2.1
theorem dX9_faultOf_161 : decode cX9_faultOf 161 = .ok (.iload_n 3, 1) := dX9_faultOf_k131.2.2.2.1
theorem dX9_faultOf_162 : decode cX9_faultOf 162 = .ok (.bipush 49, 2) := dX9_faultOf_k131.2.2.2.2.1
theorem dX9_faultOf_164 : decode cX9_faultOf 164 = .ok (.bipush 57, 2) := dX9_faultOf_k131.2.2.2.2.2
set_option maxRecDepth 100000 in
theorem dX9_faultOf_k132 : (decode cX9_faultOf 166 = .ok (.invokestatic 94, 3)) ∧ (decode cX9_faultOf 169 = .ok (.istore 6, 2)) ∧ (decode cX9_faultOf 171 = .ok (.iconst 0, 1)) ∧ (decode cX9_faultOf 172 = .ok (.istore_n 1, 1)) ∧ (decode cX9_faultOf 173 = .ok (.goto 29, 3)) ∧ (decode cX9_faultOf 176 = .ok (.iload_n 1, 1)) := by decide +kernel
theorem dX9_faultOf_166 : decode cX9_faultOf 166 = .ok (.invokestatic 94, 3) := dX9_faultOf_k132.1
theorem dX9_faultOf_169 : decode cX9_faultOf 169 = .ok (.istore 6, 2) := dX9_faultOf_k132.2.1
theorem dX9_faultOf_171 : decode cX9_faultOf 171 = .ok (.iconst 0, 1) := dX9_faultOf_k132.2.2.1
theorem dX9_faultOf_172 : decode cX9_faultOf 172 = .ok (.istore_n 1, 1) := dX9_faultOf_k132.2.2.2.1
theorem dX9_faultOf_173 : decode cX9_faultOf 173 = .ok (.goto 29, 3) := dX9_faultOf_k132.2.2.2.2.1
theorem dX9_faultOf_176 : decode cX9_faultOf 176 = .ok (.iload_n 1, 1) := dX9_faultOf_k132.2.2.2.2.2
set_option maxRecDepth 100000 in
theorem dX9_faultOf_k133 : (decode cX9_faultOf 177 = .ok (.iconst 3, 1)) ∧ (decode cX9_faultOf 178 = .ok (.if_icmp .ne 12, 3)) ∧ (decode cX9_faultOf 181 = .ok (.iload 5, 2)) ∧ (decode cX9_faultOf 183 = .ok (.istore 6, 2)) ∧ (decode cX9_faultOf 185 = .ok (.iconst 4, 1)) ∧ (decode cX9_faultOf 186 = .ok (.istore_n 1, 1)) := by decide +kernel
theorem dX9_faultOf_177 : decode cX9_faultOf 177 = .ok (.iconst 3, 1) := dX9_faultOf_k133.1
theorem dX9_faultOf_178 : decode cX9_faultOf 178 = .ok (.if_icmp .ne 12, 3) := dX9_faultOf_k133.2.1
theorem dX9_faultOf_181 : decode cX9_faultOf 181 = .ok (.iload 5, 2) := dX9_faultOf_k133.2.2.1
theorem dX9_faultOf_183 : decode cX9_faultOf 183 = .ok (.istore 6, 2) := dX9_faultOf_k133.2.2.2.1
theorem dX9_faultOf_185 : decode cX9_faultOf 185 = .ok (.iconst 4, 1) := dX9_faultOf_k133.2.2.2.2.1
theorem dX9_faultOf_186 : decode cX9_faultOf 186 = .ok (.istore_n 1, 1) := dX9_faultOf_k133.2.2.2.2.2
set_option maxRecDepth 100000 in
theorem dX9_faultOf_k134 : (decode cX9_faultOf 187 = .ok (.goto 15, 3)) ∧ (decode cX9_faultOf 190 = .ok (.iload_n 3, 1)) ∧ (decode cX9_faultOf 191 = .ok (.bipush 48, 2)) ∧ (decode cX9_faultOf 193 = .ok (.bipush 51, 2)) ∧ (decode cX9_faultOf 195 = .ok (.invokestatic 94, 3)) ∧ (decode cX9_faultOf 198 = .ok (.istore 6, 2)) := by decide +kernel
theorem dX9_faultOf_187 : decode cX9_faultOf 187 = .ok (.goto 15, 3) := dX9_faultOf_k134.1
theorem dX9_faultOf_190 : decode cX9_faultOf 190 = .ok (.iload_n 3, 1) := dX9_faultOf_k134.2.1
theorem dX9_faultOf_191 : decode cX9_faultOf 191 = .ok (.bipush 48, 2) := dX9_faultOf_k134.2.2.1
theorem dX9_faultOf_193 : decode cX9_faultOf 193 = .ok (.bipush 51, 2) := dX9_faultOf_k134.2.2.2.1
theorem dX9_faultOf_195 : decode cX9_faultOf 195 = .ok (.invokestatic 94, 3) := dX9_faultOf_k134.2.2.2.2.1
theorem dX9_faultOf_198 : decode cX9_faultOf 198 = .ok (.istore 6, 2) := dX9_faultOf_k134.2.2.2.2.2
set_option maxRecDepth 100000 in
theorem dX9_faultOf_k135 : (decode cX9_faultOf 200 = .ok (.iconst 0, 1)) ∧ (decode cX9_faultOf 201 = .ok (.istore_n 1, 1)) ∧ (decode cX9_faultOf 202 = .ok (.iload 6, 2)) ∧ (decode cX9_faultOf 204 = .ok (.ifCond .ne 5, 3)) ∧ (decode cX9_faultOf 207 = .ok (.iload_n 2, 1)) ∧ (decode cX9_faultOf 208 = .ok (.ireturn, 1)) := by decide +kernel
theorem dX9_faultOf_200 : decode cX9_faultOf 200 = .ok (.iconst 0, 1) := dX9_faultOf_k135.1
theorem dX9_faultOf_201 : decode cX9_faultOf 201 = .ok (.istore_n 1, 1) := dX9_faultOf_k135.2.1
theorem dX9_faultOf_202 : decode cX9_faultOf 202 = .ok (.iload 6, 2) := dX9_faultOf_k135.2.2.1
theorem dX9_faultOf_204 : decode cX9_faultOf 204 = .ok (.ifCond .ne 5, 3) := dX9_faultOf_k135.2.2.2.1
theorem dX9_faultOf_207 : decode cX9_faultOf 207 = .ok (.iload_n 2, 1) := dX9_faultOf_k135.2.2.2.2.1
theorem dX9_faultOf_208 : decode cX9_faultOf 208 = .ok (.ireturn, 1) := dX9_faultOf_k135.2.2.2.2.2
set_option maxRecDepth 100000 in
theorem dX9_faultOf_k136 : (decode cX9_faultOf 209 = .ok (.iinc 2 1, 3)) ∧ (decode cX9_faultOf 212 = .ok (.goto (-208), 3)) ∧ (decode cX9_faultOf 215 = .ok (.iload_n 1, 1)) ∧ (decode cX9_faultOf 216 = .ok (.ifCond .ne 8, 3)) ∧ (decode cX9_faultOf 219 = .ok (.bipush (-6), 2)) ∧ (decode cX9_faultOf 221 = .ok (.goto 7, 3)) := by decide +kernel
theorem dX9_faultOf_209 : decode cX9_faultOf 209 = .ok (.iinc 2 1, 3) := dX9_faultOf_k136.1
theorem dX9_faultOf_212 : decode cX9_faultOf 212 = .ok (.goto (-208), 3) := dX9_faultOf_k136.2.1
theorem dX9_faultOf_215 : decode cX9_faultOf 215 = .ok (.iload_n 1, 1) := dX9_faultOf_k136.2.2.1
theorem dX9_faultOf_216 : decode cX9_faultOf 216 = .ok (.ifCond .ne 8, 3) := dX9_faultOf_k136.2.2.2.1
theorem dX9_faultOf_219 : decode cX9_faultOf 219 = .ok (.bipush (-6), 2) := dX9_faultOf_k136.2.2.2.2.1
theorem dX9_faultOf_221 : decode cX9_faultOf 221 = .ok (.goto 7, 3) := dX9_faultOf_k136.2.2.2.2.2
set_option maxRecDepth 100000 in
theorem dX9_faultOf_k137 : (decode cX9_faultOf 224 = .ok (.aload_n 0, 1)) ∧ (decode cX9_faultOf 225 = .ok (.getfield 124, 3)) ∧ (decode cX9_faultOf 228 = .ok (.ireturn, 1)) := by decide +kernel
theorem dX9_faultOf_224 : decode cX9_faultOf 224 = .ok (.aload_n 0, 1) := dX9_faultOf_k137.1
theorem dX9_faultOf_225 : decode cX9_faultOf 225 = .ok (.getfield 124, 3) := dX9_faultOf_k137.2.1
theorem dX9_faultOf_228 : decode cX9_faultOf 228 = .ok (.ireturn, 1) := dX9_faultOf_k137.2.2
set_option maxRecDepth 100000 in
theorem dX9_fault_k138 : (decode cX9_fault 0 = .ok (.aload_n 0, 1)) ∧ (decode cX9_fault 1 = .ok (.invokevirtual 127, 3)) ∧ (decode cX9_fault 4 = .ok (.ireturn, 1)) := by decide +kernel
theorem dX9_fault_0 : decode cX9_fault 0 = .ok (.aload_n 0, 1) := dX9_fault_k138.1
theorem dX9_fault_1 : decode cX9_fault 1 = .ok (.invokevirtual 127, 3) := dX9_fault_k138.2.1
theorem dX9_fault_4 : decode cX9_fault 4 = .ok (.ireturn, 1) := dX9_fault_k138.2.2
set_option maxRecDepth 100000 in
theorem dX9_asNow_k139 : (decode cX9_asNow 0 = .ok (.iconst 0, 1)) ∧ (decode cX9_asNow 1 = .ok (.istore_n 1, 1)) ∧ (decode cX9_asNow 2 = .ok (.iload_n 1, 1)) ∧ (decode cX9_asNow 3 = .ok (.bipush 8, 2)) ∧ (decode cX9_asNow 5 = .ok (.if_icmp .ge 57, 3)) ∧ (decode cX9_asNow 8 = .ok (.aload_n 0, 1)) := by decide +kernel
theorem dX9_asNow_0 : decode cX9_asNow 0 = .ok (.iconst 0, 1) := dX9_asNow_k139.1
theorem dX9_asNow_1 : decode cX9_asNow 1 = .ok (.istore_n 1, 1) := dX9_asNow_k139.2.1
theorem dX9_asNow_2 : decode cX9_asNow 2 = .ok (.iload_n 1, 1) := dX9_asNow_k139.2.2.1
theorem dX9_asNow_3 : decode cX9_asNow 3 = .ok (.bipush 8, 2) := dX9_asNow_k139.2.2.2.1
theorem dX9_asNow_5 : decode cX9_asNow 5 = .ok (.if_icmp .ge 57, 3) := dX9_asNow_k139.2.2.2.2.1
theorem dX9_asNow_8 : decode cX9_asNow 8 = .ok (.aload_n 0, 1) := dX9_asNow_k139.2.2.2.2.2
set_option maxRecDepth 100000 in
theorem dX9_asNow_k140 : (decode cX9_asNow 9 = .ok (.getfield 47, 3)) ∧ (decode cX9_asNow 12 = .ok (.iload_n 1, 1)) ∧ (decode cX9_asNow 13 = .ok (.aload_n 0, 1)) ∧ (decode cX9_asNow 14 = .ok (.getfield 29, 3)) ∧ (decode cX9_asNow 17 = .ok (.iload_n 1, 1)) ∧ (decode cX9_asNow 18 = .ok (.iaload, 1)) := by decide +kernel
theorem dX9_asNow_9 : decode cX9_asNow 9 = .ok (.getfield 47, 3) := dX9_asNow_k140.1
theorem dX9_asNow_12 : decode cX9_asNow 12 = .ok (.iload_n 1, 1) := dX9_asNow_k140.2.1
theorem dX9_asNow_13 : decode cX9_asNow 13 = .ok (.aload_n 0, 1) := dX9_asNow_k140.2.2.1
theorem dX9_asNow_14 : decode cX9_asNow 14 = .ok (.getfield 29, 3) := dX9_asNow_k140.2.2.2.1
theorem dX9_asNow_17 : decode cX9_asNow 17 = .ok (.iload_n 1, 1) := dX9_asNow_k140.2.2.2.2.1
theorem dX9_asNow_18 : decode cX9_asNow 18 = .ok (.iaload, 1) := dX9_asNow_k140.2.2.2.2.2
set_option maxRecDepth 100000 in
theorem dX9_asNow_k141 : (decode cX9_asNow 19 = .ok (.iastore, 1)) ∧ (decode cX9_asNow 20 = .ok (.aload_n 0, 1)) ∧ (decode cX9_asNow 21 = .ok (.getfield 50, 3)) ∧ (decode cX9_asNow 24 = .ok (.iload_n 1, 1)) ∧ (decode cX9_asNow 25 = .ok (.aload_n 0, 1)) ∧ (decode cX9_asNow 26 = .ok (.getfield 32, 3)) := by decide +kernel
theorem dX9_asNow_19 : decode cX9_asNow 19 = .ok (.iastore, 1) := dX9_asNow_k141.1
theorem dX9_asNow_20 : decode cX9_asNow 20 = .ok (.aload_n 0, 1) := dX9_asNow_k141.2.1
theorem dX9_asNow_21 : decode cX9_asNow 21 = .ok (.getfield 50, 3) := dX9_asNow_k141.2.2.1
theorem dX9_asNow_24 : decode cX9_asNow 24 = .ok (.iload_n 1, 1) := dX9_asNow_k141.2.2.2.1
theorem dX9_asNow_25 : decode cX9_asNow 25 = .ok (.aload_n 0, 1) := dX9_asNow_k141.2.2.2.2.1
theorem dX9_asNow_26 : decode cX9_asNow 26 = .ok (.getfield 32, 3) := dX9_asNow_k141.2.2.2.2.2
set_option maxRecDepth 100000 in
theorem dX9_asNow_k142 : (decode cX9_asNow 29 = .ok (.iload_n 1, 1)) ∧ (decode cX9_asNow 30 = .ok (.iaload, 1)) ∧ (decode cX9_asNow 31 = .ok (.iastore, 1)) ∧ (decode cX9_asNow 32 = .ok (.aload_n 0, 1)) ∧ (decode cX9_asNow 33 = .ok (.getfield 53, 3)) ∧ (decode cX9_asNow 36 = .ok (.iload_n 1, 1)) := by decide +kernel
theorem dX9_asNow_29 : decode cX9_asNow 29 = .ok (.iload_n 1, 1) := dX9_asNow_k142.1
theorem dX9_asNow_30 : decode cX9_asNow 30 = .ok (.iaload, 1) := dX9_asNow_k142.2.1
theorem dX9_asNow_31 : decode cX9_asNow 31 = .ok (.iastore, 1) := dX9_asNow_k142.2.2.1
theorem dX9_asNow_32 : decode cX9_asNow 32 = .ok (.aload_n 0, 1) := dX9_asNow_k142.2.2.2.1
theorem dX9_asNow_33 : decode cX9_asNow 33 = .ok (.getfield 53, 3) := dX9_asNow_k142.2.2.2.2.1
theorem dX9_asNow_36 : decode cX9_asNow 36 = .ok (.iload_n 1, 1) := dX9_asNow_k142.2.2.2.2.2
set_option maxRecDepth 100000 in
theorem dX9_asNow_k143 : (decode cX9_asNow 37 = .ok (.aload_n 0, 1)) ∧ (decode cX9_asNow 38 = .ok (.getfield 35, 3)) ∧ (decode cX9_asNow 41 = .ok (.iload_n 1, 1)) ∧ (decode cX9_asNow 42 = .ok (.iaload, 1)) ∧ (decode cX9_asNow 43 = .ok (.iastore, 1)) ∧ (decode cX9_asNow 44 = .ok (.aload_n 0, 1)) := by decide +kernel
theorem dX9_asNow_37 : decode cX9_asNow 37 = .ok (.aload_n 0, 1) := dX9_asNow_k143.1
theorem dX9_asNow_38 : decode cX9_asNow 38 = .ok (.getfield 35, 3) := dX9_asNow_k143.2.1
theorem dX9_asNow_41 : decode cX9_asNow 41 = .ok (.iload_n 1, 1) := dX9_asNow_k143.2.2.1
theorem dX9_asNow_42 : decode cX9_asNow 42 = .ok (.iaload, 1) := dX9_asNow_k143.2.2.2.1
theorem dX9_asNow_43 : decode cX9_asNow 43 = .ok (.iastore, 1) := dX9_asNow_k143.2.2.2.2.1
theorem dX9_asNow_44 : decode cX9_asNow 44 = .ok (.aload_n 0, 1) := dX9_asNow_k143.2.2.2.2.2
set_option maxRecDepth 100000 in
theorem dX9_asNow_k144 : (decode cX9_asNow 45 = .ok (.getfield 56, 3)) ∧ (decode cX9_asNow 48 = .ok (.iload_n 1, 1)) ∧ (decode cX9_asNow 49 = .ok (.aload_n 0, 1)) ∧ (decode cX9_asNow 50 = .ok (.getfield 38, 3)) ∧ (decode cX9_asNow 53 = .ok (.iload_n 1, 1)) ∧ (decode cX9_asNow 54 = .ok (.iaload, 1)) := by decide +kernel
theorem dX9_asNow_45 : decode cX9_asNow 45 = .ok (.getfield 56, 3) := dX9_asNow_k144.1
theorem dX9_asNow_48 : decode cX9_asNow 48 = .ok (.iload_n 1, 1) := dX9_asNow_k144.2.1
theorem dX9_asNow_49 : decode cX9_asNow 49 = .ok (.aload_n 0, 1) := dX9_asNow_k144.2.2.1
theorem dX9_asNow_50 : decode cX9_asNow 50 = .ok (.getfield 38, 3) := dX9_asNow_k144.2.2.2.1
theorem dX9_asNow_53 : decode cX9_asNow 53 = .ok (.iload_n 1, 1) := dX9_asNow_k144.2.2.2.2.1
theorem dX9_asNow_54 : decode cX9_asNow 54 = .ok (.iaload, 1) := dX9_asNow_k144.2.2.2.2.2
set_option maxRecDepth 100000 in
theorem dX9_asNow_k145 : (decode cX9_asNow 55 = .ok (.iastore, 1)) ∧ (decode cX9_asNow 56 = .ok (.iinc 1 1, 3)) ∧ (decode cX9_asNow 59 = .ok (.goto (-57), 3)) ∧ (decode cX9_asNow 62 = .ok (.iconst 0, 1)) ∧ (decode cX9_asNow 63 = .ok (.istore_n 1, 1)) ∧ (decode cX9_asNow 64 = .ok (.iload_n 1, 1)) := by decide +kernel
theorem dX9_asNow_55 : decode cX9_asNow 55 = .ok (.iastore, 1) := dX9_asNow_k145.1
theorem dX9_asNow_56 : decode cX9_asNow 56 = .ok (.iinc 1 1, 3) := dX9_asNow_k145.2.1
theorem dX9_asNow_59 : decode cX9_asNow 59 = .ok (.goto (-57), 3) := dX9_asNow_k145.2.2.1
theorem dX9_asNow_62 : decode cX9_asNow 62 = .ok (.iconst 0, 1) := dX9_asNow_k145.2.2.2.1
theorem dX9_asNow_63 : decode cX9_asNow 63 = .ok (.istore_n 1, 1) := dX9_asNow_k145.2.2.2.2.1
theorem dX9_asNow_64 : decode cX9_asNow 64 = .ok (.iload_n 1, 1) := dX9_asNow_k145.2.2.2.2.2
set_option maxRecDepth 100000 in
theorem dX9_asNow_k146 : (decode cX9_asNow 65 = .ok (.bipush 24, 2)) ∧ (decode cX9_asNow 67 = .ok (.if_icmp .ge 21, 3)) ∧ (decode cX9_asNow 70 = .ok (.aload_n 0, 1)) ∧ (decode cX9_asNow 71 = .ok (.getfield 59, 3)) ∧ (decode cX9_asNow 74 = .ok (.iload_n 1, 1)) ∧ (decode cX9_asNow 75 = .ok (.aload_n 0, 1)) := by decide +kernel
theorem dX9_asNow_65 : decode cX9_asNow 65 = .ok (.bipush 24, 2) := dX9_asNow_k146.1
theorem dX9_asNow_67 : decode cX9_asNow 67 = .ok (.if_icmp .ge 21, 3) := dX9_asNow_k146.2.1
theorem dX9_asNow_70 : decode cX9_asNow 70 = .ok (.aload_n 0, 1) := dX9_asNow_k146.2.2.1
theorem dX9_asNow_71 : decode cX9_asNow 71 = .ok (.getfield 59, 3) := dX9_asNow_k146.2.2.2.1
theorem dX9_asNow_74 : decode cX9_asNow 74 = .ok (.iload_n 1, 1) := dX9_asNow_k146.2.2.2.2.1
theorem dX9_asNow_75 : decode cX9_asNow 75 = .ok (.aload_n 0, 1) := dX9_asNow_k146.2.2.2.2.2
set_option maxRecDepth 100000 in
theorem dX9_asNow_k147 : (decode cX9_asNow 76 = .ok (.getfield 13, 3)) ∧ (decode cX9_asNow 79 = .ok (.iload_n 1, 1)) ∧ (decode cX9_asNow 80 = .ok (.iaload, 1)) ∧ (decode cX9_asNow 81 = .ok (.iastore, 1)) ∧ (decode cX9_asNow 82 = .ok (.iinc 1 1, 3)) ∧ (decode cX9_asNow 85 = .ok (.goto (-21), 3)) := by decide +kernel
theorem dX9_asNow_76 : decode cX9_asNow 76 = .ok (.getfield 13, 3) := dX9_asNow_k147.1
theorem dX9_asNow_79 : decode cX9_asNow 79 = .ok (.iload_n 1, 1) := dX9_asNow_k147.2.1
theorem dX9_asNow_80 : decode cX9_asNow 80 = .ok (.iaload, 1) := dX9_asNow_k147.2.2.1
theorem dX9_asNow_81 : decode cX9_asNow 81 = .ok (.iastore, 1) := dX9_asNow_k147.2.2.2.1
theorem dX9_asNow_82 : decode cX9_asNow 82 = .ok (.iinc 1 1, 3) := dX9_asNow_k147.2.2.2.2.1
theorem dX9_asNow_85 : decode cX9_asNow 85 = .ok (.goto (-21), 3) := dX9_asNow_k147.2.2.2.2.2
set_option maxRecDepth 100000 in
theorem dX9_asNow_k148 : (decode cX9_asNow 88 = .ok (.aload_n 0, 1)) ∧ (decode cX9_asNow 89 = .ok (.bipush (-6), 2)) ∧ (decode cX9_asNow 91 = .ok (.putfield 131, 3)) ∧ (decode cX9_asNow 94 = .ok (.return_, 1)) := by decide +kernel
theorem dX9_asNow_88 : decode cX9_asNow 88 = .ok (.aload_n 0, 1) := dX9_asNow_k148.1
theorem dX9_asNow_89 : decode cX9_asNow 89 = .ok (.bipush (-6), 2) := dX9_asNow_k148.2.1
theorem dX9_asNow_91 : decode cX9_asNow 91 = .ok (.putfield 131, 3) := dX9_asNow_k148.2.2.1
theorem dX9_asNow_94 : decode cX9_asNow 94 = .ok (.return_, 1) := dX9_asNow_k148.2.2.2
set_option maxRecDepth 100000 in
theorem dX9_countIn_k149 : (decode cX9_countIn 0 = .ok (.iconst 0, 1)) ∧ (decode cX9_countIn 1 = .ok (.istore_n 3, 1)) ∧ (decode cX9_countIn 2 = .ok (.iconst 0, 1)) ∧ (decode cX9_countIn 3 = .ok (.istore 4, 2)) ∧ (decode cX9_countIn 5 = .ok (.iload 4, 2)) ∧ (decode cX9_countIn 7 = .ok (.bipush 8, 2)) := by decide +kernel
theorem dX9_countIn_0 : decode cX9_countIn 0 = .ok (.iconst 0, 1) := dX9_countIn_k149.1
theorem dX9_countIn_1 : decode cX9_countIn 1 = .ok (.istore_n 3, 1) := dX9_countIn_k149.2.1
theorem dX9_countIn_2 : decode cX9_countIn 2 = .ok (.iconst 0, 1) := dX9_countIn_k149.2.2.1
theorem dX9_countIn_3 : decode cX9_countIn 3 = .ok (.istore 4, 2) := dX9_countIn_k149.2.2.2.1
theorem dX9_countIn_5 : decode cX9_countIn 5 = .ok (.iload 4, 2) := dX9_countIn_k149.2.2.2.2.1
theorem dX9_countIn_7 : decode cX9_countIn 7 = .ok (.bipush 8, 2) := dX9_countIn_k149.2.2.2.2.2
set_option maxRecDepth 100000 in
theorem dX9_countIn_k150 : (decode cX9_countIn 9 = .ok (.if_icmp .ge 46, 3)) ∧ (decode cX9_countIn 12 = .ok (.iload_n 3, 1)) ∧ (decode cX9_countIn 13 = .ok (.aload_n 0, 1)) ∧ (decode cX9_countIn 14 = .ok (.getfield 88, 3)) ∧ (decode cX9_countIn 17 = .ok (.iload 4, 2)) ∧ (decode cX9_countIn 19 = .ok (.invokestatic 98, 3)) := by decide +kernel
theorem dX9_countIn_9 : decode cX9_countIn 9 = .ok (.if_icmp .ge 46, 3) := dX9_countIn_k150.1
theorem dX9_countIn_12 : decode cX9_countIn 12 = .ok (.iload_n 3, 1) := dX9_countIn_k150.2.1
theorem dX9_countIn_13 : decode cX9_countIn 13 = .ok (.aload_n 0, 1) := dX9_countIn_k150.2.2.1
theorem dX9_countIn_14 : decode cX9_countIn 14 = .ok (.getfield 88, 3) := dX9_countIn_k150.2.2.2.1
theorem dX9_countIn_17 : decode cX9_countIn 17 = .ok (.iload 4, 2) := dX9_countIn_k150.2.2.2.2.1
theorem dX9_countIn_19 : decode cX9_countIn 19 = .ok (.invokestatic 98, 3) := dX9_countIn_k150.2.2.2.2.2
set_option maxRecDepth 100000 in
theorem dX9_countIn_k151 : (decode cX9_countIn 22 = .ok (.ifCond .eq 24, 3)) ∧ (decode cX9_countIn 25 = .ok (.iload 4, 2)) ∧ (decode cX9_countIn 27 = .ok (.iload_n 2, 1)) ∧ (decode cX9_countIn 28 = .ok (.if_icmp .eq 18, 3)) ∧ (decode cX9_countIn 31 = .ok (.aload_n 0, 1)) ∧ (decode cX9_countIn 32 = .ok (.getfield 47, 3)) := by decide +kernel
theorem dX9_countIn_22 : decode cX9_countIn 22 = .ok (.ifCond .eq 24, 3) := dX9_countIn_k151.1
theorem dX9_countIn_25 : decode cX9_countIn 25 = .ok (.iload 4, 2) := dX9_countIn_k151.2.1
theorem dX9_countIn_27 : decode cX9_countIn 27 = .ok (.iload_n 2, 1) := dX9_countIn_k151.2.2.1
theorem dX9_countIn_28 : decode cX9_countIn 28 = .ok (.if_icmp .eq 18, 3) := dX9_countIn_k151.2.2.2.1
theorem dX9_countIn_31 : decode cX9_countIn 31 = .ok (.aload_n 0, 1) := dX9_countIn_k151.2.2.2.2.1
theorem dX9_countIn_32 : decode cX9_countIn 32 = .ok (.getfield 47, 3) := dX9_countIn_k151.2.2.2.2.2
set_option maxRecDepth 100000 in
theorem dX9_countIn_k152 : (decode cX9_countIn 35 = .ok (.iload 4, 2)) ∧ (decode cX9_countIn 37 = .ok (.iaload, 1)) ∧ (decode cX9_countIn 38 = .ok (.iload_n 1, 1)) ∧ (decode cX9_countIn 39 = .ok (.if_icmp .ne 7, 3)) ∧ (decode cX9_countIn 42 = .ok (.iconst 1, 1)) ∧ (decode cX9_countIn 43 = .ok (.goto 4, 3)) := by decide +kernel
theorem dX9_countIn_35 : decode cX9_countIn 35 = .ok (.iload 4, 2) := dX9_countIn_k152.1
theorem dX9_countIn_37 : decode cX9_countIn 37 = .ok (.iaload, 1) := dX9_countIn_k152.2.1
theorem dX9_countIn_38 : decode cX9_countIn 38 = .ok (.iload_n 1, 1) := dX9_countIn_k152.2.2.1
theorem dX9_countIn_39 : decode cX9_countIn 39 = .ok (.if_icmp .ne 7, 3) := dX9_countIn_k152.2.2.2.1
theorem dX9_countIn_42 : decode cX9_countIn 42 = .ok (.iconst 1, 1) := dX9_countIn_k152.2.2.2.2.1
theorem dX9_countIn_43 : decode cX9_countIn 43 = .ok (.goto 4, 3) := dX9_countIn_k152.2.2.2.2.2
set_option maxRecDepth 100000 in
theorem dX9_countIn_k153 : (decode cX9_countIn 46 = .ok (.iconst 0, 1)) ∧ (decode cX9_countIn 47 = .ok (.iadd, 1)) ∧ (decode cX9_countIn 48 = .ok (.istore_n 3, 1)) ∧ (decode cX9_countIn 49 = .ok (.iinc 4 1, 3)) ∧ (decode cX9_countIn 52 = .ok (.goto (-47), 3)) ∧ (decode cX9_countIn 55 = .ok (.iload_n 3, 1)) := by decide +kernel
theorem dX9_countIn_46 : decode cX9_countIn 46 = .ok (.iconst 0, 1) := dX9_countIn_k153.1
theorem dX9_countIn_47 : decode cX9_countIn 47 = .ok (.iadd, 1) := dX9_countIn_k153.2.1
theorem dX9_countIn_48 : decode cX9_countIn 48 = .ok (.istore_n 3, 1) := dX9_countIn_k153.2.2.1
theorem dX9_countIn_49 : decode cX9_countIn 49 = .ok (.iinc 4 1, 3) := dX9_countIn_k153.2.2.2.1
theorem dX9_countIn_52 : decode cX9_countIn 52 = .ok (.goto (-47), 3) := dX9_countIn_k153.2.2.2.2.1
theorem dX9_countIn_55 : decode cX9_countIn 55 = .ok (.iload_n 3, 1) := dX9_countIn_k153.2.2.2.2.2
theorem dX9_countIn_56 : decode cX9_countIn 56 = .ok (.ireturn, 1) := by decide +kernel
set_option maxRecDepth 100000 in
theorem dX9_drawOf_k154 : (decode cX9_drawOf 0 = .ok (.iload_n 3, 1)) ∧ (decode cX9_drawOf 1 = .ok (.iconst 4, 1)) ∧ (decode cX9_drawOf 2 = .ok (.if_icmp .ne 8, 3)) ∧ (decode cX9_drawOf 5 = .ok (.iload 4, 2)) ∧ (decode cX9_drawOf 7 = .ok (.goto 13, 3)) ∧ (decode cX9_drawOf 10 = .ok (.aload_n 0, 1)) := by decide +kernel
theorem dX9_drawOf_0 : decode cX9_drawOf 0 = .ok (.iload_n 3, 1) := dX9_drawOf_k154.1
theorem dX9_drawOf_1 : decode cX9_drawOf 1 = .ok (.iconst 4, 1) := dX9_drawOf_k154.2.1
theorem dX9_drawOf_2 : decode cX9_drawOf 2 = .ok (.if_icmp .ne 8, 3) := dX9_drawOf_k154.2.2.1
theorem dX9_drawOf_5 : decode cX9_drawOf 5 = .ok (.iload 4, 2) := dX9_drawOf_k154.2.2.2.1
theorem dX9_drawOf_7 : decode cX9_drawOf 7 = .ok (.goto 13, 3) := dX9_drawOf_k154.2.2.2.2.1
theorem dX9_drawOf_10 : decode cX9_drawOf 10 = .ok (.aload_n 0, 1) := dX9_drawOf_k154.2.2.2.2.2
set_option maxRecDepth 100000 in
theorem dX9_drawOf_k155 : (decode cX9_drawOf 11 = .ok (.getfield 26, 3)) ∧ (decode cX9_drawOf 14 = .ok (.iconst 5, 1)) ∧ (decode cX9_drawOf 15 = .ok (.iload_n 1, 1)) ∧ (decode cX9_drawOf 16 = .ok (.imul, 1)) ∧ (decode cX9_drawOf 17 = .ok (.iconst 4, 1)) ∧ (decode cX9_drawOf 18 = .ok (.iadd, 1)) := by decide +kernel
theorem dX9_drawOf_11 : decode cX9_drawOf 11 = .ok (.getfield 26, 3) := dX9_drawOf_k155.1
theorem dX9_drawOf_14 : decode cX9_drawOf 14 = .ok (.iconst 5, 1) := dX9_drawOf_k155.2.1
theorem dX9_drawOf_15 : decode cX9_drawOf 15 = .ok (.iload_n 1, 1) := dX9_drawOf_k155.2.2.1
theorem dX9_drawOf_16 : decode cX9_drawOf 16 = .ok (.imul, 1) := dX9_drawOf_k155.2.2.2.1
theorem dX9_drawOf_17 : decode cX9_drawOf 17 = .ok (.iconst 4, 1) := dX9_drawOf_k155.2.2.2.2.1
theorem dX9_drawOf_18 : decode cX9_drawOf 18 = .ok (.iadd, 1) := dX9_drawOf_k155.2.2.2.2.2
set_option maxRecDepth 100000 in
theorem dX9_drawOf_k156 : (decode cX9_drawOf 19 = .ok (.iaload, 1)) ∧ (decode cX9_drawOf 20 = .ok (.aload_n 0, 1)) ∧ (decode cX9_drawOf 21 = .ok (.iload_n 2, 1)) ∧ (decode cX9_drawOf 22 = .ok (.iload_n 1, 1)) ∧ (decode cX9_drawOf 23 = .ok (.invokevirtual 134, 3)) ∧ (decode cX9_drawOf 26 = .ok (.imul, 1)) := by decide +kernel
theorem dX9_drawOf_19 : decode cX9_drawOf 19 = .ok (.iaload, 1) := dX9_drawOf_k156.1
theorem dX9_drawOf_20 : decode cX9_drawOf 20 = .ok (.aload_n 0, 1) := dX9_drawOf_k156.2.1
theorem dX9_drawOf_21 : decode cX9_drawOf 21 = .ok (.iload_n 2, 1) := dX9_drawOf_k156.2.2.1
theorem dX9_drawOf_22 : decode cX9_drawOf 22 = .ok (.iload_n 1, 1) := dX9_drawOf_k156.2.2.2.1
theorem dX9_drawOf_23 : decode cX9_drawOf 23 = .ok (.invokevirtual 134, 3) := dX9_drawOf_k156.2.2.2.2.1
theorem dX9_drawOf_26 : decode cX9_drawOf 26 = .ok (.imul, 1) := dX9_drawOf_k156.2.2.2.2.2
set_option maxRecDepth 100000 in
theorem dX9_drawOf_k157 : (decode cX9_drawOf 27 = .ok (.istore 5, 2)) ∧ (decode cX9_drawOf 29 = .ok (.iconst 0, 1)) ∧ (decode cX9_drawOf 30 = .ok (.istore 6, 2)) ∧ (decode cX9_drawOf 32 = .ok (.iload 6, 2)) ∧ (decode cX9_drawOf 34 = .ok (.iconst 4, 1)) ∧ (decode cX9_drawOf 35 = .ok (.if_icmp .ge 48, 3)) := by decide +kernel
theorem dX9_drawOf_27 : decode cX9_drawOf 27 = .ok (.istore 5, 2) := dX9_drawOf_k157.1
theorem dX9_drawOf_29 : decode cX9_drawOf 29 = .ok (.iconst 0, 1) := dX9_drawOf_k157.2.1
theorem dX9_drawOf_30 : decode cX9_drawOf 30 = .ok (.istore 6, 2) := dX9_drawOf_k157.2.2.1
theorem dX9_drawOf_32 : decode cX9_drawOf 32 = .ok (.iload 6, 2) := dX9_drawOf_k157.2.2.2.1
theorem dX9_drawOf_34 : decode cX9_drawOf 34 = .ok (.iconst 4, 1) := dX9_drawOf_k157.2.2.2.2.1
theorem dX9_drawOf_35 : decode cX9_drawOf 35 = .ok (.if_icmp .ge 48, 3) := dX9_drawOf_k157.2.2.2.2.2
set_option maxRecDepth 100000 in
theorem dX9_drawOf_k158 : (decode cX9_drawOf 38 = .ok (.iload 5, 2)) ∧ (decode cX9_drawOf 40 = .ok (.iload_n 3, 1)) ∧ (decode cX9_drawOf 41 = .ok (.iload 6, 2)) ∧ (decode cX9_drawOf 43 = .ok (.if_icmp .ne 8, 3)) ∧ (decode cX9_drawOf 46 = .ok (.iload 4, 2)) ∧ (decode cX9_drawOf 48 = .ok (.goto 14, 3)) := by decide +kernel
theorem dX9_drawOf_38 : decode cX9_drawOf 38 = .ok (.iload 5, 2) := dX9_drawOf_k158.1
theorem dX9_drawOf_40 : decode cX9_drawOf 40 = .ok (.iload_n 3, 1) := dX9_drawOf_k158.2.1
theorem dX9_drawOf_41 : decode cX9_drawOf 41 = .ok (.iload 6, 2) := dX9_drawOf_k158.2.2.1
theorem dX9_drawOf_43 : decode cX9_drawOf 43 = .ok (.if_icmp .ne 8, 3) := dX9_drawOf_k158.2.2.2.1
theorem dX9_drawOf_46 : decode cX9_drawOf 46 = .ok (.iload 4, 2) := dX9_drawOf_k158.2.2.2.2.1
theorem dX9_drawOf_48 : decode cX9_drawOf 48 = .ok (.goto 14, 3) := dX9_drawOf_k158.2.2.2.2.2
set_option maxRecDepth 100000 in
theorem dX9_drawOf_k159 : (decode cX9_drawOf 51 = .ok (.aload_n 0, 1)) ∧ (decode cX9_drawOf 52 = .ok (.getfield 26, 3)) ∧ (decode cX9_drawOf 55 = .ok (.iconst 5, 1)) ∧ (decode cX9_drawOf 56 = .ok (.iload_n 1, 1)) ∧ (decode cX9_drawOf 57 = .ok (.imul, 1)) ∧ (decode cX9_drawOf 58 = .ok (.iload 6, 2)) := by decide +kernel
theorem dX9_drawOf_51 : decode cX9_drawOf 51 = .ok (.aload_n 0, 1) := dX9_drawOf_k159.1
theorem dX9_drawOf_52 : decode cX9_drawOf 52 = .ok (.getfield 26, 3) := dX9_drawOf_k159.2.1
theorem dX9_drawOf_55 : decode cX9_drawOf 55 = .ok (.iconst 5, 1) := dX9_drawOf_k159.2.2.1
theorem dX9_drawOf_56 : decode cX9_drawOf 56 = .ok (.iload_n 1, 1) := dX9_drawOf_k159.2.2.2.1
theorem dX9_drawOf_57 : decode cX9_drawOf 57 = .ok (.imul, 1) := dX9_drawOf_k159.2.2.2.2.1
theorem dX9_drawOf_58 : decode cX9_drawOf 58 = .ok (.iload 6, 2) := dX9_drawOf_k159.2.2.2.2.2
set_option maxRecDepth 100000 in
theorem dX9_drawOf_k160 : (decode cX9_drawOf 60 = .ok (.iadd, 1)) ∧ (decode cX9_drawOf 61 = .ok (.iaload, 1)) ∧ (decode cX9_drawOf 62 = .ok (.aload_n 0, 1)) ∧ (decode cX9_drawOf 63 = .ok (.getfield 59, 3)) ∧ (decode cX9_drawOf 66 = .ok (.iconst 4, 1)) ∧ (decode cX9_drawOf 67 = .ok (.iload_n 2, 1)) := by decide +kernel
theorem dX9_drawOf_60 : decode cX9_drawOf 60 = .ok (.iadd, 1) := dX9_drawOf_k160.1
theorem dX9_drawOf_61 : decode cX9_drawOf 61 = .ok (.iaload, 1) := dX9_drawOf_k160.2.1
theorem dX9_drawOf_62 : decode cX9_drawOf 62 = .ok (.aload_n 0, 1) := dX9_drawOf_k160.2.2.1
theorem dX9_drawOf_63 : decode cX9_drawOf 63 = .ok (.getfield 59, 3) := dX9_drawOf_k160.2.2.2.1
theorem dX9_drawOf_66 : decode cX9_drawOf 66 = .ok (.iconst 4, 1) := dX9_drawOf_k160.2.2.2.2.1
theorem dX9_drawOf_67 : decode cX9_drawOf 67 = .ok (.iload_n 2, 1) := dX9_drawOf_k160.2.2.2.2.2
set_option maxRecDepth 100000 in
theorem dX9_drawOf_k161 : (decode cX9_drawOf 68 = .ok (.imul, 1)) ∧ (decode cX9_drawOf 69 = .ok (.iload 6, 2)) ∧ (decode cX9_drawOf 71 = .ok (.iadd, 1)) ∧ (decode cX9_drawOf 72 = .ok (.iaload, 1)) ∧ (decode cX9_drawOf 73 = .ok (.imul, 1)) ∧ (decode cX9_drawOf 74 = .ok (.iadd, 1)) := by decide +kernel
theorem dX9_drawOf_68 : decode cX9_drawOf 68 = .ok (.imul, 1) := dX9_drawOf_k161.1
theorem dX9_drawOf_69 : decode cX9_drawOf 69 = .ok (.iload 6, 2) := dX9_drawOf_k161.2.1
theorem dX9_drawOf_71 : decode cX9_drawOf 71 = .ok (.iadd, 1) := dX9_drawOf_k161.2.2.1
theorem dX9_drawOf_72 : decode cX9_drawOf 72 = .ok (.iaload, 1) := dX9_drawOf_k161.2.2.2.1
theorem dX9_drawOf_73 : decode cX9_drawOf 73 = .ok (.imul, 1) := dX9_drawOf_k161.2.2.2.2.1
theorem dX9_drawOf_74 : decode cX9_drawOf 74 = .ok (.iadd, 1) := dX9_drawOf_k161.2.2.2.2.2
set_option maxRecDepth 100000 in
theorem dX9_drawOf_k162 : (decode cX9_drawOf 75 = .ok (.istore 5, 2)) ∧ (decode cX9_drawOf 77 = .ok (.iinc 6 1, 3)) ∧ (decode cX9_drawOf 80 = .ok (.goto (-48), 3)) ∧ (decode cX9_drawOf 83 = .ok (.iload 5, 2)) ∧ (decode cX9_drawOf 85 = .ok (.ireturn, 1)) := by decide +kernel
theorem dX9_drawOf_75 : decode cX9_drawOf 75 = .ok (.istore 5, 2) := dX9_drawOf_k162.1
theorem dX9_drawOf_77 : decode cX9_drawOf 77 = .ok (.iinc 6 1, 3) := dX9_drawOf_k162.2.1
theorem dX9_drawOf_80 : decode cX9_drawOf 80 = .ok (.goto (-48), 3) := dX9_drawOf_k162.2.2.1
theorem dX9_drawOf_83 : decode cX9_drawOf 83 = .ok (.iload 5, 2) := dX9_drawOf_k162.2.2.2.1
theorem dX9_drawOf_85 : decode cX9_drawOf 85 = .ok (.ireturn, 1) := dX9_drawOf_k162.2.2.2.2
set_option maxRecDepth 100000 in
theorem dX9_canGo_k163 : (decode cX9_canGo 0 = .ok (.aload_n 0, 1)) ∧ (decode cX9_canGo 1 = .ok (.getfield 47, 3)) ∧ (decode cX9_canGo 4 = .ok (.iload_n 1, 1)) ∧ (decode cX9_canGo 5 = .ok (.iaload, 1)) ∧ (decode cX9_canGo 6 = .ok (.istore_n 3, 1)) ∧ (decode cX9_canGo 7 = .ok (.bipush 6, 2)) := by decide +kernel
theorem dX9_canGo_0 : decode cX9_canGo 0 = .ok (.aload_n 0, 1) := dX9_canGo_k163.1
theorem dX9_canGo_1 : decode cX9_canGo 1 = .ok (.getfield 47, 3) := dX9_canGo_k163.2.1
theorem dX9_canGo_4 : decode cX9_canGo 4 = .ok (.iload_n 1, 1) := dX9_canGo_k163.2.2.1
theorem dX9_canGo_5 : decode cX9_canGo 5 = .ok (.iaload, 1) := dX9_canGo_k163.2.2.2.1
theorem dX9_canGo_6 : decode cX9_canGo 6 = .ok (.istore_n 3, 1) := dX9_canGo_k163.2.2.2.2.1
theorem dX9_canGo_7 : decode cX9_canGo 7 = .ok (.bipush 6, 2) := dX9_canGo_k163.2.2.2.2.2
set_option maxRecDepth 100000 in
theorem dX9_canGo_k164 : (decode cX9_canGo 9 = .ok (.iload_n 3, 1)) ∧ (decode cX9_canGo 10 = .ok (.imul, 1)) ∧ (decode cX9_canGo 11 = .ok (.iload_n 2, 1)) ∧ (decode cX9_canGo 12 = .ok (.iadd, 1)) ∧ (decode cX9_canGo 13 = .ok (.istore 4, 2)) ∧ (decode cX9_canGo 15 = .ok (.aload_n 0, 1)) := by decide +kernel
theorem dX9_canGo_9 : decode cX9_canGo 9 = .ok (.iload_n 3, 1) := dX9_canGo_k164.1
theorem dX9_canGo_10 : decode cX9_canGo 10 = .ok (.imul, 1) := dX9_canGo_k164.2.1
theorem dX9_canGo_11 : decode cX9_canGo 11 = .ok (.iload_n 2, 1) := dX9_canGo_k164.2.2.1
theorem dX9_canGo_12 : decode cX9_canGo 12 = .ok (.iadd, 1) := dX9_canGo_k164.2.2.2.1
theorem dX9_canGo_13 : decode cX9_canGo 13 = .ok (.istore 4, 2) := dX9_canGo_k164.2.2.2.2.1
theorem dX9_canGo_15 : decode cX9_canGo 15 = .ok (.aload_n 0, 1) := dX9_canGo_k164.2.2.2.2.2
set_option maxRecDepth 100000 in
theorem dX9_canGo_k165 : (decode cX9_canGo 16 = .ok (.getfield 23, 3)) ∧ (decode cX9_canGo 19 = .ok (.iload 4, 2)) ∧ (decode cX9_canGo 21 = .ok (.iaload, 1)) ∧ (decode cX9_canGo 22 = .ok (.istore 5, 2)) ∧ (decode cX9_canGo 24 = .ok (.iconst 0, 1)) ∧ (decode cX9_canGo 25 = .ok (.istore 6, 2)) := by decide +kernel
theorem dX9_canGo_16 : decode cX9_canGo 16 = .ok (.getfield 23, 3) := dX9_canGo_k165.1
theorem dX9_canGo_19 : decode cX9_canGo 19 = .ok (.iload 4, 2) := dX9_canGo_k165.2.1
theorem dX9_canGo_21 : decode cX9_canGo 21 = .ok (.iaload, 1) := dX9_canGo_k165.2.2.1
theorem dX9_canGo_22 : decode cX9_canGo 22 = .ok (.istore 5, 2) := dX9_canGo_k165.2.2.2.1
theorem dX9_canGo_24 : decode cX9_canGo 24 = .ok (.iconst 0, 1) := dX9_canGo_k165.2.2.2.2.1
theorem dX9_canGo_25 : decode cX9_canGo 25 = .ok (.istore 6, 2) := dX9_canGo_k165.2.2.2.2.2
set_option maxRecDepth 100000 in
theorem dX9_canGo_k166 : (decode cX9_canGo 27 = .ok (.iload 6, 2)) ∧ (decode cX9_canGo 29 = .ok (.bipush 8, 2)) ∧ (decode cX9_canGo 31 = .ok (.if_icmp .ge 98, 3)) ∧ (decode cX9_canGo 34 = .ok (.aload_n 0, 1)) ∧ (decode cX9_canGo 35 = .ok (.getfield 88, 3)) ∧ (decode cX9_canGo 38 = .ok (.iload 6, 2)) := by decide +kernel
theorem dX9_canGo_27 : decode cX9_canGo 27 = .ok (.iload 6, 2) := dX9_canGo_k166.1
theorem dX9_canGo_29 : decode cX9_canGo 29 = .ok (.bipush 8, 2) := dX9_canGo_k166.2.1
theorem dX9_canGo_31 : decode cX9_canGo 31 = .ok (.if_icmp .ge 98, 3) := dX9_canGo_k166.2.2.1
theorem dX9_canGo_34 : decode cX9_canGo 34 = .ok (.aload_n 0, 1) := dX9_canGo_k166.2.2.2.1
theorem dX9_canGo_35 : decode cX9_canGo 35 = .ok (.getfield 88, 3) := dX9_canGo_k166.2.2.2.2.1
theorem dX9_canGo_38 : decode cX9_canGo 38 = .ok (.iload 6, 2) := dX9_canGo_k166.2.2.2.2.2
set_option maxRecDepth 100000 in
theorem dX9_canGo_k167 : (decode cX9_canGo 40 = .ok (.invokestatic 98, 3)) ∧ (decode cX9_canGo 43 = .ok (.ifCond .eq 62, 3)) ∧ (decode cX9_canGo 46 = .ok (.aload_n 0, 1)) ∧ (decode cX9_canGo 47 = .ok (.getfield 50, 3)) ∧ (decode cX9_canGo 50 = .ok (.iload 6, 2)) ∧ (decode cX9_canGo 52 = .ok (.iaload, 1)) := by decide +kernel
theorem dX9_canGo_40 : decode cX9_canGo 40 = .ok (.invokestatic 98, 3) := dX9_canGo_k167.1
theorem dX9_canGo_43 : decode cX9_canGo 43 = .ok (.ifCond .eq 62, 3) := dX9_canGo_k167.2.1
theorem dX9_canGo_46 : decode cX9_canGo 46 = .ok (.aload_n 0, 1) := dX9_canGo_k167.2.2.1
theorem dX9_canGo_47 : decode cX9_canGo 47 = .ok (.getfield 50, 3) := dX9_canGo_k167.2.2.2.1
theorem dX9_canGo_50 : decode cX9_canGo 50 = .ok (.iload 6, 2) := dX9_canGo_k167.2.2.2.2.1
theorem dX9_canGo_52 : decode cX9_canGo 52 = .ok (.iaload, 1) := dX9_canGo_k167.2.2.2.2.2
set_option maxRecDepth 100000 in
theorem dX9_canGo_k168 : (decode cX9_canGo 53 = .ok (.iconst 3, 1)) ∧ (decode cX9_canGo 54 = .ok (.if_icmp .ne 51, 3)) ∧ (decode cX9_canGo 57 = .ok (.aload_n 0, 1)) ∧ (decode cX9_canGo 58 = .ok (.getfield 47, 3)) ∧ (decode cX9_canGo 61 = .ok (.iload 6, 2)) ∧ (decode cX9_canGo 63 = .ok (.iaload, 1)) := by decide +kernel
theorem dX9_canGo_53 : decode cX9_canGo 53 = .ok (.iconst 3, 1) := dX9_canGo_k168.1
theorem dX9_canGo_54 : decode cX9_canGo 54 = .ok (.if_icmp .ne 51, 3) := dX9_canGo_k168.2.1
theorem dX9_canGo_57 : decode cX9_canGo 57 = .ok (.aload_n 0, 1) := dX9_canGo_k168.2.2.1
theorem dX9_canGo_58 : decode cX9_canGo 58 = .ok (.getfield 47, 3) := dX9_canGo_k168.2.2.2.1
theorem dX9_canGo_61 : decode cX9_canGo 61 = .ok (.iload 6, 2) := dX9_canGo_k168.2.2.2.2.1
theorem dX9_canGo_63 : decode cX9_canGo 63 = .ok (.iaload, 1) := dX9_canGo_k168.2.2.2.2.2
set_option maxRecDepth 100000 in
theorem dX9_canGo_k169 : (decode cX9_canGo 64 = .ok (.iload_n 3, 1)) ∧ (decode cX9_canGo 65 = .ok (.if_icmp .ne 14, 3)) ∧ (decode cX9_canGo 68 = .ok (.aload_n 0, 1)) ∧ (decode cX9_canGo 69 = .ok (.getfield 53, 3)) ∧ (decode cX9_canGo 72 = .ok (.iload 6, 2)) ∧ (decode cX9_canGo 74 = .ok (.iaload, 1)) := by decide +kernel
theorem dX9_canGo_64 : decode cX9_canGo 64 = .ok (.iload_n 3, 1) := dX9_canGo_k169.1
theorem dX9_canGo_65 : decode cX9_canGo 65 = .ok (.if_icmp .ne 14, 3) := dX9_canGo_k169.2.1
theorem dX9_canGo_68 : decode cX9_canGo 68 = .ok (.aload_n 0, 1) := dX9_canGo_k169.2.2.1
theorem dX9_canGo_69 : decode cX9_canGo 69 = .ok (.getfield 53, 3) := dX9_canGo_k169.2.2.2.1
theorem dX9_canGo_72 : decode cX9_canGo 72 = .ok (.iload 6, 2) := dX9_canGo_k169.2.2.2.2.1
theorem dX9_canGo_74 : decode cX9_canGo 74 = .ok (.iaload, 1) := dX9_canGo_k169.2.2.2.2.2
set_option maxRecDepth 100000 in
theorem dX9_canGo_k170 : (decode cX9_canGo 75 = .ok (.iload_n 2, 1)) ∧ (decode cX9_canGo 76 = .ok (.if_icmp .eq 25, 3)) ∧ (decode cX9_canGo 79 = .ok (.aload_n 0, 1)) ∧ (decode cX9_canGo 80 = .ok (.getfield 47, 3)) ∧ (decode cX9_canGo 83 = .ok (.iload 6, 2)) ∧ (decode cX9_canGo 85 = .ok (.iaload, 1)) := by decide +kernel
theorem dX9_canGo_75 : decode cX9_canGo 75 = .ok (.iload_n 2, 1) := dX9_canGo_k170.1
theorem dX9_canGo_76 : decode cX9_canGo 76 = .ok (.if_icmp .eq 25, 3) := dX9_canGo_k170.2.1
theorem dX9_canGo_79 : decode cX9_canGo 79 = .ok (.aload_n 0, 1) := dX9_canGo_k170.2.2.1
theorem dX9_canGo_80 : decode cX9_canGo 80 = .ok (.getfield 47, 3) := dX9_canGo_k170.2.2.2.1
theorem dX9_canGo_83 : decode cX9_canGo 83 = .ok (.iload 6, 2) := dX9_canGo_k170.2.2.2.2.1
theorem dX9_canGo_85 : decode cX9_canGo 85 = .ok (.iaload, 1) := dX9_canGo_k170.2.2.2.2.2
set_option maxRecDepth 100000 in
theorem dX9_canGo_k171 : (decode cX9_canGo 86 = .ok (.iload_n 2, 1)) ∧ (decode cX9_canGo 87 = .ok (.if_icmp .ne 18, 3)) ∧ (decode cX9_canGo 90 = .ok (.aload_n 0, 1)) ∧ (decode cX9_canGo 91 = .ok (.getfield 53, 3)) ∧ (decode cX9_canGo 94 = .ok (.iload 6, 2)) ∧ (decode cX9_canGo 96 = .ok (.iaload, 1)) := by decide +kernel
theorem dX9_canGo_86 : decode cX9_canGo 86 = .ok (.iload_n 2, 1) := dX9_canGo_k171.1
theorem dX9_canGo_87 : decode cX9_canGo 87 = .ok (.if_icmp .ne 18, 3) := dX9_canGo_k171.2.1
theorem dX9_canGo_90 : decode cX9_canGo 90 = .ok (.aload_n 0, 1) := dX9_canGo_k171.2.2.1
theorem dX9_canGo_91 : decode cX9_canGo 91 = .ok (.getfield 53, 3) := dX9_canGo_k171.2.2.2.1
theorem dX9_canGo_94 : decode cX9_canGo 94 = .ok (.iload 6, 2) := dX9_canGo_k171.2.2.2.2.1
theorem dX9_canGo_96 : decode cX9_canGo 96 = .ok (.iaload, 1) := dX9_canGo_k171.2.2.2.2.2
set_option maxRecDepth 100000 in
theorem dX9_canGo_k172 : (decode cX9_canGo 97 = .ok (.iload_n 3, 1)) ∧ (decode cX9_canGo 98 = .ok (.if_icmp .ne 7, 3)) ∧ (decode cX9_canGo 101 = .ok (.iconst 1, 1)) ∧ (decode cX9_canGo 102 = .ok (.goto 4, 3)) ∧ (decode cX9_canGo 105 = .ok (.iconst 0, 1)) ∧ (decode cX9_canGo 106 = .ok (.istore 7, 2)) := by decide +kernel
theorem dX9_canGo_97 : decode cX9_canGo 97 = .ok (.iload_n 3, 1) := dX9_canGo_k172.1
theorem dX9_canGo_98 : decode cX9_canGo 98 = .ok (.if_icmp .ne 7, 3) := dX9_canGo_k172.2.1
theorem dX9_canGo_101 : decode cX9_canGo 101 = .ok (.iconst 1, 1) := dX9_canGo_k172.2.2.1
theorem dX9_canGo_102 : decode cX9_canGo 102 = .ok (.goto 4, 3) := dX9_canGo_k172.2.2.2.1
theorem dX9_canGo_105 : decode cX9_canGo 105 = .ok (.iconst 0, 1) := dX9_canGo_k172.2.2.2.2.1
theorem dX9_canGo_106 : decode cX9_canGo 106 = .ok (.istore 7, 2) := dX9_canGo_k172.2.2.2.2.2
set_option maxRecDepth 100000 in
theorem dX9_canGo_k173 : (decode cX9_canGo 108 = .ok (.iload 5, 2)) ∧ (decode cX9_canGo 110 = .ok (.iload 7, 2)) ∧ (decode cX9_canGo 112 = .ok (.ifCond .eq 7, 3)) ∧ (decode cX9_canGo 115 = .ok (.iconst 1, 1)) ∧ (decode cX9_canGo 116 = .ok (.goto 4, 3)) ∧ (decode cX9_canGo 119 = .ok (.iconst 0, 1)) := by decide +kernel
theorem dX9_canGo_108 : decode cX9_canGo 108 = .ok (.iload 5, 2) := dX9_canGo_k173.1
theorem dX9_canGo_110 : decode cX9_canGo 110 = .ok (.iload 7, 2) := dX9_canGo_k173.2.1
theorem dX9_canGo_112 : decode cX9_canGo 112 = .ok (.ifCond .eq 7, 3) := dX9_canGo_k173.2.2.1
theorem dX9_canGo_115 : decode cX9_canGo 115 = .ok (.iconst 1, 1) := dX9_canGo_k173.2.2.2.1
theorem dX9_canGo_116 : decode cX9_canGo 116 = .ok (.goto 4, 3) := dX9_canGo_k173.2.2.2.2.1
theorem dX9_canGo_119 : decode cX9_canGo 119 = .ok (.iconst 0, 1) := dX9_canGo_k173.2.2.2.2.2
set_option maxRecDepth 100000 in
theorem dX9_canGo_k174 : (decode cX9_canGo 120 = .ok (.isub, 1)) ∧ (decode cX9_canGo 121 = .ok (.istore 5, 2)) ∧ (decode cX9_canGo 123 = .ok (.iinc 6 1, 3)) ∧ (decode cX9_canGo 126 = .ok (.goto (-99), 3)) ∧ (decode cX9_canGo 129 = .ok (.iload_n 3, 1)) ∧ (decode cX9_canGo 130 = .ok (.iload_n 2, 1)) := by decide +kernel
theorem dX9_canGo_120 : decode cX9_canGo 120 = .ok (.isub, 1) := dX9_canGo_k174.1
theorem dX9_canGo_121 : decode cX9_canGo 121 = .ok (.istore 5, 2) := dX9_canGo_k174.2.1
theorem dX9_canGo_123 : decode cX9_canGo 123 = .ok (.iinc 6 1, 3) := dX9_canGo_k174.2.2.1
theorem dX9_canGo_126 : decode cX9_canGo 126 = .ok (.goto (-99), 3) := dX9_canGo_k174.2.2.2.1
theorem dX9_canGo_129 : decode cX9_canGo 129 = .ok (.iload_n 3, 1) := dX9_canGo_k174.2.2.2.2.1
theorem dX9_canGo_130 : decode cX9_canGo 130 = .ok (.iload_n 2, 1) := dX9_canGo_k174.2.2.2.2.2
set_option maxRecDepth 100000 in
theorem dX9_canGo_k175 : (decode cX9_canGo 131 = .ok (.if_icmp .eq 51, 3)) ∧ (decode cX9_canGo 134 = .ok (.aload_n 0, 1)) ∧ (decode cX9_canGo 135 = .ok (.getfield 23, 3)) ∧ (decode cX9_canGo 138 = .ok (.iload 4, 2)) ∧ (decode cX9_canGo 140 = .ok (.iaload, 1)) ∧ (decode cX9_canGo 141 = .ok (.ifCond .le 41, 3)) := by decide +kernel
theorem dX9_canGo_131 : decode cX9_canGo 131 = .ok (.if_icmp .eq 51, 3) := dX9_canGo_k175.1
theorem dX9_canGo_134 : decode cX9_canGo 134 = .ok (.aload_n 0, 1) := dX9_canGo_k175.2.1
theorem dX9_canGo_135 : decode cX9_canGo 135 = .ok (.getfield 23, 3) := dX9_canGo_k175.2.2.1
theorem dX9_canGo_138 : decode cX9_canGo 138 = .ok (.iload 4, 2) := dX9_canGo_k175.2.2.2.1
theorem dX9_canGo_140 : decode cX9_canGo 140 = .ok (.iaload, 1) := dX9_canGo_k175.2.2.2.2.1
theorem dX9_canGo_141 : decode cX9_canGo 141 = .ok (.ifCond .le 41, 3) := dX9_canGo_k175.2.2.2.2.2
set_option maxRecDepth 100000 in
theorem dX9_canGo_k176 : (decode cX9_canGo 144 = .ok (.aload_n 0, 1)) ∧ (decode cX9_canGo 145 = .ok (.getfield 62, 3)) ∧ (decode cX9_canGo 148 = .ok (.iload 4, 2)) ∧ (decode cX9_canGo 150 = .ok (.iaload, 1)) ∧ (decode cX9_canGo 151 = .ok (.iload 5, 2)) ∧ (decode cX9_canGo 153 = .ok (.if_icmp .lt 25, 3)) := by decide +kernel
theorem dX9_canGo_144 : decode cX9_canGo 144 = .ok (.aload_n 0, 1) := dX9_canGo_k176.1
theorem dX9_canGo_145 : decode cX9_canGo 145 = .ok (.getfield 62, 3) := dX9_canGo_k176.2.1
theorem dX9_canGo_148 : decode cX9_canGo 148 = .ok (.iload 4, 2) := dX9_canGo_k176.2.2.1
theorem dX9_canGo_150 : decode cX9_canGo 150 = .ok (.iaload, 1) := dX9_canGo_k176.2.2.2.1
theorem dX9_canGo_151 : decode cX9_canGo 151 = .ok (.iload 5, 2) := dX9_canGo_k176.2.2.2.2.1
theorem dX9_canGo_153 : decode cX9_canGo 153 = .ok (.if_icmp .lt 25, 3) := dX9_canGo_k176.2.2.2.2.2
set_option maxRecDepth 100000 in
theorem dX9_canGo_k177 : (decode cX9_canGo 156 = .ok (.aload_n 0, 1)) ∧ (decode cX9_canGo 157 = .ok (.getfield 131, 3)) ∧ (decode cX9_canGo 160 = .ok (.iload 4, 2)) ∧ (decode cX9_canGo 162 = .ok (.if_icmp .eq 16, 3)) ∧ (decode cX9_canGo 165 = .ok (.aload_n 0, 1)) ∧ (decode cX9_canGo 166 = .ok (.getfield 131, 3)) := by decide +kernel
theorem dX9_canGo_156 : decode cX9_canGo 156 = .ok (.aload_n 0, 1) := dX9_canGo_k177.1
theorem dX9_canGo_157 : decode cX9_canGo 157 = .ok (.getfield 131, 3) := dX9_canGo_k177.2.1
theorem dX9_canGo_160 : decode cX9_canGo 160 = .ok (.iload 4, 2) := dX9_canGo_k177.2.2.1
theorem dX9_canGo_162 : decode cX9_canGo 162 = .ok (.if_icmp .eq 16, 3) := dX9_canGo_k177.2.2.2.1
theorem dX9_canGo_165 : decode cX9_canGo 165 = .ok (.aload_n 0, 1) := dX9_canGo_k177.2.2.2.2.1
theorem dX9_canGo_166 : decode cX9_canGo 166 = .ok (.getfield 131, 3) := dX9_canGo_k177.2.2.2.2.2
set_option maxRecDepth 100000 in
theorem dX9_canGo_k178 : (decode cX9_canGo 169 = .ok (.bipush 6, 2)) ∧ (decode cX9_canGo 171 = .ok (.iload_n 2, 1)) ∧ (decode cX9_canGo 172 = .ok (.imul, 1)) ∧ (decode cX9_canGo 173 = .ok (.iload_n 3, 1)) ∧ (decode cX9_canGo 174 = .ok (.iadd, 1)) ∧ (decode cX9_canGo 175 = .ok (.if_icmp .ne 7, 3)) := by decide +kernel
theorem dX9_canGo_169 : decode cX9_canGo 169 = .ok (.bipush 6, 2) := dX9_canGo_k178.1
theorem dX9_canGo_171 : decode cX9_canGo 171 = .ok (.iload_n 2, 1) := dX9_canGo_k178.2.1
theorem dX9_canGo_172 : decode cX9_canGo 172 = .ok (.imul, 1) := dX9_canGo_k178.2.2.1
theorem dX9_canGo_173 : decode cX9_canGo 173 = .ok (.iload_n 3, 1) := dX9_canGo_k178.2.2.2.1
theorem dX9_canGo_174 : decode cX9_canGo 174 = .ok (.iadd, 1) := dX9_canGo_k178.2.2.2.2.1
theorem dX9_canGo_175 : decode cX9_canGo 175 = .ok (.if_icmp .ne 7, 3) := dX9_canGo_k178.2.2.2.2.2
set_option maxRecDepth 100000 in
theorem dX9_canGo_k179 : (decode cX9_canGo 178 = .ok (.iconst 1, 1)) ∧ (decode cX9_canGo 179 = .ok (.goto 4, 3)) ∧ (decode cX9_canGo 182 = .ok (.iconst 0, 1)) ∧ (decode cX9_canGo 183 = .ok (.istore 6, 2)) ∧ (decode cX9_canGo 185 = .ok (.iload 6, 2)) ∧ (decode cX9_canGo 187 = .ok (.ifCond .eq 23, 3)) := by decide +kernel
theorem dX9_canGo_178 : decode cX9_canGo 178 = .ok (.iconst 1, 1) := dX9_canGo_k179.1
theorem dX9_canGo_179 : decode cX9_canGo 179 = .ok (.goto 4, 3) := dX9_canGo_k179.2.1
theorem dX9_canGo_182 : decode cX9_canGo 182 = .ok (.iconst 0, 1) := dX9_canGo_k179.2.2.1
theorem dX9_canGo_183 : decode cX9_canGo 183 = .ok (.istore 6, 2) := dX9_canGo_k179.2.2.2.1
theorem dX9_canGo_185 : decode cX9_canGo 185 = .ok (.iload 6, 2) := dX9_canGo_k179.2.2.2.2.1
theorem dX9_canGo_187 : decode cX9_canGo 187 = .ok (.ifCond .eq 23, 3) := dX9_canGo_k179.2.2.2.2.2
set_option maxRecDepth 100000 in
theorem dX9_canGo_k180 : (decode cX9_canGo 190 = .ok (.aload_n 0, 1)) ∧ (decode cX9_canGo 191 = .ok (.iload_n 2, 1)) ∧ (decode cX9_canGo 192 = .ok (.bipush (-6), 2)) ∧ (decode cX9_canGo 194 = .ok (.invokevirtual 134, 3)) ∧ (decode cX9_canGo 197 = .ok (.aload_n 0, 1)) ∧ (decode cX9_canGo 198 = .ok (.getfield 17, 3)) := by decide +kernel
theorem dX9_canGo_190 : decode cX9_canGo 190 = .ok (.aload_n 0, 1) := dX9_canGo_k180.1
theorem dX9_canGo_191 : decode cX9_canGo 191 = .ok (.iload_n 2, 1) := dX9_canGo_k180.2.1
theorem dX9_canGo_192 : decode cX9_canGo 192 = .ok (.bipush (-6), 2) := dX9_canGo_k180.2.2.1
theorem dX9_canGo_194 : decode cX9_canGo 194 = .ok (.invokevirtual 134, 3) := dX9_canGo_k180.2.2.2.1
theorem dX9_canGo_197 : decode cX9_canGo 197 = .ok (.aload_n 0, 1) := dX9_canGo_k180.2.2.2.2.1
theorem dX9_canGo_198 : decode cX9_canGo 198 = .ok (.getfield 17, 3) := dX9_canGo_k180.2.2.2.2.2
set_option maxRecDepth 100000 in
theorem dX9_canGo_k181 : (decode cX9_canGo 201 = .ok (.iload_n 2, 1)) ∧ (decode cX9_canGo 202 = .ok (.iaload, 1)) ∧ (decode cX9_canGo 203 = .ok (.if_icmp .ge 7, 3)) ∧ (decode cX9_canGo 206 = .ok (.iconst 1, 1)) ∧ (decode cX9_canGo 207 = .ok (.goto 4, 3)) ∧ (decode cX9_canGo 210 = .ok (.iconst 0, 1)) := by decide +kernel
theorem dX9_canGo_201 : decode cX9_canGo 201 = .ok (.iload_n 2, 1) := dX9_canGo_k181.1
theorem dX9_canGo_202 : decode cX9_canGo 202 = .ok (.iaload, 1) := dX9_canGo_k181.2.1
theorem dX9_canGo_203 : decode cX9_canGo 203 = .ok (.if_icmp .ge 7, 3) := dX9_canGo_k181.2.2.1
theorem dX9_canGo_206 : decode cX9_canGo 206 = .ok (.iconst 1, 1) := dX9_canGo_k181.2.2.2.1
theorem dX9_canGo_207 : decode cX9_canGo 207 = .ok (.goto 4, 3) := dX9_canGo_k181.2.2.2.2.1
theorem dX9_canGo_210 : decode cX9_canGo 210 = .ok (.iconst 0, 1) := dX9_canGo_k181.2.2.2.2.2
theorem dX9_canGo_211 : decode cX9_canGo 211 = .ok (.ireturn, 1) := by decide +kernel
set_option maxRecDepth 100000 in
theorem dX9_goal_k182 : (decode cX9_goal 0 = .ok (.aload_n 0, 1)) ∧ (decode cX9_goal 1 = .ok (.getfield 47, 3)) ∧ (decode cX9_goal 4 = .ok (.iload_n 1, 1)) ∧ (decode cX9_goal 5 = .ok (.iaload, 1)) ∧ (decode cX9_goal 6 = .ok (.istore 4, 2)) ∧ (decode cX9_goal 8 = .ok (.aload_n 0, 1)) := by decide +kernel
theorem dX9_goal_0 : decode cX9_goal 0 = .ok (.aload_n 0, 1) := dX9_goal_k182.1
theorem dX9_goal_1 : decode cX9_goal 1 = .ok (.getfield 47, 3) := dX9_goal_k182.2.1
theorem dX9_goal_4 : decode cX9_goal 4 = .ok (.iload_n 1, 1) := dX9_goal_k182.2.2.1
theorem dX9_goal_5 : decode cX9_goal 5 = .ok (.iaload, 1) := dX9_goal_k182.2.2.2.1
theorem dX9_goal_6 : decode cX9_goal 6 = .ok (.istore 4, 2) := dX9_goal_k182.2.2.2.2.1
theorem dX9_goal_8 : decode cX9_goal 8 = .ok (.aload_n 0, 1) := dX9_goal_k182.2.2.2.2.2
set_option maxRecDepth 100000 in
theorem dX9_goal_k183 : (decode cX9_goal 9 = .ok (.iload_n 1, 1)) ∧ (decode cX9_goal 10 = .ok (.iload 4, 2)) ∧ (decode cX9_goal 12 = .ok (.iload_n 2, 1)) ∧ (decode cX9_goal 13 = .ok (.iload_n 3, 1)) ∧ (decode cX9_goal 14 = .ok (.invokevirtual 138, 3)) ∧ (decode cX9_goal 17 = .ok (.istore 5, 2)) := by decide +kernel
theorem dX9_goal_9 : decode cX9_goal 9 = .ok (.iload_n 1, 1) := dX9_goal_k183.1
theorem dX9_goal_10 : decode cX9_goal 10 = .ok (.iload 4, 2) := dX9_goal_k183.2.1
theorem dX9_goal_12 : decode cX9_goal 12 = .ok (.iload_n 2, 1) := dX9_goal_k183.2.2.1
theorem dX9_goal_13 : decode cX9_goal 13 = .ok (.iload_n 3, 1) := dX9_goal_k183.2.2.2.1
theorem dX9_goal_14 : decode cX9_goal 14 = .ok (.invokevirtual 138, 3) := dX9_goal_k183.2.2.2.2.1
theorem dX9_goal_17 : decode cX9_goal 17 = .ok (.istore 5, 2) := dX9_goal_k183.2.2.2.2.2
set_option maxRecDepth 100000 in
theorem dX9_goal_k184 : (decode cX9_goal 19 = .ok (.iconst 0, 1)) ∧ (decode cX9_goal 20 = .ok (.istore 6, 2)) ∧ (decode cX9_goal 22 = .ok (.iload 6, 2)) ∧ (decode cX9_goal 24 = .ok (.aload_n 0, 1)) ∧ (decode cX9_goal 25 = .ok (.getfield 7, 3)) ∧ (decode cX9_goal 28 = .ok (.if_icmp .ge 45, 3)) := by decide +kernel
theorem dX9_goal_19 : decode cX9_goal 19 = .ok (.iconst 0, 1) := dX9_goal_k184.1
theorem dX9_goal_20 : decode cX9_goal 20 = .ok (.istore 6, 2) := dX9_goal_k184.2.1
theorem dX9_goal_22 : decode cX9_goal 22 = .ok (.iload 6, 2) := dX9_goal_k184.2.2.1
theorem dX9_goal_24 : decode cX9_goal 24 = .ok (.aload_n 0, 1) := dX9_goal_k184.2.2.2.1
theorem dX9_goal_25 : decode cX9_goal 25 = .ok (.getfield 7, 3) := dX9_goal_k184.2.2.2.2.1
theorem dX9_goal_28 : decode cX9_goal 28 = .ok (.if_icmp .ge 45, 3) := dX9_goal_k184.2.2.2.2.2
set_option maxRecDepth 100000 in
theorem dX9_goal_k185 : (decode cX9_goal 31 = .ok (.aload_n 0, 1)) ∧ (decode cX9_goal 32 = .ok (.iload_n 1, 1)) ∧ (decode cX9_goal 33 = .ok (.iload 6, 2)) ∧ (decode cX9_goal 35 = .ok (.iload_n 2, 1)) ∧ (decode cX9_goal 36 = .ok (.iload_n 3, 1)) ∧ (decode cX9_goal 37 = .ok (.invokevirtual 138, 3)) := by decide +kernel
theorem dX9_goal_31 : decode cX9_goal 31 = .ok (.aload_n 0, 1) := dX9_goal_k185.1
theorem dX9_goal_32 : decode cX9_goal 32 = .ok (.iload_n 1, 1) := dX9_goal_k185.2.1
theorem dX9_goal_33 : decode cX9_goal 33 = .ok (.iload 6, 2) := dX9_goal_k185.2.2.1
theorem dX9_goal_35 : decode cX9_goal 35 = .ok (.iload_n 2, 1) := dX9_goal_k185.2.2.2.1
theorem dX9_goal_36 : decode cX9_goal 36 = .ok (.iload_n 3, 1) := dX9_goal_k185.2.2.2.2.1
theorem dX9_goal_37 : decode cX9_goal 37 = .ok (.invokevirtual 138, 3) := dX9_goal_k185.2.2.2.2.2
set_option maxRecDepth 100000 in
theorem dX9_goal_k186 : (decode cX9_goal 40 = .ok (.istore 7, 2)) ∧ (decode cX9_goal 42 = .ok (.iload 7, 2)) ∧ (decode cX9_goal 44 = .ok (.iload 5, 2)) ∧ (decode cX9_goal 46 = .ok (.if_icmp .le 21, 3)) ∧ (decode cX9_goal 49 = .ok (.aload_n 0, 1)) ∧ (decode cX9_goal 50 = .ok (.iload_n 1, 1)) := by decide +kernel
theorem dX9_goal_40 : decode cX9_goal 40 = .ok (.istore 7, 2) := dX9_goal_k186.1
theorem dX9_goal_42 : decode cX9_goal 42 = .ok (.iload 7, 2) := dX9_goal_k186.2.1
theorem dX9_goal_44 : decode cX9_goal 44 = .ok (.iload 5, 2) := dX9_goal_k186.2.2.1
theorem dX9_goal_46 : decode cX9_goal 46 = .ok (.if_icmp .le 21, 3) := dX9_goal_k186.2.2.2.1
theorem dX9_goal_49 : decode cX9_goal 49 = .ok (.aload_n 0, 1) := dX9_goal_k186.2.2.2.2.1
theorem dX9_goal_50 : decode cX9_goal 50 = .ok (.iload_n 1, 1) := dX9_goal_k186.2.2.2.2.2
set_option maxRecDepth 100000 in
theorem dX9_goal_k187 : (decode cX9_goal 51 = .ok (.iload 6, 2)) ∧ (decode cX9_goal 53 = .ok (.invokevirtual 142, 3)) ∧ (decode cX9_goal 56 = .ok (.ifCond .eq 11, 3)) ∧ (decode cX9_goal 59 = .ok (.iload 6, 2)) ∧ (decode cX9_goal 61 = .ok (.istore 4, 2)) ∧ (decode cX9_goal 63 = .ok (.iload 7, 2)) := by decide +kernel
theorem dX9_goal_51 : decode cX9_goal 51 = .ok (.iload 6, 2) := dX9_goal_k187.1
theorem dX9_goal_53 : decode cX9_goal 53 = .ok (.invokevirtual 142, 3) := dX9_goal_k187.2.1
theorem dX9_goal_56 : decode cX9_goal 56 = .ok (.ifCond .eq 11, 3) := dX9_goal_k187.2.2.1
theorem dX9_goal_59 : decode cX9_goal 59 = .ok (.iload 6, 2) := dX9_goal_k187.2.2.2.1
theorem dX9_goal_61 : decode cX9_goal 61 = .ok (.istore 4, 2) := dX9_goal_k187.2.2.2.2.1
theorem dX9_goal_63 : decode cX9_goal 63 = .ok (.iload 7, 2) := dX9_goal_k187.2.2.2.2.2
set_option maxRecDepth 100000 in
theorem dX9_goal_k188 : (decode cX9_goal 65 = .ok (.istore 5, 2)) ∧ (decode cX9_goal 67 = .ok (.iinc 6 1, 3)) ∧ (decode cX9_goal 70 = .ok (.goto (-48), 3)) ∧ (decode cX9_goal 73 = .ok (.iload 4, 2)) ∧ (decode cX9_goal 75 = .ok (.ireturn, 1)) := by decide +kernel
theorem dX9_goal_65 : decode cX9_goal 65 = .ok (.istore 5, 2) := dX9_goal_k188.1
theorem dX9_goal_67 : decode cX9_goal 67 = .ok (.iinc 6 1, 3) := dX9_goal_k188.2.1
theorem dX9_goal_70 : decode cX9_goal 70 = .ok (.goto (-48), 3) := dX9_goal_k188.2.2.1
theorem dX9_goal_73 : decode cX9_goal 73 = .ok (.iload 4, 2) := dX9_goal_k188.2.2.2.1
theorem dX9_goal_75 : decode cX9_goal 75 = .ok (.ireturn, 1) := dX9_goal_k188.2.2.2.2
set_option maxRecDepth 100000 in
theorem dX9_shut_k189 : (decode cX9_shut 0 = .ok (.iconst 0, 1)) ∧ (decode cX9_shut 1 = .ok (.istore_n 1, 1)) ∧ (decode cX9_shut 2 = .ok (.iload_n 1, 1)) ∧ (decode cX9_shut 3 = .ok (.bipush 36, 2)) ∧ (decode cX9_shut 5 = .ok (.if_icmp .ge 16, 3)) ∧ (decode cX9_shut 8 = .ok (.aload_n 0, 1)) := by decide +kernel
theorem dX9_shut_0 : decode cX9_shut 0 = .ok (.iconst 0, 1) := dX9_shut_k189.1
theorem dX9_shut_1 : decode cX9_shut 1 = .ok (.istore_n 1, 1) := dX9_shut_k189.2.1
theorem dX9_shut_2 : decode cX9_shut 2 = .ok (.iload_n 1, 1) := dX9_shut_k189.2.2.1
theorem dX9_shut_3 : decode cX9_shut 3 = .ok (.bipush 36, 2) := dX9_shut_k189.2.2.2.1
theorem dX9_shut_5 : decode cX9_shut 5 = .ok (.if_icmp .ge 16, 3) := dX9_shut_k189.2.2.2.2.1
theorem dX9_shut_8 : decode cX9_shut 8 = .ok (.aload_n 0, 1) := dX9_shut_k189.2.2.2.2.2
set_option maxRecDepth 100000 in
theorem dX9_shut_k190 : (decode cX9_shut 9 = .ok (.getfield 62, 3)) ∧ (decode cX9_shut 12 = .ok (.iload_n 1, 1)) ∧ (decode cX9_shut 13 = .ok (.iconst 0, 1)) ∧ (decode cX9_shut 14 = .ok (.iastore, 1)) := by decide +kernel
theorem dX9_shut_9 : decode cX9_shut 9 = .ok (.getfield 62, 3) := dX9_shut_k190.1
theorem dX9_shut_12 : decode cX9_shut 12 = .ok (.iload_n 1, 1) := dX9_shut_k190.2.1
theorem dX9_shut_13 : decode cX9_shut 13 = .ok (.iconst 0, 1) := dX9_shut_k190.2.2.1
theorem dX9_shut_14 : decode cX9_shut 14 = .ok (.iastore, 1) := dX9_shut_k190.2.2.2
