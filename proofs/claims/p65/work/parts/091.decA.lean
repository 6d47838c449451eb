theorem dX0_init_0 : decode cX0_init 0 = .ok (.aload_n 0, 1) := by decide +kernel
theorem dX0_init_1 : decode cX0_init 1 = .ok (.invokespecial 3, 3) := by decide +kernel
theorem dX0_init_4 : decode cX0_init 4 = .ok (.aload_n 0, 1) := by decide +kernel
theorem dX0_init_5 : decode cX0_init 5 = .ok (.new 9, 3) := by decide +kernel
theorem dX0_init_8 : decode cX0_init 8 = .ok (.dup, 1) := by decide +kernel
theorem dX0_init_9 : decode cX0_init 9 = .ok (.invokespecial 11, 3) := by decide +kernel
theorem dX0_init_12 : decode cX0_init 12 = .ok (.putfield 12, 3) := by decide +kernel
theorem dX0_init_15 : decode cX0_init 15 = .ok (.aload_n 0, 1) := by decide +kernel
theorem dX0_init_16 : decode cX0_init 16 = .ok (.iconst 3, 1) := by decide +kernel
theorem dX0_init_17 : decode cX0_init 17 = .ok (.newarray .int, 2) := by decide +kernel
theorem dX0_init_19 : decode cX0_init 19 = .ok (.putfield 18, 3) := by decide +kernel
theorem dX0_init_22 : decode cX0_init 22 = .ok (.return_, 1) := by decide +kernel
theorem dX1_init_0 : decode cX1_init 0 = .ok (.aload_n 0, 1) := by decide +kernel
theorem dX1_init_1 : decode cX1_init 1 = .ok (.invokespecial 5, 3) := by decide +kernel
theorem dX1_init_4 : decode cX1_init 4 = .ok (.aload_n 0, 1) := by decide +kernel
theorem dX1_init_5 : decode cX1_init 5 = .ok (.bipush 12, 2) := by decide +kernel
theorem dX1_init_7 : decode cX1_init 7 = .ok (.newarray .int, 2) := by decide +kernel
theorem dX1_init_9 : decode cX1_init 9 = .ok (.putfield 11, 3) := by decide +kernel
theorem dX1_init_12 : decode cX1_init 12 = .ok (.aload_n 0, 1) := by decide +kernel
theorem dX1_init_13 : decode cX1_init 13 = .ok (.bipush 12, 2) := by decide +kernel
theorem dX1_init_15 : decode cX1_init 15 = .ok (.newarray .int, 2) := by decide +kernel
theorem dX1_init_17 : decode cX1_init 17 = .ok (.putfield 15, 3) := by decide +kernel
theorem dX1_init_20 : decode cX1_init 20 = .ok (.aload_n 0, 1) := by decide +kernel
theorem dX1_init_21 : decode cX1_init 21 = .ok (.bipush 12, 2) := by decide +kernel
theorem dX1_init_23 : decode cX1_init 23 = .ok (.newarray .int, 2) := by decide +kernel
theorem dX1_init_25 : decode cX1_init 25 = .ok (.putfield 18, 3) := by decide +kernel
theorem dX1_init_28 : decode cX1_init 28 = .ok (.aload_n 0, 1) := by decide +kernel
theorem dX1_init_29 : decode cX1_init 29 = .ok (.bipush 12, 2) := by decide +kernel
theorem dX1_init_31 : decode cX1_init 31 = .ok (.newarray .int, 2) := by decide +kernel
theorem dX1_init_33 : decode cX1_init 33 = .ok (.putfield 21, 3) := by decide +kernel
theorem dX1_init_36 : decode cX1_init 36 = .ok (.aload_n 0, 1) := by decide +kernel
theorem dX1_init_37 : decode cX1_init 37 = .ok (.bipush 12, 2) := by decide +kernel
theorem dX1_init_39 : decode cX1_init 39 = .ok (.newarray .int, 2) := by decide +kernel
theorem dX1_init_41 : decode cX1_init 41 = .ok (.putfield 24, 3) := by decide +kernel
theorem dX1_init_44 : decode cX1_init 44 = .ok (.aload_n 0, 1) := by decide +kernel
theorem dX1_init_45 : decode cX1_init 45 = .ok (.bipush 12, 2) := by decide +kernel
theorem dX1_init_47 : decode cX1_init 47 = .ok (.newarray .int, 2) := by decide +kernel
theorem dX1_init_49 : decode cX1_init 49 = .ok (.putfield 27, 3) := by decide +kernel
theorem dX1_init_52 : decode cX1_init 52 = .ok (.aload_n 0, 1) := by decide +kernel
theorem dX1_init_53 : decode cX1_init 53 = .ok (.bipush 90, 2) := by decide +kernel
theorem dX1_init_55 : decode cX1_init 55 = .ok (.newarray .int, 2) := by decide +kernel
theorem dX1_init_57 : decode cX1_init 57 = .ok (.putfield 30, 3) := by decide +kernel
theorem dX1_init_60 : decode cX1_init 60 = .ok (.aload_n 0, 1) := by decide +kernel
theorem dX1_init_61 : decode cX1_init 61 = .ok (.bipush 24, 2) := by decide +kernel
theorem dX1_init_63 : decode cX1_init 63 = .ok (.newarray .int, 2) := by decide +kernel
theorem dX1_init_65 : decode cX1_init 65 = .ok (.putfield 33, 3) := by decide +kernel
theorem dX1_init_68 : decode cX1_init 68 = .ok (.aload_n 0, 1) := by decide +kernel
theorem dX1_init_69 : decode cX1_init 69 = .ok (.bipush 24, 2) := by decide +kernel
theorem dX1_init_71 : decode cX1_init 71 = .ok (.newarray .int, 2) := by decide +kernel
theorem dX1_init_73 : decode cX1_init 73 = .ok (.putfield 36, 3) := by decide +kernel
theorem dX1_init_76 : decode cX1_init 76 = .ok (.aload_n 0, 1) := by decide +kernel
theorem dX1_init_77 : decode cX1_init 77 = .ok (.bipush 78, 2) := by decide +kernel
theorem dX1_init_79 : decode cX1_init 79 = .ok (.putfield 39, 3) := by decide +kernel
theorem dX1_init_82 : decode cX1_init 82 = .ok (.aload_n 0, 1) := by decide +kernel
theorem dX1_init_83 : decode cX1_init 83 = .ok (.sipush 999, 3) := by decide +kernel
theorem dX1_init_86 : decode cX1_init 86 = .ok (.putfield 43, 3) := by decide +kernel
theorem dX1_init_89 : decode cX1_init 89 = .ok (.return_, 1) := by decide +kernel
theorem dX1_copyFrom_0 : decode cX1_copyFrom 0 = .ok (.aload_n 1, 1) := by decide +kernel
theorem dX1_copyFrom_1 : decode cX1_copyFrom 1 = .ok (.getfield 11, 3) := by decide +kernel
theorem dX1_copyFrom_4 : decode cX1_copyFrom 4 = .ok (.aload_n 0, 1) := by decide +kernel
theorem dX1_copyFrom_5 : decode cX1_copyFrom 5 = .ok (.getfield 11, 3) := by decide +kernel
theorem dX1_copyFrom_8 : decode cX1_copyFrom 8 = .ok (.invokestatic 47, 3) := by decide +kernel
theorem dX1_copyFrom_11 : decode cX1_copyFrom 11 = .ok (.aload_n 1, 1) := by decide +kernel
theorem dX1_copyFrom_12 : decode cX1_copyFrom 12 = .ok (.getfield 15, 3) := by decide +kernel
theorem dX1_copyFrom_15 : decode cX1_copyFrom 15 = .ok (.aload_n 0, 1) := by decide +kernel
theorem dX1_copyFrom_16 : decode cX1_copyFrom 16 = .ok (.getfield 15, 3) := by decide +kernel
theorem dX1_copyFrom_19 : decode cX1_copyFrom 19 = .ok (.invokestatic 47, 3) := by decide +kernel
theorem dX1_copyFrom_22 : decode cX1_copyFrom 22 = .ok (.aload_n 1, 1) := by decide +kernel
theorem dX1_copyFrom_23 : decode cX1_copyFrom 23 = .ok (.getfield 18, 3) := by decide +kernel
theorem dX1_copyFrom_26 : decode cX1_copyFrom 26 = .ok (.aload_n 0, 1) := by decide +kernel
theorem dX1_copyFrom_27 : decode cX1_copyFrom 27 = .ok (.getfield 18, 3) := by decide +kernel
theorem dX1_copyFrom_30 : decode cX1_copyFrom 30 = .ok (.invokestatic 47, 3) := by decide +kernel
theorem dX1_copyFrom_33 : decode cX1_copyFrom 33 = .ok (.aload_n 1, 1) := by decide +kernel
theorem dX1_copyFrom_34 : decode cX1_copyFrom 34 = .ok (.getfield 21, 3) := by decide +kernel
theorem dX1_copyFrom_37 : decode cX1_copyFrom 37 = .ok (.aload_n 0, 1) := by decide +kernel
theorem dX1_copyFrom_38 : decode cX1_copyFrom 38 = .ok (.getfield 21, 3) := by decide +kernel
theorem dX1_copyFrom_41 : decode cX1_copyFrom 41 = .ok (.invokestatic 47, 3) := by decide +kernel
theorem dX1_copyFrom_44 : decode cX1_copyFrom 44 = .ok (.aload_n 1, 1) := by decide +kernel
theorem dX1_copyFrom_45 : decode cX1_copyFrom 45 = .ok (.getfield 24, 3) := by decide +kernel
theorem dX1_copyFrom_48 : decode cX1_copyFrom 48 = .ok (.aload_n 0, 1) := by decide +kernel
theorem dX1_copyFrom_49 : decode cX1_copyFrom 49 = .ok (.getfield 24, 3) := by decide +kernel
theorem dX1_copyFrom_52 : decode cX1_copyFrom 52 = .ok (.invokestatic 47, 3) := by decide +kernel
theorem dX1_copyFrom_55 : decode cX1_copyFrom 55 = .ok (.aload_n 1, 1) := by decide +kernel
theorem dX1_copyFrom_56 : decode cX1_copyFrom 56 = .ok (.getfield 27, 3) := by decide +kernel
theorem dX1_copyFrom_59 : decode cX1_copyFrom 59 = .ok (.aload_n 0, 1) := by decide +kernel
theorem dX1_copyFrom_60 : decode cX1_copyFrom 60 = .ok (.getfield 27, 3) := by decide +kernel
theorem dX1_copyFrom_63 : decode cX1_copyFrom 63 = .ok (.invokestatic 47, 3) := by decide +kernel
theorem dX1_copyFrom_66 : decode cX1_copyFrom 66 = .ok (.aload_n 1, 1) := by decide +kernel
theorem dX1_copyFrom_67 : decode cX1_copyFrom 67 = .ok (.getfield 30, 3) := by decide +kernel
theorem dX1_copyFrom_70 : decode cX1_copyFrom 70 = .ok (.aload_n 0, 1) := by decide +kernel
theorem dX1_copyFrom_71 : decode cX1_copyFrom 71 = .ok (.getfield 30, 3) := by decide +kernel
theorem dX1_copyFrom_74 : decode cX1_copyFrom 74 = .ok (.invokestatic 47, 3) := by decide +kernel
theorem dX1_copyFrom_77 : decode cX1_copyFrom 77 = .ok (.aload_n 1, 1) := by decide +kernel
theorem dX1_copyFrom_78 : decode cX1_copyFrom 78 = .ok (.getfield 33, 3) := by decide +kernel
theorem dX1_copyFrom_81 : decode cX1_copyFrom 81 = .ok (.aload_n 0, 1) := by decide +kernel
theorem dX1_copyFrom_82 : decode cX1_copyFrom 82 = .ok (.getfield 33, 3) := by decide +kernel
theorem dX1_copyFrom_85 : decode cX1_copyFrom 85 = .ok (.invokestatic 47, 3) := by decide +kernel
theorem dX1_copyFrom_88 : decode cX1_copyFrom 88 = .ok (.aload_n 1, 1) := by decide +kernel
theorem dX1_copyFrom_89 : decode cX1_copyFrom 89 = .ok (.getfield 36, 3) := by decide +kernel
theorem dX1_copyFrom_92 : decode cX1_copyFrom 92 = .ok (.aload_n 0, 1) := by decide +kernel
theorem dX1_copyFrom_93 : decode cX1_copyFrom 93 = .ok (.getfield 36, 3) := by decide +kernel
theorem dX1_copyFrom_96 : decode cX1_copyFrom 96 = .ok (.invokestatic 47, 3) := by decide +kernel
theorem dX1_copyFrom_99 : decode cX1_copyFrom 99 = .ok (.aload_n 0, 1) := by decide +kernel
theorem dX1_copyFrom_100 : decode cX1_copyFrom 100 = .ok (.aload_n 1, 1) := by decide +kernel
theorem dX1_copyFrom_101 : decode cX1_copyFrom 101 = .ok (.getfield 51, 3) := by decide +kernel
theorem dX1_copyFrom_104 : decode cX1_copyFrom 104 = .ok (.putfield 51, 3) := by decide +kernel
theorem dX1_copyFrom_107 : decode cX1_copyFrom 107 = .ok (.aload_n 0, 1) := by decide +kernel
theorem dX1_copyFrom_108 : decode cX1_copyFrom 108 = .ok (.aload_n 1, 1) := by decide +kernel
theorem dX1_copyFrom_109 : decode cX1_copyFrom 109 = .ok (.getfield 39, 3) := by decide +kernel
theorem dX1_copyFrom_112 : decode cX1_copyFrom 112 = .ok (.putfield 39, 3) := by decide +kernel
theorem dX1_copyFrom_115 : decode cX1_copyFrom 115 = .ok (.aload_n 0, 1) := by decide +kernel
theorem dX1_copyFrom_116 : decode cX1_copyFrom 116 = .ok (.aload_n 1, 1) := by decide +kernel
theorem dX1_copyFrom_117 : decode cX1_copyFrom 117 = .ok (.getfield 54, 3) := by decide +kernel
theorem dX1_copyFrom_120 : decode cX1_copyFrom 120 = .ok (.putfield 54, 3) := by decide +kernel
theorem dX1_copyFrom_123 : decode cX1_copyFrom 123 = .ok (.aload_n 0, 1) := by decide +kernel
theorem dX1_copyFrom_124 : decode cX1_copyFrom 124 = .ok (.aload_n 1, 1) := by decide +kernel
theorem dX1_copyFrom_125 : decode cX1_copyFrom 125 = .ok (.getfield 43, 3) := by decide +kernel
theorem dX1_copyFrom_128 : decode cX1_copyFrom 128 = .ok (.putfield 43, 3) := by decide +kernel
theorem dX1_copyFrom_131 : decode cX1_copyFrom 131 = .ok (.aload_n 0, 1) := by decide +kernel
theorem dX1_copyFrom_132 : decode cX1_copyFrom 132 = .ok (.aload_n 1, 1) := by decide +kernel
theorem dX1_copyFrom_133 : decode cX1_copyFrom 133 = .ok (.getfield 57, 3) := by decide +kernel
theorem dX1_copyFrom_136 : decode cX1_copyFrom 136 = .ok (.putfield 57, 3) := by decide +kernel
theorem dX1_copyFrom_139 : decode cX1_copyFrom 139 = .ok (.aload_n 0, 1) := by decide +kernel
theorem dX1_copyFrom_140 : decode cX1_copyFrom 140 = .ok (.aload_n 1, 1) := by decide +kernel
theorem dX1_copyFrom_141 : decode cX1_copyFrom 141 = .ok (.getfield 60, 3) := by decide +kernel
theorem dX1_copyFrom_144 : decode cX1_copyFrom 144 = .ok (.putfield 60, 3) := by decide +kernel
theorem dX1_copyFrom_147 : decode cX1_copyFrom 147 = .ok (.aload_n 0, 1) := by decide +kernel
theorem dX1_copyFrom_148 : decode cX1_copyFrom 148 = .ok (.aload_n 1, 1) := by decide +kernel
theorem dX1_copyFrom_149 : decode cX1_copyFrom 149 = .ok (.getfield 64, 3) := by decide +kernel
theorem dX1_copyFrom_152 : decode cX1_copyFrom 152 = .ok (.putfield 64, 3) := by decide +kernel
theorem dX1_copyFrom_155 : decode cX1_copyFrom 155 = .ok (.aload_n 0, 1) := by decide +kernel
theorem dX1_copyFrom_156 : decode cX1_copyFrom 156 = .ok (.aload_n 1, 1) := by decide +kernel
theorem dX1_copyFrom_157 : decode cX1_copyFrom 157 = .ok (.getfield 67, 3) := by decide +kernel
theorem dX1_copyFrom_160 : decode cX1_copyFrom 160 = .ok (.putfield 67, 3) := by decide +kernel
theorem dX1_copyFrom_163 : decode cX1_copyFrom 163 = .ok (.aload_n 0, 1) := by decide +kernel
theorem dX1_copyFrom_164 : decode cX1_copyFrom 164 = .ok (.aload_n 1, 1) := by decide +kernel
theorem dX1_copyFrom_165 : decode cX1_copyFrom 165 = .ok (.getfield 70, 3) := by decide +kernel
theorem dX1_copyFrom_168 : decode cX1_copyFrom 168 = .ok (.putfield 70, 3) := by decide +kernel
theorem dX1_copyFrom_171 : decode cX1_copyFrom 171 = .ok (.aload_n 0, 1) := by decide +kernel
theorem dX1_copyFrom_172 : decode cX1_copyFrom 172 = .ok (.aload_n 1, 1) := by decide +kernel
theorem dX1_copyFrom_173 : decode cX1_copyFrom 173 = .ok (.getfield 73, 3) := by decide +kernel
theorem dX1_copyFrom_176 : decode cX1_copyFrom 176 = .ok (.putfield 73, 3) := by decide +kernel
theorem dX1_copyFrom_179 : decode cX1_copyFrom 179 = .ok (.return_, 1) := by decide +kernel
theorem dX1_copyRow_0 : decode cX1_copyRow 0 = .ok (.iconst 0, 1) := by decide +kernel
theorem dX1_copyRow_1 : decode cX1_copyRow 1 = .ok (.istore_n 2, 1) := by decide +kernel
theorem dX1_copyRow_2 : decode cX1_copyRow 2 = .ok (.iload_n 2, 1) := by decide +kernel
theorem dX1_copyRow_3 : decode cX1_copyRow 3 = .ok (.aload_n 0, 1) := by decide +kernel
theorem dX1_copyRow_4 : decode cX1_copyRow 4 = .ok (.arraylength, 1) := by decide +kernel
theorem dX1_copyRow_5 : decode cX1_copyRow 5 = .ok (.if_icmp .ge 21, 3) := by decide +kernel
theorem dX1_copyRow_8 : decode cX1_copyRow 8 = .ok (.iload_n 2, 1) := by decide +kernel
theorem dX1_copyRow_9 : decode cX1_copyRow 9 = .ok (.aload_n 1, 1) := by decide +kernel
theorem dX1_copyRow_10 : decode cX1_copyRow 10 = .ok (.arraylength, 1) := by decide +kernel
theorem dX1_copyRow_11 : decode cX1_copyRow 11 = .ok (.if_icmp .ge 15, 3) := by decide +kernel
theorem dX1_copyRow_14 : decode cX1_copyRow 14 = .ok (.aload_n 1, 1) := by decide +kernel
theorem dX1_copyRow_15 : decode cX1_copyRow 15 = .ok (.iload_n 2, 1) := by decide +kernel
theorem dX1_copyRow_16 : decode cX1_copyRow 16 = .ok (.aload_n 0, 1) := by decide +kernel
theorem dX1_copyRow_17 : decode cX1_copyRow 17 = .ok (.iload_n 2, 1) := by decide +kernel
theorem dX1_copyRow_18 : decode cX1_copyRow 18 = .ok (.iaload, 1) := by decide +kernel
theorem dX1_copyRow_19 : decode cX1_copyRow 19 = .ok (.iastore, 1) := by decide +kernel
theorem dX1_copyRow_20 : decode cX1_copyRow 20 = .ok (.iinc 2 1, 3) := by decide +kernel
theorem dX1_copyRow_23 : decode cX1_copyRow 23 = .ok (.goto (-21), 3) := by decide +kernel
theorem dX1_copyRow_26 : decode cX1_copyRow 26 = .ok (.return_, 1) := by decide +kernel
theorem dX1_hasTurbine_0 : decode cX1_hasTurbine 0 = .ok (.iload_n 1, 1) := by decide +kernel
theorem dX1_hasTurbine_1 : decode cX1_hasTurbine 1 = .ok (.ifCond .lt 15, 3) := by decide +kernel
theorem dX1_hasTurbine_4 : decode cX1_hasTurbine 4 = .ok (.iload_n 1, 1) := by decide +kernel
theorem dX1_hasTurbine_5 : decode cX1_hasTurbine 5 = .ok (.aload_n 0, 1) := by decide +kernel
theorem dX1_hasTurbine_6 : decode cX1_hasTurbine 6 = .ok (.getfield 51, 3) := by decide +kernel
theorem dX1_hasTurbine_9 : decode cX1_hasTurbine 9 = .ok (.if_icmp .ge 7, 3) := by decide +kernel
theorem dX1_hasTurbine_12 : decode cX1_hasTurbine 12 = .ok (.iconst 1, 1) := by decide +kernel
theorem dX1_hasTurbine_13 : decode cX1_hasTurbine 13 = .ok (.goto 4, 3) := by decide +kernel
theorem dX1_hasTurbine_16 : decode cX1_hasTurbine 16 = .ok (.iconst 0, 1) := by decide +kernel
theorem dX1_hasTurbine_17 : decode cX1_hasTurbine 17 = .ok (.ireturn, 1) := by decide +kernel
theorem dX1_turbineIn_0 : decode cX1_turbineIn 0 = .ok (.aload_n 0, 1) := by decide +kernel
theorem dX1_turbineIn_1 : decode cX1_turbineIn 1 = .ok (.getfield 30, 3) := by decide +kernel
theorem dX1_turbineIn_4 : decode cX1_turbineIn 4 = .ok (.iload_n 1, 1) := by decide +kernel
theorem dX1_turbineIn_5 : decode cX1_turbineIn 5 = .ok (.iload_n 2, 1) := by decide +kernel
theorem dX1_turbineIn_6 : decode cX1_turbineIn 6 = .ok (.invokestatic 76, 3) := by decide +kernel
theorem dX1_turbineIn_9 : decode cX1_turbineIn 9 = .ok (.invokestatic 80, 3) := by decide +kernel
theorem dX1_turbineIn_12 : decode cX1_turbineIn 12 = .ok (.iconst 1, 1) := by decide +kernel
theorem dX1_turbineIn_13 : decode cX1_turbineIn 13 = .ok (.isub, 1) := by decide +kernel
theorem dX1_turbineIn_14 : decode cX1_turbineIn 14 = .ok (.ireturn, 1) := by decide +kernel
theorem dX1_isInState_0 : decode cX1_isInState 0 = .ok (.iload_n 1, 1) := by decide +kernel
theorem dX1_isInState_1 : decode cX1_isInState 1 = .ok (.ifCond .lt 26, 3) := by decide +kernel
theorem dX1_isInState_4 : decode cX1_isInState 4 = .ok (.iload_n 1, 1) := by decide +kernel
theorem dX1_isInState_5 : decode cX1_isInState 5 = .ok (.aload_n 0, 1) := by decide +kernel
theorem dX1_isInState_6 : decode cX1_isInState 6 = .ok (.getfield 21, 3) := by decide +kernel
theorem dX1_isInState_9 : decode cX1_isInState 9 = .ok (.arraylength, 1) := by decide +kernel
theorem dX1_isInState_10 : decode cX1_isInState 10 = .ok (.if_icmp .ge 17, 3) := by decide +kernel
theorem dX1_isInState_13 : decode cX1_isInState 13 = .ok (.aload_n 0, 1) := by decide +kernel
theorem dX1_isInState_14 : decode cX1_isInState 14 = .ok (.getfield 21, 3) := by decide +kernel
theorem dX1_isInState_17 : decode cX1_isInState 17 = .ok (.iload_n 1, 1) := by decide +kernel
theorem dX1_isInState_18 : decode cX1_isInState 18 = .ok (.iaload, 1) := by decide +kernel
theorem dX1_isInState_19 : decode cX1_isInState 19 = .ok (.iload_n 2, 1) := by decide +kernel
theorem dX1_isInState_20 : decode cX1_isInState 20 = .ok (.if_icmp .ne 7, 3) := by decide +kernel
theorem dX1_isInState_23 : decode cX1_isInState 23 = .ok (.iconst 1, 1) := by decide +kernel
theorem dX1_isInState_24 : decode cX1_isInState 24 = .ok (.goto 4, 3) := by decide +kernel
theorem dX1_isInState_27 : decode cX1_isInState 27 = .ok (.iconst 0, 1) := by decide +kernel
theorem dX1_isInState_28 : decode cX1_isInState 28 = .ok (.ireturn, 1) := by decide +kernel
theorem dX1_isCurtailed_0 : decode cX1_isCurtailed 0 = .ok (.aload_n 0, 1) := by decide +kernel
theorem dX1_isCurtailed_1 : decode cX1_isCurtailed 1 = .ok (.iload_n 1, 1) := by decide +kernel
theorem dX1_isCurtailed_2 : decode cX1_isCurtailed 2 = .ok (.iconst 1, 1) := by decide +kernel
theorem dX1_isCurtailed_3 : decode cX1_isCurtailed 3 = .ok (.invokevirtual 84, 3) := by decide +kernel
theorem dX1_isCurtailed_6 : decode cX1_isCurtailed 6 = .ok (.ifCond .eq 19, 3) := by decide +kernel
theorem dX1_isCurtailed_9 : decode cX1_isCurtailed 9 = .ok (.aload_n 0, 1) := by decide +kernel
theorem dX1_isCurtailed_10 : decode cX1_isCurtailed 10 = .ok (.getfield 24, 3) := by decide +kernel
theorem dX1_isCurtailed_13 : decode cX1_isCurtailed 13 = .ok (.iload_n 1, 1) := by decide +kernel
theorem dX1_isCurtailed_14 : decode cX1_isCurtailed 14 = .ok (.invokestatic 80, 3) := by decide +kernel
theorem dX1_isCurtailed_17 : decode cX1_isCurtailed 17 = .ok (.iconst (-1), 1) := by decide +kernel
theorem dX1_isCurtailed_18 : decode cX1_isCurtailed 18 = .ok (.if_icmp .eq 7, 3) := by decide +kernel
theorem dX1_isCurtailed_21 : decode cX1_isCurtailed 21 = .ok (.iconst 1, 1) := by decide +kernel
theorem dX1_isCurtailed_22 : decode cX1_isCurtailed 22 = .ok (.goto 4, 3) := by decide +kernel
theorem dX1_isCurtailed_25 : decode cX1_isCurtailed 25 = .ok (.iconst 0, 1) := by decide +kernel
theorem dX1_isCurtailed_26 : decode cX1_isCurtailed 26 = .ok (.ireturn, 1) := by decide +kernel
theorem dX1_countInState_0 : decode cX1_countInState 0 = .ok (.iconst 0, 1) := by decide +kernel
theorem dX1_countInState_1 : decode cX1_countInState 1 = .ok (.istore_n 2, 1) := by decide +kernel
theorem dX1_countInState_2 : decode cX1_countInState 2 = .ok (.iconst 0, 1) := by decide +kernel
theorem dX1_countInState_3 : decode cX1_countInState 3 = .ok (.istore_n 3, 1) := by decide +kernel
theorem dX1_countInState_4 : decode cX1_countInState 4 = .ok (.iload_n 3, 1) := by decide +kernel
theorem dX1_countInState_5 : decode cX1_countInState 5 = .ok (.aload_n 0, 1) := by decide +kernel
theorem dX1_countInState_6 : decode cX1_countInState 6 = .ok (.getfield 51, 3) := by decide +kernel
theorem dX1_countInState_9 : decode cX1_countInState 9 = .ok (.if_icmp .ge 21, 3) := by decide +kernel
theorem dX1_countInState_12 : decode cX1_countInState 12 = .ok (.aload_n 0, 1) := by decide +kernel
theorem dX1_countInState_13 : decode cX1_countInState 13 = .ok (.iload_n 3, 1) := by decide +kernel
theorem dX1_countInState_14 : decode cX1_countInState 14 = .ok (.iload_n 1, 1) := by decide +kernel
theorem dX1_countInState_15 : decode cX1_countInState 15 = .ok (.invokevirtual 84, 3) := by decide +kernel
theorem dX1_countInState_18 : decode cX1_countInState 18 = .ok (.ifCond .eq 6, 3) := by decide +kernel
theorem dX1_countInState_21 : decode cX1_countInState 21 = .ok (.iinc 2 1, 3) := by decide +kernel
theorem dX1_countInState_24 : decode cX1_countInState 24 = .ok (.iinc 3 1, 3) := by decide +kernel
theorem dX1_countInState_27 : decode cX1_countInState 27 = .ok (.goto (-23), 3) := by decide +kernel
theorem dX1_countInState_30 : decode cX1_countInState 30 = .ok (.iload_n 2, 1) := by decide +kernel
theorem dX1_countInState_31 : decode cX1_countInState 31 = .ok (.ireturn, 1) := by decide +kernel
theorem dX1_crewsLeft_0 : decode cX1_crewsLeft 0 = .ok (.iconst 2, 1) := by decide +kernel
theorem dX1_crewsLeft_1 : decode cX1_crewsLeft 1 = .ok (.aload_n 0, 1) := by decide +kernel
theorem dX1_crewsLeft_2 : decode cX1_crewsLeft 2 = .ok (.iconst 3, 1) := by decide +kernel
theorem dX1_crewsLeft_3 : decode cX1_crewsLeft 3 = .ok (.invokevirtual 88, 3) := by decide +kernel
theorem dX1_crewsLeft_6 : decode cX1_crewsLeft 6 = .ok (.isub, 1) := by decide +kernel
theorem dX1_crewsLeft_7 : decode cX1_crewsLeft 7 = .ok (.ireturn, 1) := by decide +kernel
theorem dX1_firstInService_0 : decode cX1_firstInService 0 = .ok (.iconst 0, 1) := by decide +kernel
theorem dX1_firstInService_1 : decode cX1_firstInService 1 = .ok (.istore_n 1, 1) := by decide +kernel
theorem dX1_firstInService_2 : decode cX1_firstInService 2 = .ok (.iload_n 1, 1) := by decide +kernel
theorem dX1_firstInService_3 : decode cX1_firstInService 3 = .ok (.aload_n 0, 1) := by decide +kernel
theorem dX1_firstInService_4 : decode cX1_firstInService 4 = .ok (.getfield 51, 3) := by decide +kernel
theorem dX1_firstInService_7 : decode cX1_firstInService 7 = .ok (.if_icmp .ge 20, 3) := by decide +kernel
theorem dX1_firstInService_10 : decode cX1_firstInService 10 = .ok (.aload_n 0, 1) := by decide +kernel
theorem dX1_firstInService_11 : decode cX1_firstInService 11 = .ok (.iload_n 1, 1) := by decide +kernel
theorem dX1_firstInService_12 : decode cX1_firstInService 12 = .ok (.iconst 3, 1) := by decide +kernel
theorem dX1_firstInService_13 : decode cX1_firstInService 13 = .ok (.invokevirtual 84, 3) := by decide +kernel
theorem dX1_firstInService_16 : decode cX1_firstInService 16 = .ok (.ifCond .eq 5, 3) := by decide +kernel
theorem dX1_firstInService_19 : decode cX1_firstInService 19 = .ok (.iload_n 1, 1) := by decide +kernel
theorem dX1_firstInService_20 : decode cX1_firstInService 20 = .ok (.ireturn, 1) := by decide +kernel
theorem dX1_firstInService_21 : decode cX1_firstInService 21 = .ok (.iinc 1 1, 3) := by decide +kernel
theorem dX1_firstInService_24 : decode cX1_firstInService 24 = .ok (.goto (-22), 3) := by decide +kernel
theorem dX1_firstInService_27 : decode cX1_firstInService 27 = .ok (.iconst (-1), 1) := by decide +kernel
theorem dX1_firstInService_28 : decode cX1_firstInService 28 = .ok (.ireturn, 1) := by decide +kernel
theorem dX1_isBidFor_0 : decode cX1_isBidFor 0 = .ok (.aload_n 0, 1) := by decide +kernel
theorem dX1_isBidFor_1 : decode cX1_isBidFor 1 = .ok (.getfield 36, 3) := by decide +kernel
theorem dX1_isBidFor_4 : decode cX1_isBidFor 4 = .ok (.iload_n 1, 1) := by decide +kernel
theorem dX1_isBidFor_5 : decode cX1_isBidFor 5 = .ok (.invokestatic 80, 3) := by decide +kernel
theorem dX1_isBidFor_8 : decode cX1_isBidFor 8 = .ok (.ifCond .le 7, 3) := by decide +kernel
theorem dX1_isBidFor_11 : decode cX1_isBidFor 11 = .ok (.iconst 1, 1) := by decide +kernel
theorem dX1_isBidFor_12 : decode cX1_isBidFor 12 = .ok (.goto 4, 3) := by decide +kernel
theorem dX1_isBidFor_15 : decode cX1_isBidFor 15 = .ok (.iconst 0, 1) := by decide +kernel
theorem dX1_isBidFor_16 : decode cX1_isBidFor 16 = .ok (.ireturn, 1) := by decide +kernel
theorem dX1_countBids_0 : decode cX1_countBids 0 = .ok (.iconst 0, 1) := by decide +kernel
theorem dX1_countBids_1 : decode cX1_countBids 1 = .ok (.istore_n 1, 1) := by decide +kernel
theorem dX1_countBids_2 : decode cX1_countBids 2 = .ok (.iconst 0, 1) := by decide +kernel
theorem dX1_countBids_3 : decode cX1_countBids 3 = .ok (.istore_n 2, 1) := by decide +kernel
theorem dX1_countBids_4 : decode cX1_countBids 4 = .ok (.iload_n 2, 1) := by decide +kernel
theorem dX1_countBids_5 : decode cX1_countBids 5 = .ok (.bipush 24, 2) := by decide +kernel
theorem dX1_countBids_7 : decode cX1_countBids 7 = .ok (.if_icmp .ge 20, 3) := by decide +kernel
theorem dX1_countBids_10 : decode cX1_countBids 10 = .ok (.aload_n 0, 1) := by decide +kernel
theorem dX1_countBids_11 : decode cX1_countBids 11 = .ok (.iload_n 2, 1) := by decide +kernel
theorem dX1_countBids_12 : decode cX1_countBids 12 = .ok (.invokevirtual 92, 3) := by decide +kernel
theorem dX1_countBids_15 : decode cX1_countBids 15 = .ok (.ifCond .eq 6, 3) := by decide +kernel
theorem dX1_countBids_18 : decode cX1_countBids 18 = .ok (.iinc 1 1, 3) := by decide +kernel
theorem dX1_countBids_21 : decode cX1_countBids 21 = .ok (.iinc 2 1, 3) := by decide +kernel
theorem dX1_countBids_24 : decode cX1_countBids 24 = .ok (.goto (-20), 3) := by decide +kernel
theorem dX1_countBids_27 : decode cX1_countBids 27 = .ok (.iload_n 1, 1) := by decide +kernel
theorem dX1_countBids_28 : decode cX1_countBids 28 = .ok (.ireturn, 1) := by decide +kernel
theorem dX1_placeOf_0 : decode cX1_placeOf 0 = .ok (.iload_n 0, 1) := by decide +kernel
theorem dX1_placeOf_1 : decode cX1_placeOf 1 = .ok (.iconst 2, 1) := by decide +kernel
theorem dX1_placeOf_2 : decode cX1_placeOf 2 = .ok (.iadd, 1) := by decide +kernel
theorem dX1_placeOf_3 : decode cX1_placeOf 3 = .ok (.bipush 10, 2) := by decide +kernel
theorem dX1_placeOf_5 : decode cX1_placeOf 5 = .ok (.imul, 1) := by decide +kernel
theorem dX1_placeOf_6 : decode cX1_placeOf 6 = .ok (.iload_n 1, 1) := by decide +kernel
theorem dX1_placeOf_7 : decode cX1_placeOf 7 = .ok (.iadd, 1) := by decide +kernel
theorem dX1_placeOf_8 : decode cX1_placeOf 8 = .ok (.iconst 2, 1) := by decide +kernel
theorem dX1_placeOf_9 : decode cX1_placeOf 9 = .ok (.iadd, 1) := by decide +kernel
theorem dX1_placeOf_10 : decode cX1_placeOf 10 = .ok (.ireturn, 1) := by decide +kernel
theorem dX1_stepTowards_0 : decode cX1_stepTowards 0 = .ok (.iload_n 0, 1) := by decide +kernel
theorem dX1_stepTowards_1 : decode cX1_stepTowards 1 = .ok (.lookupswitch 43 #[(69, 38), (78, 35), (83, 40)], 35) := by decide +kernel
theorem dX1_stepTowards_36 : decode cX1_stepTowards 36 = .ok (.bipush (-10), 2) := by decide +kernel
theorem dX1_stepTowards_38 : decode cX1_stepTowards 38 = .ok (.ireturn, 1) := by decide +kernel
theorem dX1_stepTowards_39 : decode cX1_stepTowards 39 = .ok (.iconst 1, 1) := by decide +kernel
theorem dX1_stepTowards_40 : decode cX1_stepTowards 40 = .ok (.ireturn, 1) := by decide +kernel
theorem dX1_stepTowards_41 : decode cX1_stepTowards 41 = .ok (.bipush 10, 2) := by decide +kernel
theorem dX1_stepTowards_43 : decode cX1_stepTowards 43 = .ok (.ireturn, 1) := by decide +kernel
theorem dX1_stepTowards_44 : decode cX1_stepTowards 44 = .ok (.iconst (-1), 1) := by decide +kernel
theorem dX1_stepTowards_45 : decode cX1_stepTowards 45 = .ok (.ireturn, 1) := by decide +kernel
theorem dX1_lossIn_0 : decode cX1_lossIn 0 = .ok (.aload_n 0, 1) := by decide +kernel
theorem dX1_lossIn_1 : decode cX1_lossIn 1 = .ok (.getfield 11, 3) := by decide +kernel
theorem dX1_lossIn_4 : decode cX1_lossIn 4 = .ok (.iload_n 1, 1) := by decide +kernel
theorem dX1_lossIn_5 : decode cX1_lossIn 5 = .ok (.invokestatic 80, 3) := by decide +kernel
theorem dX1_lossIn_8 : decode cX1_lossIn 8 = .ok (.aload_n 0, 1) := by decide +kernel
theorem dX1_lossIn_9 : decode cX1_lossIn 9 = .ok (.getfield 15, 3) := by decide +kernel
theorem dX1_lossIn_12 : decode cX1_lossIn 12 = .ok (.iload_n 1, 1) := by decide +kernel
theorem dX1_lossIn_13 : decode cX1_lossIn 13 = .ok (.invokestatic 80, 3) := by decide +kernel
theorem dX1_lossIn_16 : decode cX1_lossIn 16 = .ok (.invokestatic 76, 3) := by decide +kernel
theorem dX1_lossIn_19 : decode cX1_lossIn 19 = .ok (.istore_n 3, 1) := by decide +kernel
theorem dX1_lossIn_20 : decode cX1_lossIn 20 = .ok (.iload_n 2, 1) := by decide +kernel
theorem dX1_lossIn_21 : decode cX1_lossIn 21 = .ok (.invokestatic 96, 3) := by decide +kernel
theorem dX1_lossIn_24 : decode cX1_lossIn 24 = .ok (.istore 4, 2) := by decide +kernel
theorem dX1_lossIn_26 : decode cX1_lossIn 26 = .ok (.aload_n 0, 1) := by decide +kernel
theorem dX1_lossIn_27 : decode cX1_lossIn 27 = .ok (.getfield 30, 3) := by decide +kernel
theorem dX1_lossIn_30 : decode cX1_lossIn 30 = .ok (.iload_n 3, 1) := by decide +kernel
theorem dX1_lossIn_31 : decode cX1_lossIn 31 = .ok (.iload 4, 2) := by decide +kernel
theorem dX1_lossIn_33 : decode cX1_lossIn 33 = .ok (.iadd, 1) := by decide +kernel
theorem dX1_lossIn_34 : decode cX1_lossIn 34 = .ok (.invokestatic 80, 3) := by decide +kernel
theorem dX1_lossIn_37 : decode cX1_lossIn 37 = .ok (.iconst 1, 1) := by decide +kernel
theorem dX1_lossIn_38 : decode cX1_lossIn 38 = .ok (.isub, 1) := by decide +kernel
theorem dX1_lossIn_39 : decode cX1_lossIn 39 = .ok (.istore 5, 2) := by decide +kernel
theorem dX1_lossIn_41 : decode cX1_lossIn 41 = .ok (.aload_n 0, 1) := by decide +kernel
theorem dX1_lossIn_42 : decode cX1_lossIn 42 = .ok (.getfield 30, 3) := by decide +kernel
theorem dX1_lossIn_45 : decode cX1_lossIn 45 = .ok (.iload_n 3, 1) := by decide +kernel
theorem dX1_lossIn_46 : decode cX1_lossIn 46 = .ok (.iconst 2, 1) := by decide +kernel
theorem dX1_lossIn_47 : decode cX1_lossIn 47 = .ok (.iload 4, 2) := by decide +kernel
theorem dX1_lossIn_49 : decode cX1_lossIn 49 = .ok (.imul, 1) := by decide +kernel
theorem dX1_lossIn_50 : decode cX1_lossIn 50 = .ok (.iadd, 1) := by decide +kernel
theorem dX1_lossIn_51 : decode cX1_lossIn 51 = .ok (.invokestatic 80, 3) := by decide +kernel
theorem dX1_lossIn_54 : decode cX1_lossIn 54 = .ok (.iconst 1, 1) := by decide +kernel
theorem dX1_lossIn_55 : decode cX1_lossIn 55 = .ok (.isub, 1) := by decide +kernel
theorem dX1_lossIn_56 : decode cX1_lossIn 56 = .ok (.istore 6, 2) := by decide +kernel
theorem dX1_lossIn_58 : decode cX1_lossIn 58 = .ok (.aload_n 0, 1) := by decide +kernel
theorem dX1_lossIn_59 : decode cX1_lossIn 59 = .ok (.iload 5, 2) := by decide +kernel
theorem dX1_lossIn_61 : decode cX1_lossIn 61 = .ok (.iconst 1, 1) := by decide +kernel
theorem dX1_lossIn_62 : decode cX1_lossIn 62 = .ok (.invokevirtual 84, 3) := by decide +kernel
theorem dX1_lossIn_65 : decode cX1_lossIn 65 = .ok (.aload_n 0, 1) := by decide +kernel
theorem dX1_lossIn_66 : decode cX1_lossIn 66 = .ok (.iload 6, 2) := by decide +kernel
theorem dX1_lossIn_68 : decode cX1_lossIn 68 = .ok (.iconst 1, 1) := by decide +kernel
theorem dX1_lossIn_69 : decode cX1_lossIn 69 = .ok (.invokevirtual 84, 3) := by decide +kernel
theorem dX1_lossIn_72 : decode cX1_lossIn 72 = .ok (.invokestatic 100, 3) := by decide +kernel
theorem dX1_lossIn_75 : decode cX1_lossIn 75 = .ok (.ireturn, 1) := by decide +kernel
theorem dX1_wakeOf_0 : decode cX1_wakeOf 0 = .ok (.iload_n 0, 1) := by decide +kernel
theorem dX1_wakeOf_1 : decode cX1_wakeOf 1 = .ok (.ifCond .eq 7, 3) := by decide +kernel
theorem dX1_wakeOf_4 : decode cX1_wakeOf 4 = .ok (.iconst 3, 1) := by decide +kernel
theorem dX1_wakeOf_5 : decode cX1_wakeOf 5 = .ok (.goto 4, 3) := by decide +kernel
theorem dX1_wakeOf_8 : decode cX1_wakeOf 8 = .ok (.iconst 0, 1) := by decide +kernel
theorem dX1_wakeOf_9 : decode cX1_wakeOf 9 = .ok (.iload_n 1, 1) := by decide +kernel
theorem dX1_wakeOf_10 : decode cX1_wakeOf 10 = .ok (.ifCond .eq 7, 3) := by decide +kernel
theorem dX1_wakeOf_13 : decode cX1_wakeOf 13 = .ok (.iconst 1, 1) := by decide +kernel
theorem dX1_wakeOf_14 : decode cX1_wakeOf 14 = .ok (.goto 4, 3) := by decide +kernel
theorem dX1_wakeOf_17 : decode cX1_wakeOf 17 = .ok (.iconst 0, 1) := by decide +kernel
theorem dX1_wakeOf_18 : decode cX1_wakeOf 18 = .ok (.iadd, 1) := by decide +kernel
theorem dX1_wakeOf_19 : decode cX1_wakeOf 19 = .ok (.ireturn, 1) := by decide +kernel
theorem dX1_powerAfter_0 : decode cX1_powerAfter 0 = .ok (.iload_n 2, 1) := by decide +kernel
theorem dX1_powerAfter_1 : decode cX1_powerAfter 1 = .ok (.invokestatic 104, 3) := by decide +kernel
theorem dX1_powerAfter_4 : decode cX1_powerAfter 4 = .ok (.iload_n 3, 1) := by decide +kernel
theorem dX1_powerAfter_5 : decode cX1_powerAfter 5 = .ok (.isub, 1) := by decide +kernel
theorem dX1_powerAfter_6 : decode cX1_powerAfter 6 = .ok (.istore 4, 2) := by decide +kernel
theorem dX1_powerAfter_8 : decode cX1_powerAfter 8 = .ok (.iload 4, 2) := by decide +kernel
theorem dX1_powerAfter_10 : decode cX1_powerAfter 10 = .ok (.ifCond .le 26, 3) := by decide +kernel
theorem dX1_powerAfter_13 : decode cX1_powerAfter 13 = .ok (.aload_n 0, 1) := by decide +kernel
theorem dX1_powerAfter_14 : decode cX1_powerAfter 14 = .ok (.iload_n 1, 1) := by decide +kernel
theorem dX1_powerAfter_15 : decode cX1_powerAfter 15 = .ok (.iconst 1, 1) := by decide +kernel
theorem dX1_powerAfter_16 : decode cX1_powerAfter 16 = .ok (.invokevirtual 84, 3) := by decide +kernel
theorem dX1_powerAfter_19 : decode cX1_powerAfter 19 = .ok (.ifCond .eq 17, 3) := by decide +kernel
theorem dX1_powerAfter_22 : decode cX1_powerAfter 22 = .ok (.aload_n 0, 1) := by decide +kernel
theorem dX1_powerAfter_23 : decode cX1_powerAfter 23 = .ok (.getfield 18, 3) := by decide +kernel
theorem dX1_powerAfter_26 : decode cX1_powerAfter 26 = .ok (.iload_n 1, 1) := by decide +kernel
theorem dX1_powerAfter_27 : decode cX1_powerAfter 27 = .ok (.invokestatic 80, 3) := by decide +kernel
theorem dX1_powerAfter_30 : decode cX1_powerAfter 30 = .ok (.iload 4, 2) := by decide +kernel
theorem dX1_powerAfter_32 : decode cX1_powerAfter 32 = .ok (.imul, 1) := by decide +kernel
theorem dX1_powerAfter_33 : decode cX1_powerAfter 33 = .ok (.goto 4, 3) := by decide +kernel
theorem dX1_powerAfter_36 : decode cX1_powerAfter 36 = .ok (.iconst 0, 1) := by decide +kernel
theorem dX1_powerAfter_37 : decode cX1_powerAfter 37 = .ok (.ireturn, 1) := by decide +kernel
theorem dX1_limited_0 : decode cX1_limited 0 = .ok (.aload_n 0, 1) := by decide +kernel
theorem dX1_limited_1 : decode cX1_limited 1 = .ok (.getfield 24, 3) := by decide +kernel
theorem dX1_limited_4 : decode cX1_limited 4 = .ok (.iload_n 1, 1) := by decide +kernel
theorem dX1_limited_5 : decode cX1_limited 5 = .ok (.invokestatic 80, 3) := by decide +kernel
theorem dX1_limited_8 : decode cX1_limited 8 = .ok (.istore_n 3, 1) := by decide +kernel
theorem dX1_limited_9 : decode cX1_limited 9 = .ok (.iload_n 3, 1) := by decide +kernel
theorem dX1_limited_10 : decode cX1_limited 10 = .ok (.iconst (-1), 1) := by decide +kernel
theorem dX1_limited_11 : decode cX1_limited 11 = .ok (.if_icmp .ne 7, 3) := by decide +kernel
theorem dX1_limited_14 : decode cX1_limited 14 = .ok (.iload_n 2, 1) := by decide +kernel
theorem dX1_limited_15 : decode cX1_limited 15 = .ok (.goto 8, 3) := by decide +kernel
theorem dX1_limited_18 : decode cX1_limited 18 = .ok (.iload_n 3, 1) := by decide +kernel
theorem dX1_limited_19 : decode cX1_limited 19 = .ok (.iload_n 2, 1) := by decide +kernel
theorem dX1_limited_20 : decode cX1_limited 20 = .ok (.invokestatic 107, 3) := by decide +kernel
theorem dX1_limited_23 : decode cX1_limited 23 = .ok (.ireturn, 1) := by decide +kernel
theorem dX1_outputIn_0 : decode cX1_outputIn 0 = .ok (.aload_n 0, 1) := by decide +kernel
theorem dX1_outputIn_1 : decode cX1_outputIn 1 = .ok (.iload_n 1, 1) := by decide +kernel
theorem dX1_outputIn_2 : decode cX1_outputIn 2 = .ok (.aload_n 0, 1) := by decide +kernel
theorem dX1_outputIn_3 : decode cX1_outputIn 3 = .ok (.iload_n 1, 1) := by decide +kernel
theorem dX1_outputIn_4 : decode cX1_outputIn 4 = .ok (.iload_n 3, 1) := by decide +kernel
theorem dX1_outputIn_5 : decode cX1_outputIn 5 = .ok (.aload_n 0, 1) := by decide +kernel
theorem dX1_outputIn_6 : decode cX1_outputIn 6 = .ok (.iload_n 1, 1) := by decide +kernel
theorem dX1_outputIn_7 : decode cX1_outputIn 7 = .ok (.iload_n 2, 1) := by decide +kernel
theorem dX1_outputIn_8 : decode cX1_outputIn 8 = .ok (.invokevirtual 112, 3) := by decide +kernel
theorem dX1_outputIn_11 : decode cX1_outputIn 11 = .ok (.invokevirtual 116, 3) := by decide +kernel
theorem dX1_outputIn_14 : decode cX1_outputIn 14 = .ok (.invokevirtual 120, 3) := by decide +kernel
theorem dX1_outputIn_17 : decode cX1_outputIn 17 = .ok (.ireturn, 1) := by decide +kernel
theorem dX1_sumIn_0 : decode cX1_sumIn 0 = .ok (.iconst 0, 1) := by decide +kernel
theorem dX1_sumIn_1 : decode cX1_sumIn 1 = .ok (.istore_n 3, 1) := by decide +kernel
theorem dX1_sumIn_2 : decode cX1_sumIn 2 = .ok (.iconst 0, 1) := by decide +kernel
theorem dX1_sumIn_3 : decode cX1_sumIn 3 = .ok (.istore 4, 2) := by decide +kernel
theorem dX1_sumIn_5 : decode cX1_sumIn 5 = .ok (.iload 4, 2) := by decide +kernel
theorem dX1_sumIn_7 : decode cX1_sumIn 7 = .ok (.aload_n 0, 1) := by decide +kernel
theorem dX1_sumIn_8 : decode cX1_sumIn 8 = .ok (.getfield 51, 3) := by decide +kernel
theorem dX1_sumIn_11 : decode cX1_sumIn 11 = .ok (.if_icmp .ge 20, 3) := by decide +kernel
theorem dX1_sumIn_14 : decode cX1_sumIn 14 = .ok (.iload_n 3, 1) := by decide +kernel
theorem dX1_sumIn_15 : decode cX1_sumIn 15 = .ok (.aload_n 0, 1) := by decide +kernel
theorem dX1_sumIn_16 : decode cX1_sumIn 16 = .ok (.iload 4, 2) := by decide +kernel
theorem dX1_sumIn_18 : decode cX1_sumIn 18 = .ok (.iload_n 1, 1) := by decide +kernel
theorem dX1_sumIn_19 : decode cX1_sumIn 19 = .ok (.iload_n 2, 1) := by decide +kernel
theorem dX1_sumIn_20 : decode cX1_sumIn 20 = .ok (.invokevirtual 123, 3) := by decide +kernel
theorem dX1_sumIn_23 : decode cX1_sumIn 23 = .ok (.iadd, 1) := by decide +kernel
theorem dX1_sumIn_24 : decode cX1_sumIn 24 = .ok (.istore_n 3, 1) := by decide +kernel
theorem dX1_sumIn_25 : decode cX1_sumIn 25 = .ok (.iinc 4 1, 3) := by decide +kernel
theorem dX1_sumIn_28 : decode cX1_sumIn 28 = .ok (.goto (-23), 3) := by decide +kernel
theorem dX1_sumIn_31 : decode cX1_sumIn 31 = .ok (.iload_n 3, 1) := by decide +kernel
theorem dX1_sumIn_32 : decode cX1_sumIn 32 = .ok (.ireturn, 1) := by decide +kernel
theorem dX1_sumByLines_0 : decode cX1_sumByLines 0 = .ok (.aload_n 0, 1) := by decide +kernel
theorem dX1_sumByLines_1 : decode cX1_sumByLines 1 = .ok (.invokevirtual 127, 3) := by decide +kernel
theorem dX1_sumByLines_4 : decode cX1_sumByLines 4 = .ok (.ifCond .eq 8, 3) := by decide +kernel
theorem dX1_sumByLines_7 : decode cX1_sumByLines 7 = .ok (.bipush 6, 2) := by decide +kernel
theorem dX1_sumByLines_9 : decode cX1_sumByLines 9 = .ok (.goto 4, 3) := by decide +kernel
theorem dX1_sumByLines_12 : decode cX1_sumByLines 12 = .ok (.iconst 5, 1) := by decide +kernel
theorem dX1_sumByLines_13 : decode cX1_sumByLines 13 = .ok (.istore_n 1, 1) := by decide +kernel
theorem dX1_sumByLines_14 : decode cX1_sumByLines 14 = .ok (.iconst 0, 1) := by decide +kernel
theorem dX1_sumByLines_15 : decode cX1_sumByLines 15 = .ok (.istore_n 2, 1) := by decide +kernel
theorem dX1_sumByLines_16 : decode cX1_sumByLines 16 = .ok (.iconst 0, 1) := by decide +kernel
theorem dX1_sumByLines_17 : decode cX1_sumByLines 17 = .ok (.istore_n 3, 1) := by decide +kernel
theorem dX1_sumByLines_18 : decode cX1_sumByLines 18 = .ok (.iload_n 3, 1) := by decide +kernel
theorem dX1_sumByLines_19 : decode cX1_sumByLines 19 = .ok (.iload_n 1, 1) := by decide +kernel
theorem dX1_sumByLines_20 : decode cX1_sumByLines 20 = .ok (.if_icmp .ge 17, 3) := by decide +kernel
theorem dX1_sumByLines_23 : decode cX1_sumByLines 23 = .ok (.iload_n 2, 1) := by decide +kernel
theorem dX1_sumByLines_24 : decode cX1_sumByLines 24 = .ok (.aload_n 0, 1) := by decide +kernel
theorem dX1_sumByLines_25 : decode cX1_sumByLines 25 = .ok (.iload_n 3, 1) := by decide +kernel
theorem dX1_sumByLines_26 : decode cX1_sumByLines 26 = .ok (.invokevirtual 131, 3) := by decide +kernel
theorem dX1_sumByLines_29 : decode cX1_sumByLines 29 = .ok (.iadd, 1) := by decide +kernel
theorem dX1_sumByLines_30 : decode cX1_sumByLines 30 = .ok (.istore_n 2, 1) := by decide +kernel
theorem dX1_sumByLines_31 : decode cX1_sumByLines 31 = .ok (.iinc 3 1, 3) := by decide +kernel
theorem dX1_sumByLines_34 : decode cX1_sumByLines 34 = .ok (.goto (-16), 3) := by decide +kernel
theorem dX1_sumByLines_37 : decode cX1_sumByLines 37 = .ok (.iload_n 2, 1) := by decide +kernel
theorem dX1_sumByLines_38 : decode cX1_sumByLines 38 = .ok (.ireturn, 1) := by decide +kernel
theorem dX1_sumOfLine_0 : decode cX1_sumOfLine 0 = .ok (.aload_n 0, 1) := by decide +kernel
theorem dX1_sumOfLine_1 : decode cX1_sumOfLine 1 = .ok (.invokevirtual 127, 3) := by decide +kernel
theorem dX1_sumOfLine_4 : decode cX1_sumOfLine 4 = .ok (.ifCond .eq 7, 3) := by decide +kernel
theorem dX1_sumOfLine_7 : decode cX1_sumOfLine 7 = .ok (.iconst 5, 1) := by decide +kernel
theorem dX1_sumOfLine_8 : decode cX1_sumOfLine 8 = .ok (.goto 5, 3) := by decide +kernel
theorem dX1_sumOfLine_11 : decode cX1_sumOfLine 11 = .ok (.bipush 6, 2) := by decide +kernel
theorem dX1_sumOfLine_13 : decode cX1_sumOfLine 13 = .ok (.istore_n 2, 1) := by decide +kernel
theorem dX1_sumOfLine_14 : decode cX1_sumOfLine 14 = .ok (.iconst 0, 1) := by decide +kernel
theorem dX1_sumOfLine_15 : decode cX1_sumOfLine 15 = .ok (.istore_n 3, 1) := by decide +kernel
theorem dX1_sumOfLine_16 : decode cX1_sumOfLine 16 = .ok (.iconst 0, 1) := by decide +kernel
theorem dX1_sumOfLine_17 : decode cX1_sumOfLine 17 = .ok (.istore 4, 2) := by decide +kernel
theorem dX1_sumOfLine_19 : decode cX1_sumOfLine 19 = .ok (.iconst 0, 1) := by decide +kernel
theorem dX1_sumOfLine_20 : decode cX1_sumOfLine 20 = .ok (.istore 5, 2) := by decide +kernel
theorem dX1_sumOfLine_22 : decode cX1_sumOfLine 22 = .ok (.iconst 0, 1) := by decide +kernel
theorem dX1_sumOfLine_23 : decode cX1_sumOfLine 23 = .ok (.istore 6, 2) := by decide +kernel
theorem dX1_sumOfLine_25 : decode cX1_sumOfLine 25 = .ok (.iload 6, 2) := by decide +kernel
theorem dX1_sumOfLine_27 : decode cX1_sumOfLine 27 = .ok (.iload_n 2, 1) := by decide +kernel
theorem dX1_sumOfLine_28 : decode cX1_sumOfLine 28 = .ok (.if_icmp .ge 60, 3) := by decide +kernel
theorem dX1_sumOfLine_31 : decode cX1_sumOfLine 31 = .ok (.aload_n 0, 1) := by decide +kernel
theorem dX1_sumOfLine_32 : decode cX1_sumOfLine 32 = .ok (.iload_n 1, 1) := by decide +kernel
theorem dX1_sumOfLine_33 : decode cX1_sumOfLine 33 = .ok (.iload 6, 2) := by decide +kernel
theorem dX1_sumOfLine_35 : decode cX1_sumOfLine 35 = .ok (.invokevirtual 134, 3) := by decide +kernel
theorem dX1_sumOfLine_38 : decode cX1_sumOfLine 38 = .ok (.istore 7, 2) := by decide +kernel
theorem dX1_sumOfLine_40 : decode cX1_sumOfLine 40 = .ok (.iload_n 3, 1) := by decide +kernel
theorem dX1_sumOfLine_41 : decode cX1_sumOfLine 41 = .ok (.iload 4, 2) := by decide +kernel
theorem dX1_sumOfLine_43 : decode cX1_sumOfLine 43 = .ok (.invokestatic 100, 3) := by decide +kernel
theorem dX1_sumOfLine_46 : decode cX1_sumOfLine 46 = .ok (.istore 8, 2) := by decide +kernel
theorem dX1_sumOfLine_48 : decode cX1_sumOfLine 48 = .ok (.iload 5, 2) := by decide +kernel
theorem dX1_sumOfLine_50 : decode cX1_sumOfLine 50 = .ok (.aload_n 0, 1) := by decide +kernel
theorem dX1_sumOfLine_51 : decode cX1_sumOfLine 51 = .ok (.iload 7, 2) := by decide +kernel
theorem dX1_sumOfLine_53 : decode cX1_sumOfLine 53 = .ok (.aload_n 0, 1) := by decide +kernel
theorem dX1_sumOfLine_54 : decode cX1_sumOfLine 54 = .ok (.iload 7, 2) := by decide +kernel
theorem dX1_sumOfLine_56 : decode cX1_sumOfLine 56 = .ok (.aload_n 0, 1) := by decide +kernel
theorem dX1_sumOfLine_57 : decode cX1_sumOfLine 57 = .ok (.getfield 54, 3) := by decide +kernel
theorem dX1_sumOfLine_60 : decode cX1_sumOfLine 60 = .ok (.iload 8, 2) := by decide +kernel
theorem dX1_sumOfLine_62 : decode cX1_sumOfLine 62 = .ok (.invokevirtual 116, 3) := by decide +kernel
theorem dX1_sumOfLine_65 : decode cX1_sumOfLine 65 = .ok (.invokevirtual 120, 3) := by decide +kernel
theorem dX1_sumOfLine_68 : decode cX1_sumOfLine 68 = .ok (.iadd, 1) := by decide +kernel
theorem dX1_sumOfLine_69 : decode cX1_sumOfLine 69 = .ok (.istore 5, 2) := by decide +kernel
theorem dX1_sumOfLine_71 : decode cX1_sumOfLine 71 = .ok (.iload_n 3, 1) := by decide +kernel
theorem dX1_sumOfLine_72 : decode cX1_sumOfLine 72 = .ok (.istore 4, 2) := by decide +kernel
theorem dX1_sumOfLine_74 : decode cX1_sumOfLine 74 = .ok (.aload_n 0, 1) := by decide +kernel
theorem dX1_sumOfLine_75 : decode cX1_sumOfLine 75 = .ok (.iload 7, 2) := by decide +kernel
theorem dX1_sumOfLine_77 : decode cX1_sumOfLine 77 = .ok (.iconst 1, 1) := by decide +kernel
theorem dX1_sumOfLine_78 : decode cX1_sumOfLine 78 = .ok (.invokevirtual 84, 3) := by decide +kernel
theorem dX1_sumOfLine_81 : decode cX1_sumOfLine 81 = .ok (.istore_n 3, 1) := by decide +kernel
theorem dX1_sumOfLine_82 : decode cX1_sumOfLine 82 = .ok (.iinc 6 1, 3) := by decide +kernel
theorem dX1_sumOfLine_85 : decode cX1_sumOfLine 85 = .ok (.goto (-60), 3) := by decide +kernel
theorem dX1_sumOfLine_88 : decode cX1_sumOfLine 88 = .ok (.iload 5, 2) := by decide +kernel
theorem dX1_sumOfLine_90 : decode cX1_sumOfLine 90 = .ok (.ireturn, 1) := by decide +kernel
theorem dX1_blowsAlongColumns_0 : decode cX1_blowsAlongColumns 0 = .ok (.aload_n 0, 1) := by decide +kernel
theorem dX1_blowsAlongColumns_1 : decode cX1_blowsAlongColumns 1 = .ok (.getfield 39, 3) := by decide +kernel
theorem dX1_blowsAlongColumns_4 : decode cX1_blowsAlongColumns 4 = .ok (.bipush 78, 2) := by decide +kernel
theorem dX1_blowsAlongColumns_6 : decode cX1_blowsAlongColumns 6 = .ok (.if_icmp .eq 12, 3) := by decide +kernel
theorem dX1_blowsAlongColumns_9 : decode cX1_blowsAlongColumns 9 = .ok (.aload_n 0, 1) := by decide +kernel
theorem dX1_blowsAlongColumns_10 : decode cX1_blowsAlongColumns 10 = .ok (.getfield 39, 3) := by decide +kernel
theorem dX1_blowsAlongColumns_13 : decode cX1_blowsAlongColumns 13 = .ok (.bipush 83, 2) := by decide +kernel
theorem dX1_blowsAlongColumns_15 : decode cX1_blowsAlongColumns 15 = .ok (.if_icmp .ne 7, 3) := by decide +kernel
theorem dX1_blowsAlongColumns_18 : decode cX1_blowsAlongColumns 18 = .ok (.iconst 1, 1) := by decide +kernel
theorem dX1_blowsAlongColumns_19 : decode cX1_blowsAlongColumns 19 = .ok (.goto 4, 3) := by decide +kernel
theorem dX1_blowsAlongColumns_22 : decode cX1_blowsAlongColumns 22 = .ok (.iconst 0, 1) := by decide +kernel
theorem dX1_blowsAlongColumns_23 : decode cX1_blowsAlongColumns 23 = .ok (.ireturn, 1) := by decide +kernel
theorem dX1_turbineInLine_0 : decode cX1_turbineInLine 0 = .ok (.aload_n 0, 1) := by decide +kernel
theorem dX1_turbineInLine_1 : decode cX1_turbineInLine 1 = .ok (.getfield 39, 3) := by decide +kernel
theorem dX1_turbineInLine_4 : decode cX1_turbineInLine 4 = .ok (.lookupswitch 61 #[(69, 43), (78, 36), (83, 52)], 36) := by decide +kernel
theorem dX1_turbineInLine_40 : decode cX1_turbineInLine 40 = .ok (.aload_n 0, 1) := by decide +kernel
theorem dX1_turbineInLine_41 : decode cX1_turbineInLine 41 = .ok (.iload_n 2, 1) := by decide +kernel
theorem dX1_turbineInLine_42 : decode cX1_turbineInLine 42 = .ok (.iload_n 1, 1) := by decide +kernel
theorem dX1_turbineInLine_43 : decode cX1_turbineInLine 43 = .ok (.invokevirtual 137, 3) := by decide +kernel
theorem dX1_turbineInLine_46 : decode cX1_turbineInLine 46 = .ok (.ireturn, 1) := by decide +kernel
theorem dX1_turbineInLine_47 : decode cX1_turbineInLine 47 = .ok (.aload_n 0, 1) := by decide +kernel
theorem dX1_turbineInLine_48 : decode cX1_turbineInLine 48 = .ok (.iload_n 1, 1) := by decide +kernel
theorem dX1_turbineInLine_49 : decode cX1_turbineInLine 49 = .ok (.iconst 5, 1) := by decide +kernel
theorem dX1_turbineInLine_50 : decode cX1_turbineInLine 50 = .ok (.iload_n 2, 1) := by decide +kernel
theorem dX1_turbineInLine_51 : decode cX1_turbineInLine 51 = .ok (.isub, 1) := by decide +kernel
theorem dX1_turbineInLine_52 : decode cX1_turbineInLine 52 = .ok (.invokevirtual 137, 3) := by decide +kernel
theorem dX1_turbineInLine_55 : decode cX1_turbineInLine 55 = .ok (.ireturn, 1) := by decide +kernel
theorem dX1_turbineInLine_56 : decode cX1_turbineInLine 56 = .ok (.aload_n 0, 1) := by decide +kernel
theorem dX1_turbineInLine_57 : decode cX1_turbineInLine 57 = .ok (.iconst 4, 1) := by decide +kernel
theorem dX1_turbineInLine_58 : decode cX1_turbineInLine 58 = .ok (.iload_n 2, 1) := by decide +kernel
theorem dX1_turbineInLine_59 : decode cX1_turbineInLine 59 = .ok (.isub, 1) := by decide +kernel
theorem dX1_turbineInLine_60 : decode cX1_turbineInLine 60 = .ok (.iload_n 1, 1) := by decide +kernel
theorem dX1_turbineInLine_61 : decode cX1_turbineInLine 61 = .ok (.invokevirtual 137, 3) := by decide +kernel
theorem dX1_turbineInLine_64 : decode cX1_turbineInLine 64 = .ok (.ireturn, 1) := by decide +kernel
theorem dX1_turbineInLine_65 : decode cX1_turbineInLine 65 = .ok (.aload_n 0, 1) := by decide +kernel
theorem dX1_turbineInLine_66 : decode cX1_turbineInLine 66 = .ok (.iload_n 1, 1) := by decide +kernel
theorem dX1_turbineInLine_67 : decode cX1_turbineInLine 67 = .ok (.iload_n 2, 1) := by decide +kernel
theorem dX1_turbineInLine_68 : decode cX1_turbineInLine 68 = .ok (.invokevirtual 137, 3) := by decide +kernel
theorem dX1_turbineInLine_71 : decode cX1_turbineInLine 71 = .ok (.ireturn, 1) := by decide +kernel
theorem dX1_turbinesAheadOf_0 : decode cX1_turbinesAheadOf 0 = .ok (.iconst 0, 1) := by decide +kernel
theorem dX1_turbinesAheadOf_1 : decode cX1_turbinesAheadOf 1 = .ok (.istore_n 2, 1) := by decide +kernel
theorem dX1_turbinesAheadOf_2 : decode cX1_turbinesAheadOf 2 = .ok (.iconst 0, 1) := by decide +kernel
theorem dX1_turbinesAheadOf_3 : decode cX1_turbinesAheadOf 3 = .ok (.istore_n 3, 1) := by decide +kernel
theorem dX1_turbinesAheadOf_4 : decode cX1_turbinesAheadOf 4 = .ok (.iload_n 3, 1) := by decide +kernel
theorem dX1_turbinesAheadOf_5 : decode cX1_turbinesAheadOf 5 = .ok (.aload_n 0, 1) := by decide +kernel
theorem dX1_turbinesAheadOf_6 : decode cX1_turbinesAheadOf 6 = .ok (.getfield 51, 3) := by decide +kernel
theorem dX1_turbinesAheadOf_9 : decode cX1_turbinesAheadOf 9 = .ok (.if_icmp .ge 21, 3) := by decide +kernel
theorem dX1_turbinesAheadOf_12 : decode cX1_turbinesAheadOf 12 = .ok (.aload_n 0, 1) := by decide +kernel
theorem dX1_turbinesAheadOf_13 : decode cX1_turbinesAheadOf 13 = .ok (.iload_n 3, 1) := by decide +kernel
theorem dX1_turbinesAheadOf_14 : decode cX1_turbinesAheadOf 14 = .ok (.iload_n 1, 1) := by decide +kernel
theorem dX1_turbinesAheadOf_15 : decode cX1_turbinesAheadOf 15 = .ok (.invokevirtual 140, 3) := by decide +kernel
theorem dX1_turbinesAheadOf_18 : decode cX1_turbinesAheadOf 18 = .ok (.ifCond .eq 6, 3) := by decide +kernel
theorem dX1_turbinesAheadOf_21 : decode cX1_turbinesAheadOf 21 = .ok (.iinc 2 1, 3) := by decide +kernel
theorem dX1_turbinesAheadOf_24 : decode cX1_turbinesAheadOf 24 = .ok (.iinc 3 1, 3) := by decide +kernel
theorem dX1_turbinesAheadOf_27 : decode cX1_turbinesAheadOf 27 = .ok (.goto (-23), 3) := by decide +kernel
theorem dX1_turbinesAheadOf_30 : decode cX1_turbinesAheadOf 30 = .ok (.iload_n 2, 1) := by decide +kernel
theorem dX1_turbinesAheadOf_31 : decode cX1_turbinesAheadOf 31 = .ok (.ireturn, 1) := by decide +kernel
theorem dX1_isTurbineAhead_0 : decode cX1_isTurbineAhead 0 = .ok (.aload_n 0, 1) := by decide +kernel
theorem dX1_isTurbineAhead_1 : decode cX1_isTurbineAhead 1 = .ok (.iload_n 1, 1) := by decide +kernel
theorem dX1_isTurbineAhead_2 : decode cX1_isTurbineAhead 2 = .ok (.aload_n 0, 1) := by decide +kernel
theorem dX1_isTurbineAhead_3 : decode cX1_isTurbineAhead 3 = .ok (.getfield 39, 3) := by decide +kernel
theorem dX1_isTurbineAhead_6 : decode cX1_isTurbineAhead 6 = .ok (.aload_n 0, 1) := by decide +kernel
theorem dX1_isTurbineAhead_7 : decode cX1_isTurbineAhead 7 = .ok (.getfield 54, 3) := by decide +kernel
theorem dX1_isTurbineAhead_10 : decode cX1_isTurbineAhead 10 = .ok (.invokevirtual 123, 3) := by decide +kernel
theorem dX1_isTurbineAhead_13 : decode cX1_isTurbineAhead 13 = .ok (.aload_n 0, 1) := by decide +kernel
theorem dX1_isTurbineAhead_14 : decode cX1_isTurbineAhead 14 = .ok (.iload_n 2, 1) := by decide +kernel
theorem dX1_isTurbineAhead_15 : decode cX1_isTurbineAhead 15 = .ok (.aload_n 0, 1) := by decide +kernel
theorem dX1_isTurbineAhead_16 : decode cX1_isTurbineAhead 16 = .ok (.getfield 39, 3) := by decide +kernel
theorem dX1_isTurbineAhead_19 : decode cX1_isTurbineAhead 19 = .ok (.aload_n 0, 1) := by decide +kernel
theorem dX1_isTurbineAhead_20 : decode cX1_isTurbineAhead 20 = .ok (.getfield 54, 3) := by decide +kernel
theorem dX1_isTurbineAhead_23 : decode cX1_isTurbineAhead 23 = .ok (.invokevirtual 123, 3) := by decide +kernel
theorem dX1_isTurbineAhead_26 : decode cX1_isTurbineAhead 26 = .ok (.isub, 1) := by decide +kernel
theorem dX1_isTurbineAhead_27 : decode cX1_isTurbineAhead 27 = .ok (.istore_n 3, 1) := by decide +kernel
theorem dX1_isTurbineAhead_28 : decode cX1_isTurbineAhead 28 = .ok (.iload_n 3, 1) := by decide +kernel
theorem dX1_isTurbineAhead_29 : decode cX1_isTurbineAhead 29 = .ok (.ifCond .ne 21, 3) := by decide +kernel
theorem dX1_isTurbineAhead_32 : decode cX1_isTurbineAhead 32 = .ok (.aload_n 0, 1) := by decide +kernel
theorem dX1_isTurbineAhead_33 : decode cX1_isTurbineAhead 33 = .ok (.getfield 18, 3) := by decide +kernel
theorem dX1_isTurbineAhead_36 : decode cX1_isTurbineAhead 36 = .ok (.iload_n 1, 1) := by decide +kernel
theorem dX1_isTurbineAhead_37 : decode cX1_isTurbineAhead 37 = .ok (.invokestatic 80, 3) := by decide +kernel
theorem dX1_isTurbineAhead_40 : decode cX1_isTurbineAhead 40 = .ok (.aload_n 0, 1) := by decide +kernel
theorem dX1_isTurbineAhead_41 : decode cX1_isTurbineAhead 41 = .ok (.getfield 18, 3) := by decide +kernel
theorem dX1_isTurbineAhead_44 : decode cX1_isTurbineAhead 44 = .ok (.iload_n 2, 1) := by decide +kernel
theorem dX1_isTurbineAhead_45 : decode cX1_isTurbineAhead 45 = .ok (.invokestatic 80, 3) := by decide +kernel
theorem dX1_isTurbineAhead_48 : decode cX1_isTurbineAhead 48 = .ok (.isub, 1) := by decide +kernel
theorem dX1_isTurbineAhead_49 : decode cX1_isTurbineAhead 49 = .ok (.istore_n 3, 1) := by decide +kernel
theorem dX1_isTurbineAhead_50 : decode cX1_isTurbineAhead 50 = .ok (.iload_n 3, 1) := by decide +kernel
theorem dX1_isTurbineAhead_51 : decode cX1_isTurbineAhead 51 = .ok (.ifCond .ne 16, 3) := by decide +kernel
theorem dX1_isTurbineAhead_54 : decode cX1_isTurbineAhead 54 = .ok (.iload_n 1, 1) := by decide +kernel
theorem dX1_isTurbineAhead_55 : decode cX1_isTurbineAhead 55 = .ok (.iload_n 2, 1) := by decide +kernel
theorem dX1_isTurbineAhead_56 : decode cX1_isTurbineAhead 56 = .ok (.if_icmp .ge 7, 3) := by decide +kernel
theorem dX1_isTurbineAhead_59 : decode cX1_isTurbineAhead 59 = .ok (.iconst 1, 1) := by decide +kernel
theorem dX1_isTurbineAhead_60 : decode cX1_isTurbineAhead 60 = .ok (.goto 16, 3) := by decide +kernel
theorem dX1_isTurbineAhead_63 : decode cX1_isTurbineAhead 63 = .ok (.iconst 0, 1) := by decide +kernel
theorem dX1_isTurbineAhead_64 : decode cX1_isTurbineAhead 64 = .ok (.goto 12, 3) := by decide +kernel
theorem dX1_isTurbineAhead_67 : decode cX1_isTurbineAhead 67 = .ok (.iload_n 3, 1) := by decide +kernel
theorem dX1_isTurbineAhead_68 : decode cX1_isTurbineAhead 68 = .ok (.ifCond .le 7, 3) := by decide +kernel
theorem dX1_isTurbineAhead_71 : decode cX1_isTurbineAhead 71 = .ok (.iconst 1, 1) := by decide +kernel
theorem dX1_isTurbineAhead_72 : decode cX1_isTurbineAhead 72 = .ok (.goto 4, 3) := by decide +kernel
theorem dX1_isTurbineAhead_75 : decode cX1_isTurbineAhead 75 = .ok (.iconst 0, 1) := by decide +kernel
theorem dX1_isTurbineAhead_76 : decode cX1_isTurbineAhead 76 = .ok (.ireturn, 1) := by decide +kernel
theorem dX1_bidsAheadOf_0 : decode cX1_bidsAheadOf 0 = .ok (.iconst 0, 1) := by decide +kernel
theorem dX1_bidsAheadOf_1 : decode cX1_bidsAheadOf 1 = .ok (.istore_n 2, 1) := by decide +kernel
theorem dX1_bidsAheadOf_2 : decode cX1_bidsAheadOf 2 = .ok (.iconst 0, 1) := by decide +kernel
theorem dX1_bidsAheadOf_3 : decode cX1_bidsAheadOf 3 = .ok (.istore_n 3, 1) := by decide +kernel
theorem dX1_bidsAheadOf_4 : decode cX1_bidsAheadOf 4 = .ok (.iload_n 3, 1) := by decide +kernel
theorem dX1_bidsAheadOf_5 : decode cX1_bidsAheadOf 5 = .ok (.bipush 24, 2) := by decide +kernel
theorem dX1_bidsAheadOf_7 : decode cX1_bidsAheadOf 7 = .ok (.if_icmp .ge 29, 3) := by decide +kernel
theorem dX1_bidsAheadOf_10 : decode cX1_bidsAheadOf 10 = .ok (.aload_n 0, 1) := by decide +kernel
theorem dX1_bidsAheadOf_11 : decode cX1_bidsAheadOf 11 = .ok (.iload_n 3, 1) := by decide +kernel
theorem dX1_bidsAheadOf_12 : decode cX1_bidsAheadOf 12 = .ok (.invokevirtual 92, 3) := by decide +kernel
theorem dX1_bidsAheadOf_15 : decode cX1_bidsAheadOf 15 = .ok (.ifCond .eq 15, 3) := by decide +kernel
theorem dX1_bidsAheadOf_18 : decode cX1_bidsAheadOf 18 = .ok (.aload_n 0, 1) := by decide +kernel
theorem dX1_bidsAheadOf_19 : decode cX1_bidsAheadOf 19 = .ok (.iload_n 3, 1) := by decide +kernel
theorem dX1_bidsAheadOf_20 : decode cX1_bidsAheadOf 20 = .ok (.iload_n 1, 1) := by decide +kernel
theorem dX1_bidsAheadOf_21 : decode cX1_bidsAheadOf 21 = .ok (.invokevirtual 143, 3) := by decide +kernel
theorem dX1_bidsAheadOf_24 : decode cX1_bidsAheadOf 24 = .ok (.ifCond .eq 6, 3) := by decide +kernel
theorem dX1_bidsAheadOf_27 : decode cX1_bidsAheadOf 27 = .ok (.iinc 2 1, 3) := by decide +kernel
theorem dX1_bidsAheadOf_30 : decode cX1_bidsAheadOf 30 = .ok (.iinc 3 1, 3) := by decide +kernel
theorem dX1_bidsAheadOf_33 : decode cX1_bidsAheadOf 33 = .ok (.goto (-29), 3) := by decide +kernel
theorem dX1_bidsAheadOf_36 : decode cX1_bidsAheadOf 36 = .ok (.iload_n 2, 1) := by decide +kernel
theorem dX1_bidsAheadOf_37 : decode cX1_bidsAheadOf 37 = .ok (.ireturn, 1) := by decide +kernel
theorem dX1_isBidAhead_0 : decode cX1_isBidAhead 0 = .ok (.aload_n 0, 1) := by decide +kernel
theorem dX1_isBidAhead_1 : decode cX1_isBidAhead 1 = .ok (.getfield 33, 3) := by decide +kernel
theorem dX1_isBidAhead_4 : decode cX1_isBidAhead 4 = .ok (.iload_n 1, 1) := by decide +kernel
theorem dX1_isBidAhead_5 : decode cX1_isBidAhead 5 = .ok (.invokestatic 80, 3) := by decide +kernel
theorem dX1_isBidAhead_8 : decode cX1_isBidAhead 8 = .ok (.aload_n 0, 1) := by decide +kernel
theorem dX1_isBidAhead_9 : decode cX1_isBidAhead 9 = .ok (.getfield 33, 3) := by decide +kernel
theorem dX1_isBidAhead_12 : decode cX1_isBidAhead 12 = .ok (.iload_n 2, 1) := by decide +kernel
theorem dX1_isBidAhead_13 : decode cX1_isBidAhead 13 = .ok (.invokestatic 80, 3) := by decide +kernel
theorem dX1_isBidAhead_16 : decode cX1_isBidAhead 16 = .ok (.isub, 1) := by decide +kernel
theorem dX1_isBidAhead_17 : decode cX1_isBidAhead 17 = .ok (.istore_n 3, 1) := by decide +kernel
theorem dX1_isBidAhead_18 : decode cX1_isBidAhead 18 = .ok (.iload_n 3, 1) := by decide +kernel
theorem dX1_isBidAhead_19 : decode cX1_isBidAhead 19 = .ok (.ifCond .ne 21, 3) := by decide +kernel
theorem dX1_isBidAhead_22 : decode cX1_isBidAhead 22 = .ok (.aload_n 0, 1) := by decide +kernel
theorem dX1_isBidAhead_23 : decode cX1_isBidAhead 23 = .ok (.getfield 36, 3) := by decide +kernel
theorem dX1_isBidAhead_26 : decode cX1_isBidAhead 26 = .ok (.iload_n 1, 1) := by decide +kernel
theorem dX1_isBidAhead_27 : decode cX1_isBidAhead 27 = .ok (.invokestatic 80, 3) := by decide +kernel
theorem dX1_isBidAhead_30 : decode cX1_isBidAhead 30 = .ok (.aload_n 0, 1) := by decide +kernel
theorem dX1_isBidAhead_31 : decode cX1_isBidAhead 31 = .ok (.getfield 36, 3) := by decide +kernel
theorem dX1_isBidAhead_34 : decode cX1_isBidAhead 34 = .ok (.iload_n 2, 1) := by decide +kernel
theorem dX1_isBidAhead_35 : decode cX1_isBidAhead 35 = .ok (.invokestatic 80, 3) := by decide +kernel
theorem dX1_isBidAhead_38 : decode cX1_isBidAhead 38 = .ok (.isub, 1) := by decide +kernel
theorem dX1_isBidAhead_39 : decode cX1_isBidAhead 39 = .ok (.istore_n 3, 1) := by decide +kernel
theorem dX1_isBidAhead_40 : decode cX1_isBidAhead 40 = .ok (.iload_n 3, 1) := by decide +kernel
theorem dX1_isBidAhead_41 : decode cX1_isBidAhead 41 = .ok (.ifCond .ne 16, 3) := by decide +kernel
theorem dX1_isBidAhead_44 : decode cX1_isBidAhead 44 = .ok (.iload_n 1, 1) := by decide +kernel
theorem dX1_isBidAhead_45 : decode cX1_isBidAhead 45 = .ok (.iload_n 2, 1) := by decide +kernel
theorem dX1_isBidAhead_46 : decode cX1_isBidAhead 46 = .ok (.if_icmp .ge 7, 3) := by decide +kernel
theorem dX1_isBidAhead_49 : decode cX1_isBidAhead 49 = .ok (.iconst 1, 1) := by decide +kernel
theorem dX1_isBidAhead_50 : decode cX1_isBidAhead 50 = .ok (.goto 16, 3) := by decide +kernel
theorem dX1_isBidAhead_53 : decode cX1_isBidAhead 53 = .ok (.iconst 0, 1) := by decide +kernel
theorem dX1_isBidAhead_54 : decode cX1_isBidAhead 54 = .ok (.goto 12, 3) := by decide +kernel
theorem dX1_isBidAhead_57 : decode cX1_isBidAhead 57 = .ok (.iload_n 3, 1) := by decide +kernel
theorem dX1_isBidAhead_58 : decode cX1_isBidAhead 58 = .ok (.ifCond .le 7, 3) := by decide +kernel
theorem dX1_isBidAhead_61 : decode cX1_isBidAhead 61 = .ok (.iconst 1, 1) := by decide +kernel
theorem dX1_isBidAhead_62 : decode cX1_isBidAhead 62 = .ok (.goto 4, 3) := by decide +kernel
theorem dX1_isBidAhead_65 : decode cX1_isBidAhead 65 = .ok (.iconst 0, 1) := by decide +kernel
theorem dX1_isBidAhead_66 : decode cX1_isBidAhead 66 = .ok (.ireturn, 1) := by decide +kernel
theorem dX1_judge_0 : decode cX1_judge 0 = .ok (.iload_n 1, 1) := by decide +kernel
theorem dX1_judge_1 : decode cX1_judge 1 = .ok (.tableswitch 207 97 119 #[107, 136, 116, 207, 207, 116, 172, 207, 207, 207, 207, 207, 207, 207, 207, 207, 136, 116, 116, 190, 116, 207, 157], 107) := by decide +kernel
theorem dX1_judge_108 : decode cX1_judge 108 = .ok (.aload_n 0, 1) := by decide +kernel
theorem dX1_judge_109 : decode cX1_judge 109 = .ok (.iload_n 2, 1) := by decide +kernel
theorem dX1_judge_110 : decode cX1_judge 110 = .ok (.iload_n 3, 1) := by decide +kernel
theorem dX1_judge_111 : decode cX1_judge 111 = .ok (.iload 4, 2) := by decide +kernel
theorem dX1_judge_113 : decode cX1_judge 113 = .ok (.invokevirtual 146, 3) := by decide +kernel
theorem dX1_judge_116 : decode cX1_judge 116 = .ok (.ireturn, 1) := by decide +kernel
theorem dX1_judge_117 : decode cX1_judge 117 = .ok (.aload_n 0, 1) := by decide +kernel
theorem dX1_judge_118 : decode cX1_judge 118 = .ok (.iload_n 2, 1) := by decide +kernel
theorem dX1_judge_119 : decode cX1_judge 119 = .ok (.invokevirtual 149, 3) := by decide +kernel
theorem dX1_judge_122 : decode cX1_judge 122 = .ok (.ifCond .eq 13, 3) := by decide +kernel
theorem dX1_judge_125 : decode cX1_judge 125 = .ok (.aload_n 0, 1) := by decide +kernel
theorem dX1_judge_126 : decode cX1_judge 126 = .ok (.iload_n 1, 1) := by decide +kernel
theorem dX1_judge_127 : decode cX1_judge 127 = .ok (.iload_n 2, 1) := by decide +kernel
theorem dX1_judge_128 : decode cX1_judge 128 = .ok (.iload_n 3, 1) := by decide +kernel
theorem dX1_judge_129 : decode cX1_judge 129 = .ok (.invokevirtual 152, 3) := by decide +kernel
theorem dX1_judge_132 : decode cX1_judge 132 = .ok (.goto 4, 3) := by decide +kernel
theorem dX1_judge_135 : decode cX1_judge 135 = .ok (.iconst (-1), 1) := by decide +kernel
theorem dX1_judge_136 : decode cX1_judge 136 = .ok (.ireturn, 1) := by decide +kernel
theorem dX1_judge_137 : decode cX1_judge 137 = .ok (.iload_n 2, 1) := by decide +kernel
theorem dX1_judge_138 : decode cX1_judge 138 = .ok (.invokestatic 156, 3) := by decide +kernel
theorem dX1_judge_141 : decode cX1_judge 141 = .ok (.ifCond .eq 15, 3) := by decide +kernel
theorem dX1_judge_144 : decode cX1_judge 144 = .ok (.aload_n 0, 1) := by decide +kernel
theorem dX1_judge_145 : decode cX1_judge 145 = .ok (.iload_n 1, 1) := by decide +kernel
theorem dX1_judge_146 : decode cX1_judge 146 = .ok (.iload_n 2, 1) := by decide +kernel
theorem dX1_judge_147 : decode cX1_judge 147 = .ok (.iload_n 3, 1) := by decide +kernel
theorem dX1_judge_148 : decode cX1_judge 148 = .ok (.iload 4, 2) := by decide +kernel
theorem dX1_judge_150 : decode cX1_judge 150 = .ok (.invokevirtual 159, 3) := by decide +kernel
theorem dX1_judge_153 : decode cX1_judge 153 = .ok (.goto 4, 3) := by decide +kernel
theorem dX1_judge_156 : decode cX1_judge 156 = .ok (.iconst (-1), 1) := by decide +kernel
theorem dX1_judge_157 : decode cX1_judge 157 = .ok (.ireturn, 1) := by decide +kernel
theorem dX1_judge_158 : decode cX1_judge 158 = .ok (.iload_n 2, 1) := by decide +kernel
theorem dX1_judge_159 : decode cX1_judge 159 = .ok (.iload_n 3, 1) := by decide +kernel
theorem dX1_judge_160 : decode cX1_judge 160 = .ok (.invokestatic 163, 3) := by decide +kernel
theorem dX1_judge_163 : decode cX1_judge 163 = .ok (.ifCond .eq 7, 3) := by decide +kernel
theorem dX1_judge_166 : decode cX1_judge 166 = .ok (.iconst 0, 1) := by decide +kernel
theorem dX1_judge_167 : decode cX1_judge 167 = .ok (.goto 5, 3) := by decide +kernel
theorem dX1_judge_170 : decode cX1_judge 170 = .ok (.bipush (-2), 2) := by decide +kernel
theorem dX1_judge_172 : decode cX1_judge 172 = .ok (.ireturn, 1) := by decide +kernel
theorem dX1_judge_173 : decode cX1_judge 173 = .ok (.iload_n 2, 1) := by decide +kernel
theorem dX1_judge_174 : decode cX1_judge 174 = .ok (.iconst 0, 1) := by decide +kernel
theorem dX1_judge_175 : decode cX1_judge 175 = .ok (.sipush 999, 3) := by decide +kernel
theorem dX1_judge_178 : decode cX1_judge 178 = .ok (.invokestatic 166, 3) := by decide +kernel
theorem dX1_judge_181 : decode cX1_judge 181 = .ok (.ifCond .eq 7, 3) := by decide +kernel
theorem dX1_judge_184 : decode cX1_judge 184 = .ok (.iconst 0, 1) := by decide +kernel
theorem dX1_judge_185 : decode cX1_judge 185 = .ok (.goto 5, 3) := by decide +kernel
theorem dX1_judge_188 : decode cX1_judge 188 = .ok (.bipush (-2), 2) := by decide +kernel
theorem dX1_judge_190 : decode cX1_judge 190 = .ok (.ireturn, 1) := by decide +kernel
theorem dX1_judge_191 : decode cX1_judge 191 = .ok (.iload_n 2, 1) := by decide +kernel
theorem dX1_judge_192 : decode cX1_judge 192 = .ok (.iconst 1, 1) := by decide +kernel
theorem dX1_judge_193 : decode cX1_judge 193 = .ok (.bipush 48, 2) := by decide +kernel
theorem dX1_judge_195 : decode cX1_judge 195 = .ok (.invokestatic 166, 3) := by decide +kernel
theorem dX1_judge_198 : decode cX1_judge 198 = .ok (.ifCond .eq 7, 3) := by decide +kernel
theorem dX1_judge_201 : decode cX1_judge 201 = .ok (.iconst 0, 1) := by decide +kernel
theorem dX1_judge_202 : decode cX1_judge 202 = .ok (.goto 5, 3) := by decide +kernel
theorem dX1_judge_205 : decode cX1_judge 205 = .ok (.bipush (-2), 2) := by decide +kernel
theorem dX1_judge_207 : decode cX1_judge 207 = .ok (.ireturn, 1) := by decide +kernel
theorem dX1_judge_208 : decode cX1_judge 208 = .ok (.iconst 0, 1) := by decide +kernel
theorem dX1_judge_209 : decode cX1_judge 209 = .ok (.ireturn, 1) := by decide +kernel
theorem dX1_judgeAdding_0 : decode cX1_judgeAdding 0 = .ok (.iload_n 1, 1) := by decide +kernel
theorem dX1_judgeAdding_1 : decode cX1_judgeAdding 1 = .ok (.iload_n 2, 1) := by decide +kernel
theorem dX1_judgeAdding_2 : decode cX1_judgeAdding 2 = .ok (.invokestatic 170, 3) := by decide +kernel
theorem dX1_judgeAdding_5 : decode cX1_judgeAdding 5 = .ok (.ifCond .ne 5, 3) := by decide +kernel
theorem dX1_judgeAdding_8 : decode cX1_judgeAdding 8 = .ok (.iconst (-1), 1) := by decide +kernel
theorem dX1_judgeAdding_9 : decode cX1_judgeAdding 9 = .ok (.ireturn, 1) := by decide +kernel
theorem dX1_judgeAdding_10 : decode cX1_judgeAdding 10 = .ok (.iload_n 3, 1) := by decide +kernel
theorem dX1_judgeAdding_11 : decode cX1_judgeAdding 11 = .ok (.iconst 1, 1) := by decide +kernel
theorem dX1_judgeAdding_12 : decode cX1_judgeAdding 12 = .ok (.bipush 9, 2) := by decide +kernel
theorem dX1_judgeAdding_14 : decode cX1_judgeAdding 14 = .ok (.invokestatic 166, 3) := by decide +kernel
theorem dX1_judgeAdding_17 : decode cX1_judgeAdding 17 = .ok (.ifCond .ne 6, 3) := by decide +kernel
theorem dX1_judgeAdding_20 : decode cX1_judgeAdding 20 = .ok (.bipush (-2), 2) := by decide +kernel
theorem dX1_judgeAdding_22 : decode cX1_judgeAdding 22 = .ok (.ireturn, 1) := by decide +kernel
theorem dX1_judgeAdding_23 : decode cX1_judgeAdding 23 = .ok (.aload_n 0, 1) := by decide +kernel
theorem dX1_judgeAdding_24 : decode cX1_judgeAdding 24 = .ok (.getfield 51, 3) := by decide +kernel
theorem dX1_judgeAdding_27 : decode cX1_judgeAdding 27 = .ok (.bipush 12, 2) := by decide +kernel
theorem dX1_judgeAdding_29 : decode cX1_judgeAdding 29 = .ok (.if_icmp .lt 5, 3) := by decide +kernel
theorem dX1_judgeAdding_32 : decode cX1_judgeAdding 32 = .ok (.iconst 1, 1) := by decide +kernel
theorem dX1_judgeAdding_33 : decode cX1_judgeAdding 33 = .ok (.ireturn, 1) := by decide +kernel
theorem dX1_judgeAdding_34 : decode cX1_judgeAdding 34 = .ok (.aload_n 0, 1) := by decide +kernel
theorem dX1_judgeAdding_35 : decode cX1_judgeAdding 35 = .ok (.iload_n 1, 1) := by decide +kernel
theorem dX1_judgeAdding_36 : decode cX1_judgeAdding 36 = .ok (.iload_n 2, 1) := by decide +kernel
theorem dX1_judgeAdding_37 : decode cX1_judgeAdding 37 = .ok (.invokevirtual 137, 3) := by decide +kernel
theorem dX1_judgeAdding_40 : decode cX1_judgeAdding 40 = .ok (.ifCond .lt 7, 3) := by decide +kernel
theorem dX1_judgeAdding_43 : decode cX1_judgeAdding 43 = .ok (.iconst 2, 1) := by decide +kernel
theorem dX1_judgeAdding_44 : decode cX1_judgeAdding 44 = .ok (.goto 4, 3) := by decide +kernel
theorem dX1_judgeAdding_47 : decode cX1_judgeAdding 47 = .ok (.iconst 0, 1) := by decide +kernel
theorem dX1_judgeAdding_48 : decode cX1_judgeAdding 48 = .ok (.ireturn, 1) := by decide +kernel
theorem dX1_judgeTurbine_0 : decode cX1_judgeTurbine 0 = .ok (.aload_n 0, 1) := by decide +kernel
theorem dX1_judgeTurbine_1 : decode cX1_judgeTurbine 1 = .ok (.iload_n 2, 1) := by decide +kernel
theorem dX1_judgeTurbine_2 : decode cX1_judgeTurbine 2 = .ok (.iconst 1, 1) := by decide +kernel
theorem dX1_judgeTurbine_3 : decode cX1_judgeTurbine 3 = .ok (.invokevirtual 84, 3) := by decide +kernel
theorem dX1_judgeTurbine_6 : decode cX1_judgeTurbine 6 = .ok (.istore 4, 2) := by decide +kernel
theorem dX1_judgeTurbine_8 : decode cX1_judgeTurbine 8 = .ok (.iload_n 1, 1) := by decide +kernel
theorem dX1_judgeTurbine_9 : decode cX1_judgeTurbine 9 = .ok (.lookupswitch 112 #[(99, 66), (114, 50), (115, 43), (117, 90)], 43) := by decide +kernel
theorem dX1_judgeTurbine_52 : decode cX1_judgeTurbine 52 = .ok (.aload_n 0, 1) := by decide +kernel
theorem dX1_judgeTurbine_53 : decode cX1_judgeTurbine 53 = .ok (.iload_n 2, 1) := by decide +kernel
theorem dX1_judgeTurbine_54 : decode cX1_judgeTurbine 54 = .ok (.iload_n 3, 1) := by decide +kernel
theorem dX1_judgeTurbine_55 : decode cX1_judgeTurbine 55 = .ok (.invokevirtual 173, 3) := by decide +kernel
theorem dX1_judgeTurbine_58 : decode cX1_judgeTurbine 58 = .ok (.ireturn, 1) := by decide +kernel
theorem dX1_judgeTurbine_59 : decode cX1_judgeTurbine 59 = .ok (.aload_n 0, 1) := by decide +kernel
theorem dX1_judgeTurbine_60 : decode cX1_judgeTurbine 60 = .ok (.iload_n 2, 1) := by decide +kernel
theorem dX1_judgeTurbine_61 : decode cX1_judgeTurbine 61 = .ok (.iconst 3, 1) := by decide +kernel
theorem dX1_judgeTurbine_62 : decode cX1_judgeTurbine 62 = .ok (.invokevirtual 84, 3) := by decide +kernel
theorem dX1_judgeTurbine_65 : decode cX1_judgeTurbine 65 = .ok (.ifCond .eq 7, 3) := by decide +kernel
theorem dX1_judgeTurbine_68 : decode cX1_judgeTurbine 68 = .ok (.iconst 0, 1) := by decide +kernel
theorem dX1_judgeTurbine_69 : decode cX1_judgeTurbine 69 = .ok (.goto 5, 3) := by decide +kernel
theorem dX1_judgeTurbine_72 : decode cX1_judgeTurbine 72 = .ok (.bipush 6, 2) := by decide +kernel
theorem dX1_judgeTurbine_74 : decode cX1_judgeTurbine 74 = .ok (.ireturn, 1) := by decide +kernel
theorem dX1_judgeTurbine_75 : decode cX1_judgeTurbine 75 = .ok (.iload_n 3, 1) := by decide +kernel
theorem dX1_judgeTurbine_76 : decode cX1_judgeTurbine 76 = .ok (.iconst 0, 1) := by decide +kernel
theorem dX1_judgeTurbine_77 : decode cX1_judgeTurbine 77 = .ok (.bipush 90, 2) := by decide +kernel
theorem dX1_judgeTurbine_79 : decode cX1_judgeTurbine 79 = .ok (.invokestatic 166, 3) := by decide +kernel
theorem dX1_judgeTurbine_82 : decode cX1_judgeTurbine 82 = .ok (.ifCond .ne 6, 3) := by decide +kernel
theorem dX1_judgeTurbine_85 : decode cX1_judgeTurbine 85 = .ok (.bipush (-2), 2) := by decide +kernel
theorem dX1_judgeTurbine_87 : decode cX1_judgeTurbine 87 = .ok (.ireturn, 1) := by decide +kernel
theorem dX1_judgeTurbine_88 : decode cX1_judgeTurbine 88 = .ok (.iload 4, 2) := by decide +kernel
theorem dX1_judgeTurbine_90 : decode cX1_judgeTurbine 90 = .ok (.ifCond .eq 7, 3) := by decide +kernel
theorem dX1_judgeTurbine_93 : decode cX1_judgeTurbine 93 = .ok (.iconst 0, 1) := by decide +kernel
theorem dX1_judgeTurbine_94 : decode cX1_judgeTurbine 94 = .ok (.goto 4, 3) := by decide +kernel
theorem dX1_judgeTurbine_97 : decode cX1_judgeTurbine 97 = .ok (.iconst 3, 1) := by decide +kernel
theorem dX1_judgeTurbine_98 : decode cX1_judgeTurbine 98 = .ok (.ireturn, 1) := by decide +kernel
theorem dX1_judgeTurbine_99 : decode cX1_judgeTurbine 99 = .ok (.iload 4, 2) := by decide +kernel
theorem dX1_judgeTurbine_101 : decode cX1_judgeTurbine 101 = .ok (.ifCond .ne 5, 3) := by decide +kernel
theorem dX1_judgeTurbine_104 : decode cX1_judgeTurbine 104 = .ok (.iconst 3, 1) := by decide +kernel
theorem dX1_judgeTurbine_105 : decode cX1_judgeTurbine 105 = .ok (.ireturn, 1) := by decide +kernel
theorem dX1_judgeTurbine_106 : decode cX1_judgeTurbine 106 = .ok (.aload_n 0, 1) := by decide +kernel
theorem dX1_judgeTurbine_107 : decode cX1_judgeTurbine 107 = .ok (.iload_n 2, 1) := by decide +kernel
theorem dX1_judgeTurbine_108 : decode cX1_judgeTurbine 108 = .ok (.invokevirtual 176, 3) := by decide +kernel
theorem dX1_judgeTurbine_111 : decode cX1_judgeTurbine 111 = .ok (.ifCond .eq 7, 3) := by decide +kernel
theorem dX1_judgeTurbine_114 : decode cX1_judgeTurbine 114 = .ok (.iconst 0, 1) := by decide +kernel
theorem dX1_judgeTurbine_115 : decode cX1_judgeTurbine 115 = .ok (.goto 5, 3) := by decide +kernel
theorem dX1_judgeTurbine_118 : decode cX1_judgeTurbine 118 = .ok (.bipush 7, 2) := by decide +kernel
theorem dX1_judgeTurbine_120 : decode cX1_judgeTurbine 120 = .ok (.ireturn, 1) := by decide +kernel
theorem dX1_judgeTurbine_121 : decode cX1_judgeTurbine 121 = .ok (.iload 4, 2) := by decide +kernel
theorem dX1_judgeTurbine_123 : decode cX1_judgeTurbine 123 = .ok (.ifCond .eq 7, 3) := by decide +kernel
theorem dX1_judgeTurbine_126 : decode cX1_judgeTurbine 126 = .ok (.iconst 0, 1) := by decide +kernel
theorem dX1_judgeTurbine_127 : decode cX1_judgeTurbine 127 = .ok (.goto 4, 3) := by decide +kernel
theorem dX1_judgeTurbine_130 : decode cX1_judgeTurbine 130 = .ok (.iconst 3, 1) := by decide +kernel
theorem dX1_judgeTurbine_131 : decode cX1_judgeTurbine 131 = .ok (.ireturn, 1) := by decide +kernel
theorem dX1_judgeSending_0 : decode cX1_judgeSending 0 = .ok (.iload_n 2, 1) := by decide +kernel
theorem dX1_judgeSending_1 : decode cX1_judgeSending 1 = .ok (.iconst 1, 1) := by decide +kernel
theorem dX1_judgeSending_2 : decode cX1_judgeSending 2 = .ok (.bipush 12, 2) := by decide +kernel
theorem dX1_judgeSending_4 : decode cX1_judgeSending 4 = .ok (.invokestatic 166, 3) := by decide +kernel
theorem dX1_judgeSending_7 : decode cX1_judgeSending 7 = .ok (.ifCond .ne 6, 3) := by decide +kernel
theorem dX1_judgeSending_10 : decode cX1_judgeSending 10 = .ok (.bipush (-2), 2) := by decide +kernel
theorem dX1_judgeSending_12 : decode cX1_judgeSending 12 = .ok (.ireturn, 1) := by decide +kernel
theorem dX1_judgeSending_13 : decode cX1_judgeSending 13 = .ok (.aload_n 0, 1) := by decide +kernel
theorem dX1_judgeSending_14 : decode cX1_judgeSending 14 = .ok (.iload_n 1, 1) := by decide +kernel
theorem dX1_judgeSending_15 : decode cX1_judgeSending 15 = .ok (.iconst 2, 1) := by decide +kernel
theorem dX1_judgeSending_16 : decode cX1_judgeSending 16 = .ok (.invokevirtual 84, 3) := by decide +kernel
theorem dX1_judgeSending_19 : decode cX1_judgeSending 19 = .ok (.ifCond .ne 5, 3) := by decide +kernel
theorem dX1_judgeSending_22 : decode cX1_judgeSending 22 = .ok (.iconst 4, 1) := by decide +kernel
theorem dX1_judgeSending_23 : decode cX1_judgeSending 23 = .ok (.ireturn, 1) := by decide +kernel
theorem dX1_judgeSending_24 : decode cX1_judgeSending 24 = .ok (.aload_n 0, 1) := by decide +kernel
theorem dX1_judgeSending_25 : decode cX1_judgeSending 25 = .ok (.iconst 3, 1) := by decide +kernel
theorem dX1_judgeSending_26 : decode cX1_judgeSending 26 = .ok (.invokevirtual 88, 3) := by decide +kernel
theorem dX1_judgeSending_29 : decode cX1_judgeSending 29 = .ok (.iconst 2, 1) := by decide +kernel
theorem dX1_judgeSending_30 : decode cX1_judgeSending 30 = .ok (.if_icmp .ge 7, 3) := by decide +kernel
theorem dX1_judgeSending_33 : decode cX1_judgeSending 33 = .ok (.iconst 0, 1) := by decide +kernel
theorem dX1_judgeSending_34 : decode cX1_judgeSending 34 = .ok (.goto 4, 3) := by decide +kernel
theorem dX1_judgeSending_37 : decode cX1_judgeSending 37 = .ok (.iconst 5, 1) := by decide +kernel
theorem dX1_judgeSending_38 : decode cX1_judgeSending 38 = .ok (.ireturn, 1) := by decide +kernel
theorem dX1_judgeBid_0 : decode cX1_judgeBid 0 = .ok (.iload_n 1, 1) := by decide +kernel
theorem dX1_judgeBid_1 : decode cX1_judgeBid 1 = .ok (.bipush 113, 2) := by decide +kernel
theorem dX1_judgeBid_3 : decode cX1_judgeBid 3 = .ok (.if_icmp .ne 18, 3) := by decide +kernel
theorem dX1_judgeBid_6 : decode cX1_judgeBid 6 = .ok (.aload_n 0, 1) := by decide +kernel
theorem dX1_judgeBid_7 : decode cX1_judgeBid 7 = .ok (.iload_n 2, 1) := by decide +kernel
theorem dX1_judgeBid_8 : decode cX1_judgeBid 8 = .ok (.invokevirtual 92, 3) := by decide +kernel
theorem dX1_judgeBid_11 : decode cX1_judgeBid 11 = .ok (.ifCond .eq 7, 3) := by decide +kernel
theorem dX1_judgeBid_14 : decode cX1_judgeBid 14 = .ok (.iconst 0, 1) := by decide +kernel
theorem dX1_judgeBid_15 : decode cX1_judgeBid 15 = .ok (.goto 5, 3) := by decide +kernel
theorem dX1_judgeBid_18 : decode cX1_judgeBid 18 = .ok (.bipush 9, 2) := by decide +kernel
theorem dX1_judgeBid_20 : decode cX1_judgeBid 20 = .ok (.ireturn, 1) := by decide +kernel
theorem dX1_judgeBid_21 : decode cX1_judgeBid 21 = .ok (.iload_n 3, 1) := by decide +kernel
theorem dX1_judgeBid_22 : decode cX1_judgeBid 22 = .ok (.iconst 1, 1) := by decide +kernel
theorem dX1_judgeBid_23 : decode cX1_judgeBid 23 = .ok (.bipush 50, 2) := by decide +kernel
theorem dX1_judgeBid_25 : decode cX1_judgeBid 25 = .ok (.invokestatic 166, 3) := by decide +kernel
theorem dX1_judgeBid_28 : decode cX1_judgeBid 28 = .ok (.ifCond .eq 15, 3) := by decide +kernel
theorem dX1_judgeBid_31 : decode cX1_judgeBid 31 = .ok (.iload 4, 2) := by decide +kernel
theorem dX1_judgeBid_33 : decode cX1_judgeBid 33 = .ok (.iconst 1, 1) := by decide +kernel
theorem dX1_judgeBid_34 : decode cX1_judgeBid 34 = .ok (.sipush 500, 3) := by decide +kernel
theorem dX1_judgeBid_37 : decode cX1_judgeBid 37 = .ok (.invokestatic 166, 3) := by decide +kernel
theorem dX1_judgeBid_40 : decode cX1_judgeBid 40 = .ok (.ifCond .ne 6, 3) := by decide +kernel
theorem dX1_judgeBid_43 : decode cX1_judgeBid 43 = .ok (.bipush (-2), 2) := by decide +kernel
theorem dX1_judgeBid_45 : decode cX1_judgeBid 45 = .ok (.ireturn, 1) := by decide +kernel
theorem dX1_judgeBid_46 : decode cX1_judgeBid 46 = .ok (.aload_n 0, 1) := by decide +kernel
theorem dX1_judgeBid_47 : decode cX1_judgeBid 47 = .ok (.iload_n 2, 1) := by decide +kernel
theorem dX1_judgeBid_48 : decode cX1_judgeBid 48 = .ok (.invokevirtual 92, 3) := by decide +kernel
theorem dX1_judgeBid_51 : decode cX1_judgeBid 51 = .ok (.ifCond .eq 8, 3) := by decide +kernel
theorem dX1_judgeBid_54 : decode cX1_judgeBid 54 = .ok (.bipush 8, 2) := by decide +kernel
theorem dX1_judgeBid_56 : decode cX1_judgeBid 56 = .ok (.goto 4, 3) := by decide +kernel
theorem dX1_judgeBid_59 : decode cX1_judgeBid 59 = .ok (.iconst 0, 1) := by decide +kernel
theorem dX1_judgeBid_60 : decode cX1_judgeBid 60 = .ok (.ireturn, 1) := by decide +kernel
theorem dX1_detailOf_0 : decode cX1_detailOf 0 = .ok (.iload_n 1, 1) := by decide +kernel
theorem dX1_detailOf_1 : decode cX1_detailOf 1 = .ok (.tableswitch 89 1 9 #[51, 54, 61, 89, 70, 89, 89, 75, 84], 51) := by decide +kernel
theorem dX1_detailOf_52 : decode cX1_detailOf 52 = .ok (.bipush 12, 2) := by decide +kernel
theorem dX1_detailOf_54 : decode cX1_detailOf 54 = .ok (.ireturn, 1) := by decide +kernel
theorem dX1_detailOf_55 : decode cX1_detailOf 55 = .ok (.aload_n 0, 1) := by decide +kernel
theorem dX1_detailOf_56 : decode cX1_detailOf 56 = .ok (.iload_n 2, 1) := by decide +kernel
theorem dX1_detailOf_57 : decode cX1_detailOf 57 = .ok (.iload_n 3, 1) := by decide +kernel
theorem dX1_detailOf_58 : decode cX1_detailOf 58 = .ok (.invokevirtual 137, 3) := by decide +kernel
theorem dX1_detailOf_61 : decode cX1_detailOf 61 = .ok (.ireturn, 1) := by decide +kernel
theorem dX1_detailOf_62 : decode cX1_detailOf 62 = .ok (.aload_n 0, 1) := by decide +kernel
theorem dX1_detailOf_63 : decode cX1_detailOf 63 = .ok (.getfield 27, 3) := by decide +kernel
theorem dX1_detailOf_66 : decode cX1_detailOf 66 = .ok (.iload_n 2, 1) := by decide +kernel
theorem dX1_detailOf_67 : decode cX1_detailOf 67 = .ok (.invokestatic 80, 3) := by decide +kernel
theorem dX1_detailOf_70 : decode cX1_detailOf 70 = .ok (.ireturn, 1) := by decide +kernel
theorem dX1_detailOf_71 : decode cX1_detailOf 71 = .ok (.aload_n 0, 1) := by decide +kernel
theorem dX1_detailOf_72 : decode cX1_detailOf 72 = .ok (.invokevirtual 179, 3) := by decide +kernel
theorem dX1_detailOf_75 : decode cX1_detailOf 75 = .ok (.ireturn, 1) := by decide +kernel
theorem dX1_detailOf_76 : decode cX1_detailOf 76 = .ok (.aload_n 0, 1) := by decide +kernel
theorem dX1_detailOf_77 : decode cX1_detailOf 77 = .ok (.getfield 33, 3) := by decide +kernel
theorem dX1_detailOf_80 : decode cX1_detailOf 80 = .ok (.iload_n 2, 1) := by decide +kernel
theorem dX1_detailOf_81 : decode cX1_detailOf 81 = .ok (.invokestatic 80, 3) := by decide +kernel
theorem dX1_detailOf_84 : decode cX1_detailOf 84 = .ok (.ireturn, 1) := by decide +kernel
theorem dX1_detailOf_85 : decode cX1_detailOf 85 = .ok (.aload_n 0, 1) := by decide +kernel
theorem dX1_detailOf_86 : decode cX1_detailOf 86 = .ok (.invokevirtual 183, 3) := by decide +kernel
theorem dX1_detailOf_89 : decode cX1_detailOf 89 = .ok (.ireturn, 1) := by decide +kernel
theorem dX1_detailOf_90 : decode cX1_detailOf 90 = .ok (.aload_n 0, 1) := by decide +kernel
theorem dX1_detailOf_91 : decode cX1_detailOf 91 = .ok (.iload_n 2, 1) := by decide +kernel
theorem dX1_detailOf_92 : decode cX1_detailOf 92 = .ok (.aload_n 0, 1) := by decide +kernel
theorem dX1_detailOf_93 : decode cX1_detailOf 93 = .ok (.getfield 39, 3) := by decide +kernel
theorem dX1_detailOf_96 : decode cX1_detailOf 96 = .ok (.aload_n 0, 1) := by decide +kernel
theorem dX1_detailOf_97 : decode cX1_detailOf 97 = .ok (.getfield 54, 3) := by decide +kernel
theorem dX1_detailOf_100 : decode cX1_detailOf 100 = .ok (.invokevirtual 123, 3) := by decide +kernel
theorem dX1_detailOf_103 : decode cX1_detailOf 103 = .ok (.ireturn, 1) := by decide +kernel
theorem dX1_add_0 : decode cX1_add 0 = .ok (.aload_n 0, 1) := by decide +kernel
theorem dX1_add_1 : decode cX1_add 1 = .ok (.getfield 51, 3) := by decide +kernel
theorem dX1_add_4 : decode cX1_add 4 = .ok (.istore 4, 2) := by decide +kernel
theorem dX1_add_6 : decode cX1_add 6 = .ok (.aload_n 0, 1) := by decide +kernel
theorem dX1_add_7 : decode cX1_add 7 = .ok (.getfield 11, 3) := by decide +kernel
theorem dX1_add_10 : decode cX1_add 10 = .ok (.iload 4, 2) := by decide +kernel
theorem dX1_add_12 : decode cX1_add 12 = .ok (.iload_n 1, 1) := by decide +kernel
theorem dX1_add_13 : decode cX1_add 13 = .ok (.invokestatic 226, 3) := by decide +kernel
theorem dX1_add_16 : decode cX1_add 16 = .ok (.aload_n 0, 1) := by decide +kernel
theorem dX1_add_17 : decode cX1_add 17 = .ok (.getfield 15, 3) := by decide +kernel
theorem dX1_add_20 : decode cX1_add 20 = .ok (.iload 4, 2) := by decide +kernel
theorem dX1_add_22 : decode cX1_add 22 = .ok (.iload_n 2, 1) := by decide +kernel
theorem dX1_add_23 : decode cX1_add 23 = .ok (.invokestatic 226, 3) := by decide +kernel
theorem dX1_add_26 : decode cX1_add 26 = .ok (.aload_n 0, 1) := by decide +kernel
theorem dX1_add_27 : decode cX1_add 27 = .ok (.getfield 18, 3) := by decide +kernel
theorem dX1_add_30 : decode cX1_add 30 = .ok (.iload 4, 2) := by decide +kernel
theorem dX1_add_32 : decode cX1_add 32 = .ok (.iload_n 3, 1) := by decide +kernel
theorem dX1_add_33 : decode cX1_add 33 = .ok (.invokestatic 226, 3) := by decide +kernel
theorem dX1_add_36 : decode cX1_add 36 = .ok (.aload_n 0, 1) := by decide +kernel
theorem dX1_add_37 : decode cX1_add 37 = .ok (.getfield 21, 3) := by decide +kernel
theorem dX1_add_40 : decode cX1_add 40 = .ok (.iload 4, 2) := by decide +kernel
theorem dX1_add_42 : decode cX1_add 42 = .ok (.iconst 1, 1) := by decide +kernel
theorem dX1_add_43 : decode cX1_add 43 = .ok (.invokestatic 226, 3) := by decide +kernel
theorem dX1_add_46 : decode cX1_add 46 = .ok (.aload_n 0, 1) := by decide +kernel
theorem dX1_add_47 : decode cX1_add 47 = .ok (.getfield 24, 3) := by decide +kernel
theorem dX1_add_50 : decode cX1_add 50 = .ok (.iload 4, 2) := by decide +kernel
theorem dX1_add_52 : decode cX1_add 52 = .ok (.iconst (-1), 1) := by decide +kernel
theorem dX1_add_53 : decode cX1_add 53 = .ok (.invokestatic 226, 3) := by decide +kernel
theorem dX1_add_56 : decode cX1_add 56 = .ok (.aload_n 0, 1) := by decide +kernel
theorem dX1_add_57 : decode cX1_add 57 = .ok (.getfield 30, 3) := by decide +kernel
theorem dX1_add_60 : decode cX1_add 60 = .ok (.iload_n 1, 1) := by decide +kernel
theorem dX1_add_61 : decode cX1_add 61 = .ok (.iload_n 2, 1) := by decide +kernel
theorem dX1_add_62 : decode cX1_add 62 = .ok (.invokestatic 76, 3) := by decide +kernel
theorem dX1_add_65 : decode cX1_add 65 = .ok (.iload 4, 2) := by decide +kernel
theorem dX1_add_67 : decode cX1_add 67 = .ok (.iconst 1, 1) := by decide +kernel
theorem dX1_add_68 : decode cX1_add 68 = .ok (.iadd, 1) := by decide +kernel
theorem dX1_add_69 : decode cX1_add 69 = .ok (.invokestatic 226, 3) := by decide +kernel
theorem dX1_add_72 : decode cX1_add 72 = .ok (.aload_n 0, 1) := by decide +kernel
theorem dX1_add_73 : decode cX1_add 73 = .ok (.dup, 1) := by decide +kernel
theorem dX1_add_74 : decode cX1_add 74 = .ok (.getfield 51, 3) := by decide +kernel
theorem dX1_add_77 : decode cX1_add 77 = .ok (.iconst 1, 1) := by decide +kernel
theorem dX1_add_78 : decode cX1_add 78 = .ok (.iadd, 1) := by decide +kernel
theorem dX1_add_79 : decode cX1_add 79 = .ok (.putfield 51, 3) := by decide +kernel
theorem dX1_add_82 : decode cX1_add 82 = .ok (.iload 4, 2) := by decide +kernel
theorem dX1_add_84 : decode cX1_add 84 = .ok (.ireturn, 1) := by decide +kernel
theorem dX1_breakDown_0 : decode cX1_breakDown 0 = .ok (.aload_n 0, 1) := by decide +kernel
theorem dX1_breakDown_1 : decode cX1_breakDown 1 = .ok (.getfield 21, 3) := by decide +kernel
theorem dX1_breakDown_4 : decode cX1_breakDown 4 = .ok (.iload_n 1, 1) := by decide +kernel
theorem dX1_breakDown_5 : decode cX1_breakDown 5 = .ok (.iconst 2, 1) := by decide +kernel
theorem dX1_breakDown_6 : decode cX1_breakDown 6 = .ok (.invokestatic 226, 3) := by decide +kernel
theorem dX1_breakDown_9 : decode cX1_breakDown 9 = .ok (.aload_n 0, 1) := by decide +kernel
theorem dX1_breakDown_10 : decode cX1_breakDown 10 = .ok (.getfield 24, 3) := by decide +kernel
theorem dX1_breakDown_13 : decode cX1_breakDown 13 = .ok (.iload_n 1, 1) := by decide +kernel
theorem dX1_breakDown_14 : decode cX1_breakDown 14 = .ok (.iconst (-1), 1) := by decide +kernel
theorem dX1_breakDown_15 : decode cX1_breakDown 15 = .ok (.invokestatic 226, 3) := by decide +kernel
theorem dX1_breakDown_18 : decode cX1_breakDown 18 = .ok (.aload_n 0, 1) := by decide +kernel
theorem dX1_breakDown_19 : decode cX1_breakDown 19 = .ok (.getfield 51, 3) := by decide +kernel
theorem dX1_breakDown_22 : decode cX1_breakDown 22 = .ok (.aload_n 0, 1) := by decide +kernel
theorem dX1_breakDown_23 : decode cX1_breakDown 23 = .ok (.iconst 1, 1) := by decide +kernel
theorem dX1_breakDown_24 : decode cX1_breakDown 24 = .ok (.invokevirtual 88, 3) := by decide +kernel
theorem dX1_breakDown_27 : decode cX1_breakDown 27 = .ok (.isub, 1) := by decide +kernel
theorem dX1_breakDown_28 : decode cX1_breakDown 28 = .ok (.ireturn, 1) := by decide +kernel
theorem dX1_startService_0 : decode cX1_startService 0 = .ok (.aload_n 0, 1) := by decide +kernel
theorem dX1_startService_1 : decode cX1_startService 1 = .ok (.getfield 21, 3) := by decide +kernel
theorem dX1_startService_4 : decode cX1_startService 4 = .ok (.iload_n 1, 1) := by decide +kernel
theorem dX1_startService_5 : decode cX1_startService 5 = .ok (.iconst 3, 1) := by decide +kernel
theorem dX1_startService_6 : decode cX1_startService 6 = .ok (.invokestatic 226, 3) := by decide +kernel
theorem dX1_startService_9 : decode cX1_startService 9 = .ok (.aload_n 0, 1) := by decide +kernel
theorem dX1_startService_10 : decode cX1_startService 10 = .ok (.getfield 27, 3) := by decide +kernel
theorem dX1_startService_13 : decode cX1_startService 13 = .ok (.iload_n 1, 1) := by decide +kernel
theorem dX1_startService_14 : decode cX1_startService 14 = .ok (.iload_n 2, 1) := by decide +kernel
theorem dX1_startService_15 : decode cX1_startService 15 = .ok (.invokestatic 226, 3) := by decide +kernel
theorem dX1_startService_18 : decode cX1_startService 18 = .ok (.aload_n 0, 1) := by decide +kernel
theorem dX1_startService_19 : decode cX1_startService 19 = .ok (.invokevirtual 230, 3) := by decide +kernel
theorem dX1_startService_22 : decode cX1_startService 22 = .ok (.ireturn, 1) := by decide +kernel
theorem dX1_stopService_0 : decode cX1_stopService 0 = .ok (.aload_n 0, 1) := by decide +kernel
theorem dX1_stopService_1 : decode cX1_stopService 1 = .ok (.getfield 27, 3) := by decide +kernel
theorem dX1_stopService_4 : decode cX1_stopService 4 = .ok (.iload_n 1, 1) := by decide +kernel
theorem dX1_stopService_5 : decode cX1_stopService 5 = .ok (.invokestatic 80, 3) := by decide +kernel
theorem dX1_stopService_8 : decode cX1_stopService 8 = .ok (.istore_n 2, 1) := by decide +kernel
theorem dX1_stopService_9 : decode cX1_stopService 9 = .ok (.aload_n 0, 1) := by decide +kernel
theorem dX1_stopService_10 : decode cX1_stopService 10 = .ok (.getfield 21, 3) := by decide +kernel
theorem dX1_stopService_13 : decode cX1_stopService 13 = .ok (.iload_n 1, 1) := by decide +kernel
theorem dX1_stopService_14 : decode cX1_stopService 14 = .ok (.iconst 2, 1) := by decide +kernel
theorem dX1_stopService_15 : decode cX1_stopService 15 = .ok (.invokestatic 226, 3) := by decide +kernel
theorem dX1_stopService_18 : decode cX1_stopService 18 = .ok (.aload_n 0, 1) := by decide +kernel
theorem dX1_stopService_19 : decode cX1_stopService 19 = .ok (.getfield 27, 3) := by decide +kernel
theorem dX1_stopService_22 : decode cX1_stopService 22 = .ok (.iload_n 1, 1) := by decide +kernel
theorem dX1_stopService_23 : decode cX1_stopService 23 = .ok (.iconst 0, 1) := by decide +kernel
theorem dX1_stopService_24 : decode cX1_stopService 24 = .ok (.invokestatic 226, 3) := by decide +kernel
theorem dX1_stopService_27 : decode cX1_stopService 27 = .ok (.iload_n 2, 1) := by decide +kernel
theorem dX1_stopService_28 : decode cX1_stopService 28 = .ok (.ireturn, 1) := by decide +kernel
theorem dX1_changeLimit_0 : decode cX1_changeLimit 0 = .ok (.aload_n 0, 1) := by decide +kernel
theorem dX1_changeLimit_1 : decode cX1_changeLimit 1 = .ok (.getfield 24, 3) := by decide +kernel
theorem dX1_changeLimit_4 : decode cX1_changeLimit 4 = .ok (.iload_n 1, 1) := by decide +kernel
theorem dX1_changeLimit_5 : decode cX1_changeLimit 5 = .ok (.iload_n 2, 1) := by decide +kernel
theorem dX1_changeLimit_6 : decode cX1_changeLimit 6 = .ok (.invokestatic 226, 3) := by decide +kernel
theorem dX1_changeLimit_9 : decode cX1_changeLimit 9 = .ok (.aload_n 0, 1) := by decide +kernel
theorem dX1_changeLimit_10 : decode cX1_changeLimit 10 = .ok (.iload_n 1, 1) := by decide +kernel
theorem dX1_changeLimit_11 : decode cX1_changeLimit 11 = .ok (.aload_n 0, 1) := by decide +kernel
theorem dX1_changeLimit_12 : decode cX1_changeLimit 12 = .ok (.getfield 39, 3) := by decide +kernel
theorem dX1_changeLimit_15 : decode cX1_changeLimit 15 = .ok (.aload_n 0, 1) := by decide +kernel
theorem dX1_changeLimit_16 : decode cX1_changeLimit 16 = .ok (.getfield 54, 3) := by decide +kernel
theorem dX1_changeLimit_19 : decode cX1_changeLimit 19 = .ok (.invokevirtual 123, 3) := by decide +kernel
theorem dX1_changeLimit_22 : decode cX1_changeLimit 22 = .ok (.ireturn, 1) := by decide +kernel
theorem dX1_endLimit_0 : decode cX1_endLimit 0 = .ok (.aload_n 0, 1) := by decide +kernel
theorem dX1_endLimit_1 : decode cX1_endLimit 1 = .ok (.iload_n 1, 1) := by decide +kernel
theorem dX1_endLimit_2 : decode cX1_endLimit 2 = .ok (.iconst (-1), 1) := by decide +kernel
theorem dX1_endLimit_3 : decode cX1_endLimit 3 = .ok (.invokevirtual 198, 3) := by decide +kernel
theorem dX1_endLimit_6 : decode cX1_endLimit 6 = .ok (.ireturn, 1) := by decide +kernel
theorem dX1_turnWind_0 : decode cX1_turnWind 0 = .ok (.aload_n 0, 1) := by decide +kernel
theorem dX1_turnWind_1 : decode cX1_turnWind 1 = .ok (.iload_n 1, 1) := by decide +kernel
theorem dX1_turnWind_2 : decode cX1_turnWind 2 = .ok (.putfield 39, 3) := by decide +kernel
theorem dX1_turnWind_5 : decode cX1_turnWind 5 = .ok (.aload_n 0, 1) := by decide +kernel
theorem dX1_turnWind_6 : decode cX1_turnWind 6 = .ok (.iload_n 2, 1) := by decide +kernel
theorem dX1_turnWind_7 : decode cX1_turnWind 7 = .ok (.putfield 54, 3) := by decide +kernel
theorem dX1_turnWind_10 : decode cX1_turnWind 10 = .ok (.aload_n 0, 1) := by decide +kernel
theorem dX1_turnWind_11 : decode cX1_turnWind 11 = .ok (.iload_n 1, 1) := by decide +kernel
theorem dX1_turnWind_12 : decode cX1_turnWind 12 = .ok (.iload_n 2, 1) := by decide +kernel
theorem dX1_turnWind_13 : decode cX1_turnWind 13 = .ok (.invokevirtual 233, 3) := by decide +kernel
theorem dX1_turnWind_16 : decode cX1_turnWind 16 = .ok (.ireturn, 1) := by decide +kernel
theorem dX1_changeGridLimit_0 : decode cX1_changeGridLimit 0 = .ok (.aload_n 0, 1) := by decide +kernel
theorem dX1_changeGridLimit_1 : decode cX1_changeGridLimit 1 = .ok (.getfield 43, 3) := by decide +kernel
theorem dX1_changeGridLimit_4 : decode cX1_changeGridLimit 4 = .ok (.istore_n 2, 1) := by decide +kernel
theorem dX1_changeGridLimit_5 : decode cX1_changeGridLimit 5 = .ok (.aload_n 0, 1) := by decide +kernel
theorem dX1_changeGridLimit_6 : decode cX1_changeGridLimit 6 = .ok (.iload_n 1, 1) := by decide +kernel
theorem dX1_changeGridLimit_7 : decode cX1_changeGridLimit 7 = .ok (.putfield 43, 3) := by decide +kernel
theorem dX1_changeGridLimit_10 : decode cX1_changeGridLimit 10 = .ok (.iload_n 2, 1) := by decide +kernel
theorem dX1_changeGridLimit_11 : decode cX1_changeGridLimit 11 = .ok (.ireturn, 1) := by decide +kernel
theorem dX1_limitToGrid_0 : decode cX1_limitToGrid 0 = .ok (.iconst 0, 1) := by decide +kernel
theorem dX1_limitToGrid_1 : decode cX1_limitToGrid 1 = .ok (.istore_n 1, 1) := by decide +kernel
theorem dX1_limitToGrid_2 : decode cX1_limitToGrid 2 = .ok (.iconst 0, 1) := by decide +kernel
theorem dX1_limitToGrid_3 : decode cX1_limitToGrid 3 = .ok (.istore_n 2, 1) := by decide +kernel
theorem dX1_limitToGrid_4 : decode cX1_limitToGrid 4 = .ok (.iload_n 2, 1) := by decide +kernel
theorem dX1_limitToGrid_5 : decode cX1_limitToGrid 5 = .ok (.aload_n 0, 1) := by decide +kernel
theorem dX1_limitToGrid_6 : decode cX1_limitToGrid 6 = .ok (.getfield 51, 3) := by decide +kernel
theorem dX1_limitToGrid_9 : decode cX1_limitToGrid 9 = .ok (.if_icmp .ge 75, 3) := by decide +kernel
theorem dX1_limitToGrid_12 : decode cX1_limitToGrid 12 = .ok (.aload_n 0, 1) := by decide +kernel
theorem dX1_limitToGrid_13 : decode cX1_limitToGrid 13 = .ok (.aload_n 0, 1) := by decide +kernel
theorem dX1_limitToGrid_14 : decode cX1_limitToGrid 14 = .ok (.getfield 39, 3) := by decide +kernel
theorem dX1_limitToGrid_17 : decode cX1_limitToGrid 17 = .ok (.aload_n 0, 1) := by decide +kernel
theorem dX1_limitToGrid_18 : decode cX1_limitToGrid 18 = .ok (.getfield 54, 3) := by decide +kernel
theorem dX1_limitToGrid_21 : decode cX1_limitToGrid 21 = .ok (.invokevirtual 233, 3) := by decide +kernel
theorem dX1_limitToGrid_24 : decode cX1_limitToGrid 24 = .ok (.aload_n 0, 1) := by decide +kernel
theorem dX1_limitToGrid_25 : decode cX1_limitToGrid 25 = .ok (.getfield 43, 3) := by decide +kernel
theorem dX1_limitToGrid_28 : decode cX1_limitToGrid 28 = .ok (.isub, 1) := by decide +kernel
theorem dX1_limitToGrid_29 : decode cX1_limitToGrid 29 = .ok (.istore_n 3, 1) := by decide +kernel
theorem dX1_limitToGrid_30 : decode cX1_limitToGrid 30 = .ok (.iload_n 3, 1) := by decide +kernel
theorem dX1_limitToGrid_31 : decode cX1_limitToGrid 31 = .ok (.ifCond .gt 5, 3) := by decide +kernel
theorem dX1_limitToGrid_34 : decode cX1_limitToGrid 34 = .ok (.iload_n 1, 1) := by decide +kernel
theorem dX1_limitToGrid_35 : decode cX1_limitToGrid 35 = .ok (.ireturn, 1) := by decide +kernel
theorem dX1_limitToGrid_36 : decode cX1_limitToGrid 36 = .ok (.aload_n 0, 1) := by decide +kernel
theorem dX1_limitToGrid_37 : decode cX1_limitToGrid 37 = .ok (.invokevirtual 236, 3) := by decide +kernel
theorem dX1_limitToGrid_40 : decode cX1_limitToGrid 40 = .ok (.istore 4, 2) := by decide +kernel
theorem dX1_limitToGrid_42 : decode cX1_limitToGrid 42 = .ok (.aload_n 0, 1) := by decide +kernel
theorem dX1_limitToGrid_43 : decode cX1_limitToGrid 43 = .ok (.iload 4, 2) := by decide +kernel
theorem dX1_limitToGrid_45 : decode cX1_limitToGrid 45 = .ok (.aload_n 0, 1) := by decide +kernel
theorem dX1_limitToGrid_46 : decode cX1_limitToGrid 46 = .ok (.getfield 39, 3) := by decide +kernel
theorem dX1_limitToGrid_49 : decode cX1_limitToGrid 49 = .ok (.aload_n 0, 1) := by decide +kernel
theorem dX1_limitToGrid_50 : decode cX1_limitToGrid 50 = .ok (.getfield 54, 3) := by decide +kernel
theorem dX1_limitToGrid_53 : decode cX1_limitToGrid 53 = .ok (.invokevirtual 123, 3) := by decide +kernel
theorem dX1_limitToGrid_56 : decode cX1_limitToGrid 56 = .ok (.iload_n 3, 1) := by decide +kernel
theorem dX1_limitToGrid_57 : decode cX1_limitToGrid 57 = .ok (.isub, 1) := by decide +kernel
theorem dX1_limitToGrid_58 : decode cX1_limitToGrid 58 = .ok (.istore 5, 2) := by decide +kernel
theorem dX1_limitToGrid_60 : decode cX1_limitToGrid 60 = .ok (.aload_n 0, 1) := by decide +kernel
theorem dX1_limitToGrid_61 : decode cX1_limitToGrid 61 = .ok (.getfield 24, 3) := by decide +kernel
theorem dX1_limitToGrid_64 : decode cX1_limitToGrid 64 = .ok (.iload 4, 2) := by decide +kernel
theorem dX1_limitToGrid_66 : decode cX1_limitToGrid 66 = .ok (.iload 5, 2) := by decide +kernel
theorem dX1_limitToGrid_68 : decode cX1_limitToGrid 68 = .ok (.iconst 0, 1) := by decide +kernel
theorem dX1_limitToGrid_69 : decode cX1_limitToGrid 69 = .ok (.invokestatic 239, 3) := by decide +kernel
theorem dX1_limitToGrid_72 : decode cX1_limitToGrid 72 = .ok (.invokestatic 226, 3) := by decide +kernel
theorem dX1_limitToGrid_75 : decode cX1_limitToGrid 75 = .ok (.iinc 1 1, 3) := by decide +kernel
theorem dX1_limitToGrid_78 : decode cX1_limitToGrid 78 = .ok (.iinc 2 1, 3) := by decide +kernel
theorem dX1_limitToGrid_81 : decode cX1_limitToGrid 81 = .ok (.goto (-77), 3) := by decide +kernel
theorem dX1_limitToGrid_84 : decode cX1_limitToGrid 84 = .ok (.iload_n 1, 1) := by decide +kernel
theorem dX1_limitToGrid_85 : decode cX1_limitToGrid 85 = .ok (.ireturn, 1) := by decide +kernel
theorem dX1_turbineWithMostOutput_0 : decode cX1_turbineWithMostOutput 0 = .ok (.iconst (-1), 1) := by decide +kernel
theorem dX1_turbineWithMostOutput_1 : decode cX1_turbineWithMostOutput 1 = .ok (.istore_n 1, 1) := by decide +kernel
theorem dX1_turbineWithMostOutput_2 : decode cX1_turbineWithMostOutput 2 = .ok (.iconst (-1), 1) := by decide +kernel
theorem dX1_turbineWithMostOutput_3 : decode cX1_turbineWithMostOutput 3 = .ok (.istore_n 2, 1) := by decide +kernel
theorem dX1_turbineWithMostOutput_4 : decode cX1_turbineWithMostOutput 4 = .ok (.iconst 0, 1) := by decide +kernel
theorem dX1_turbineWithMostOutput_5 : decode cX1_turbineWithMostOutput 5 = .ok (.istore_n 3, 1) := by decide +kernel
theorem dX1_turbineWithMostOutput_6 : decode cX1_turbineWithMostOutput 6 = .ok (.iload_n 3, 1) := by decide +kernel
theorem dX1_turbineWithMostOutput_7 : decode cX1_turbineWithMostOutput 7 = .ok (.aload_n 0, 1) := by decide +kernel
theorem dX1_turbineWithMostOutput_8 : decode cX1_turbineWithMostOutput 8 = .ok (.getfield 51, 3) := by decide +kernel
theorem dX1_turbineWithMostOutput_11 : decode cX1_turbineWithMostOutput 11 = .ok (.if_icmp .ge 35, 3) := by decide +kernel
theorem dX1_turbineWithMostOutput_14 : decode cX1_turbineWithMostOutput 14 = .ok (.aload_n 0, 1) := by decide +kernel
theorem dX1_turbineWithMostOutput_15 : decode cX1_turbineWithMostOutput 15 = .ok (.iload_n 3, 1) := by decide +kernel
theorem dX1_turbineWithMostOutput_16 : decode cX1_turbineWithMostOutput 16 = .ok (.aload_n 0, 1) := by decide +kernel
theorem dX1_turbineWithMostOutput_17 : decode cX1_turbineWithMostOutput 17 = .ok (.getfield 39, 3) := by decide +kernel
theorem dX1_turbineWithMostOutput_20 : decode cX1_turbineWithMostOutput 20 = .ok (.aload_n 0, 1) := by decide +kernel
theorem dX1_turbineWithMostOutput_21 : decode cX1_turbineWithMostOutput 21 = .ok (.getfield 54, 3) := by decide +kernel
theorem dX1_turbineWithMostOutput_24 : decode cX1_turbineWithMostOutput 24 = .ok (.invokevirtual 123, 3) := by decide +kernel
theorem dX1_turbineWithMostOutput_27 : decode cX1_turbineWithMostOutput 27 = .ok (.istore 4, 2) := by decide +kernel
theorem dX1_turbineWithMostOutput_29 : decode cX1_turbineWithMostOutput 29 = .ok (.iload 4, 2) := by decide +kernel
theorem dX1_turbineWithMostOutput_31 : decode cX1_turbineWithMostOutput 31 = .ok (.iload_n 2, 1) := by decide +kernel
theorem dX1_turbineWithMostOutput_32 : decode cX1_turbineWithMostOutput 32 = .ok (.if_icmp .le 8, 3) := by decide +kernel
theorem dX1_turbineWithMostOutput_35 : decode cX1_turbineWithMostOutput 35 = .ok (.iload 4, 2) := by decide +kernel
theorem dX1_turbineWithMostOutput_37 : decode cX1_turbineWithMostOutput 37 = .ok (.istore_n 2, 1) := by decide +kernel
theorem dX1_turbineWithMostOutput_38 : decode cX1_turbineWithMostOutput 38 = .ok (.iload_n 3, 1) := by decide +kernel
theorem dX1_turbineWithMostOutput_39 : decode cX1_turbineWithMostOutput 39 = .ok (.istore_n 1, 1) := by decide +kernel
theorem dX1_turbineWithMostOutput_40 : decode cX1_turbineWithMostOutput 40 = .ok (.iinc 3 1, 3) := by decide +kernel
theorem dX1_turbineWithMostOutput_43 : decode cX1_turbineWithMostOutput 43 = .ok (.goto (-37), 3) := by decide +kernel
theorem dX1_turbineWithMostOutput_46 : decode cX1_turbineWithMostOutput 46 = .ok (.iload_n 1, 1) := by decide +kernel
theorem dX1_turbineWithMostOutput_47 : decode cX1_turbineWithMostOutput 47 = .ok (.ireturn, 1) := by decide +kernel
theorem dX1_endAllLimits_0 : decode cX1_endAllLimits 0 = .ok (.iconst 0, 1) := by decide +kernel
theorem dX1_endAllLimits_1 : decode cX1_endAllLimits 1 = .ok (.istore_n 1, 1) := by decide +kernel
theorem dX1_endAllLimits_2 : decode cX1_endAllLimits 2 = .ok (.iconst 0, 1) := by decide +kernel
theorem dX1_endAllLimits_3 : decode cX1_endAllLimits 3 = .ok (.istore_n 2, 1) := by decide +kernel
theorem dX1_endAllLimits_4 : decode cX1_endAllLimits 4 = .ok (.iload_n 2, 1) := by decide +kernel
theorem dX1_endAllLimits_5 : decode cX1_endAllLimits 5 = .ok (.aload_n 0, 1) := by decide +kernel
theorem dX1_endAllLimits_6 : decode cX1_endAllLimits 6 = .ok (.getfield 51, 3) := by decide +kernel
theorem dX1_endAllLimits_9 : decode cX1_endAllLimits 9 = .ok (.if_icmp .ge 29, 3) := by decide +kernel
theorem dX1_endAllLimits_12 : decode cX1_endAllLimits 12 = .ok (.aload_n 0, 1) := by decide +kernel
theorem dX1_endAllLimits_13 : decode cX1_endAllLimits 13 = .ok (.iload_n 2, 1) := by decide +kernel
theorem dX1_endAllLimits_14 : decode cX1_endAllLimits 14 = .ok (.invokevirtual 176, 3) := by decide +kernel
theorem dX1_endAllLimits_17 : decode cX1_endAllLimits 17 = .ok (.ifCond .eq 15, 3) := by decide +kernel
theorem dX1_endAllLimits_20 : decode cX1_endAllLimits 20 = .ok (.aload_n 0, 1) := by decide +kernel
theorem dX1_endAllLimits_21 : decode cX1_endAllLimits 21 = .ok (.getfield 24, 3) := by decide +kernel
theorem dX1_endAllLimits_24 : decode cX1_endAllLimits 24 = .ok (.iload_n 2, 1) := by decide +kernel
theorem dX1_endAllLimits_25 : decode cX1_endAllLimits 25 = .ok (.iconst (-1), 1) := by decide +kernel
theorem dX1_endAllLimits_26 : decode cX1_endAllLimits 26 = .ok (.invokestatic 226, 3) := by decide +kernel
theorem dX1_endAllLimits_29 : decode cX1_endAllLimits 29 = .ok (.iinc 1 1, 3) := by decide +kernel
theorem dX1_endAllLimits_32 : decode cX1_endAllLimits 32 = .ok (.iinc 2 1, 3) := by decide +kernel
theorem dX1_endAllLimits_35 : decode cX1_endAllLimits 35 = .ok (.goto (-31), 3) := by decide +kernel
theorem dX1_endAllLimits_38 : decode cX1_endAllLimits 38 = .ok (.iload_n 1, 1) := by decide +kernel
theorem dX1_endAllLimits_39 : decode cX1_endAllLimits 39 = .ok (.ireturn, 1) := by decide +kernel
theorem dX1_addBid_0 : decode cX1_addBid 0 = .ok (.aload_n 0, 1) := by decide +kernel
theorem dX1_addBid_1 : decode cX1_addBid 1 = .ok (.getfield 33, 3) := by decide +kernel
theorem dX1_addBid_4 : decode cX1_addBid 4 = .ok (.iload_n 1, 1) := by decide +kernel
theorem dX1_addBid_5 : decode cX1_addBid 5 = .ok (.iload_n 2, 1) := by decide +kernel
theorem dX1_addBid_6 : decode cX1_addBid 6 = .ok (.invokestatic 226, 3) := by decide +kernel
theorem dX1_addBid_9 : decode cX1_addBid 9 = .ok (.aload_n 0, 1) := by decide +kernel
theorem dX1_addBid_10 : decode cX1_addBid 10 = .ok (.getfield 36, 3) := by decide +kernel
theorem dX1_addBid_13 : decode cX1_addBid 13 = .ok (.iload_n 1, 1) := by decide +kernel
theorem dX1_addBid_14 : decode cX1_addBid 14 = .ok (.iload_n 3, 1) := by decide +kernel
theorem dX1_addBid_15 : decode cX1_addBid 15 = .ok (.invokestatic 226, 3) := by decide +kernel
theorem dX1_addBid_18 : decode cX1_addBid 18 = .ok (.aload_n 0, 1) := by decide +kernel
theorem dX1_addBid_19 : decode cX1_addBid 19 = .ok (.invokevirtual 183, 3) := by decide +kernel
theorem dX1_addBid_22 : decode cX1_addBid 22 = .ok (.ireturn, 1) := by decide +kernel
theorem dX1_removeBid_0 : decode cX1_removeBid 0 = .ok (.aload_n 0, 1) := by decide +kernel
theorem dX1_removeBid_1 : decode cX1_removeBid 1 = .ok (.getfield 36, 3) := by decide +kernel
theorem dX1_removeBid_4 : decode cX1_removeBid 4 = .ok (.iload_n 1, 1) := by decide +kernel
theorem dX1_removeBid_5 : decode cX1_removeBid 5 = .ok (.invokestatic 80, 3) := by decide +kernel
theorem dX1_removeBid_8 : decode cX1_removeBid 8 = .ok (.istore_n 2, 1) := by decide +kernel
theorem dX1_removeBid_9 : decode cX1_removeBid 9 = .ok (.aload_n 0, 1) := by decide +kernel
theorem dX1_removeBid_10 : decode cX1_removeBid 10 = .ok (.getfield 33, 3) := by decide +kernel
theorem dX1_removeBid_13 : decode cX1_removeBid 13 = .ok (.iload_n 1, 1) := by decide +kernel
theorem dX1_removeBid_14 : decode cX1_removeBid 14 = .ok (.iconst 0, 1) := by decide +kernel
theorem dX1_removeBid_15 : decode cX1_removeBid 15 = .ok (.invokestatic 226, 3) := by decide +kernel
theorem dX1_removeBid_18 : decode cX1_removeBid 18 = .ok (.aload_n 0, 1) := by decide +kernel
theorem dX1_removeBid_19 : decode cX1_removeBid 19 = .ok (.getfield 36, 3) := by decide +kernel
theorem dX1_removeBid_22 : decode cX1_removeBid 22 = .ok (.iload_n 1, 1) := by decide +kernel
theorem dX1_removeBid_23 : decode cX1_removeBid 23 = .ok (.iconst 0, 1) := by decide +kernel
theorem dX1_removeBid_24 : decode cX1_removeBid 24 = .ok (.invokestatic 226, 3) := by decide +kernel
theorem dX1_removeBid_27 : decode cX1_removeBid 27 = .ok (.iload_n 2, 1) := by decide +kernel
theorem dX1_removeBid_28 : decode cX1_removeBid 28 = .ok (.ireturn, 1) := by decide +kernel
theorem dX1_pass_0 : decode cX1_pass 0 = .ok (.aload_n 0, 1) := by decide +kernel
theorem dX1_pass_1 : decode cX1_pass 1 = .ok (.getfield 67, 3) := by decide +kernel
theorem dX1_pass_4 : decode cX1_pass 4 = .ok (.lstore_n 2, 1) := by decide +kernel
theorem dX1_pass_5 : decode cX1_pass 5 = .ok (.iconst 0, 1) := by decide +kernel
theorem dX1_pass_6 : decode cX1_pass 6 = .ok (.istore 4, 2) := by decide +kernel
theorem dX1_pass_8 : decode cX1_pass 8 = .ok (.iload 4, 2) := by decide +kernel
theorem dX1_pass_10 : decode cX1_pass 10 = .ok (.iload_n 1, 1) := by decide +kernel
theorem dX1_pass_11 : decode cX1_pass 11 = .ok (.if_icmp .ge 39, 3) := by decide +kernel
theorem dX1_pass_14 : decode cX1_pass 14 = .ok (.aload_n 0, 1) := by decide +kernel
theorem dX1_pass_15 : decode cX1_pass 15 = .ok (.aload_n 0, 1) := by decide +kernel
theorem dX1_pass_16 : decode cX1_pass 16 = .ok (.aload_n 0, 1) := by decide +kernel
theorem dX1_pass_17 : decode cX1_pass 17 = .ok (.getfield 39, 3) := by decide +kernel
theorem dX1_pass_20 : decode cX1_pass 20 = .ok (.aload_n 0, 1) := by decide +kernel
theorem dX1_pass_21 : decode cX1_pass 21 = .ok (.getfield 54, 3) := by decide +kernel
theorem dX1_pass_24 : decode cX1_pass 24 = .ok (.invokevirtual 233, 3) := by decide +kernel
theorem dX1_pass_27 : decode cX1_pass 27 = .ok (.invokevirtual 242, 3) := by decide +kernel
theorem dX1_pass_30 : decode cX1_pass 30 = .ok (.aload_n 0, 1) := by decide +kernel
theorem dX1_pass_31 : decode cX1_pass 31 = .ok (.invokevirtual 246, 3) := by decide +kernel
theorem dX1_pass_34 : decode cX1_pass 34 = .ok (.aload_n 0, 1) := by decide +kernel
theorem dX1_pass_35 : decode cX1_pass 35 = .ok (.dup, 1) := by decide +kernel
theorem dX1_pass_36 : decode cX1_pass 36 = .ok (.getfield 57, 3) := by decide +kernel
theorem dX1_pass_39 : decode cX1_pass 39 = .ok (.iconst 1, 1) := by decide +kernel
theorem dX1_pass_40 : decode cX1_pass 40 = .ok (.iadd, 1) := by decide +kernel
theorem dX1_pass_41 : decode cX1_pass 41 = .ok (.putfield 57, 3) := by decide +kernel
theorem dX1_pass_44 : decode cX1_pass 44 = .ok (.iinc 4 1, 3) := by decide +kernel
theorem dX1_pass_47 : decode cX1_pass 47 = .ok (.goto (-39), 3) := by decide +kernel
theorem dX1_pass_50 : decode cX1_pass 50 = .ok (.aload_n 0, 1) := by decide +kernel
theorem dX1_pass_51 : decode cX1_pass 51 = .ok (.getfield 67, 3) := by decide +kernel
theorem dX1_pass_54 : decode cX1_pass 54 = .ok (.lload_n 2, 1) := by decide +kernel
theorem dX1_pass_55 : decode cX1_pass 55 = .ok (.lsub, 1) := by decide +kernel
theorem dX1_pass_56 : decode cX1_pass 56 = .ok (.l2i, 1) := by decide +kernel
theorem dX1_pass_57 : decode cX1_pass 57 = .ok (.ireturn, 1) := by decide +kernel
theorem dX1_account_0 : decode cX1_account 0 = .ok (.aload_n 0, 1) := by decide +kernel
theorem dX1_account_1 : decode cX1_account 1 = .ok (.getfield 57, 3) := by decide +kernel
theorem dX1_account_4 : decode cX1_account 4 = .ok (.bipush 24, 2) := by decide +kernel
theorem dX1_account_6 : decode cX1_account 6 = .ok (.irem, 1) := by decide +kernel
theorem dX1_account_7 : decode cX1_account 7 = .ok (.istore_n 2, 1) := by decide +kernel
theorem dX1_account_8 : decode cX1_account 8 = .ok (.aload_n 0, 1) := by decide +kernel
theorem dX1_account_9 : decode cX1_account 9 = .ok (.getfield 36, 3) := by decide +kernel
theorem dX1_account_12 : decode cX1_account 12 = .ok (.iload_n 2, 1) := by decide +kernel
theorem dX1_account_13 : decode cX1_account 13 = .ok (.invokestatic 80, 3) := by decide +kernel
theorem dX1_account_16 : decode cX1_account 16 = .ok (.istore_n 3, 1) := by decide +kernel
theorem dX1_account_17 : decode cX1_account 17 = .ok (.iload_n 1, 1) := by decide +kernel
theorem dX1_account_18 : decode cX1_account 18 = .ok (.bipush 20, 2) := by decide +kernel
theorem dX1_account_20 : decode cX1_account 20 = .ok (.idiv, 1) := by decide +kernel
theorem dX1_account_21 : decode cX1_account 21 = .ok (.istore 4, 2) := by decide +kernel
theorem dX1_account_23 : decode cX1_account 23 = .ok (.iload_n 1, 1) := by decide +kernel
theorem dX1_account_24 : decode cX1_account 24 = .ok (.iload 4, 2) := by decide +kernel
theorem dX1_account_26 : decode cX1_account 26 = .ok (.isub, 1) := by decide +kernel
theorem dX1_account_27 : decode cX1_account 27 = .ok (.iload_n 3, 1) := by decide +kernel
theorem dX1_account_28 : decode cX1_account 28 = .ok (.invokestatic 107, 3) := by decide +kernel
theorem dX1_account_31 : decode cX1_account 31 = .ok (.istore 5, 2) := by decide +kernel
theorem dX1_account_33 : decode cX1_account 33 = .ok (.iload_n 3, 1) := by decide +kernel
theorem dX1_account_34 : decode cX1_account 34 = .ok (.iload 5, 2) := by decide +kernel
theorem dX1_account_36 : decode cX1_account 36 = .ok (.isub, 1) := by decide +kernel
theorem dX1_account_37 : decode cX1_account 37 = .ok (.istore 6, 2) := by decide +kernel
theorem dX1_account_39 : decode cX1_account 39 = .ok (.aload_n 0, 1) := by decide +kernel
theorem dX1_account_40 : decode cX1_account 40 = .ok (.dup, 1) := by decide +kernel
theorem dX1_account_41 : decode cX1_account 41 = .ok (.getfield 60, 3) := by decide +kernel
theorem dX1_account_44 : decode cX1_account 44 = .ok (.iload_n 1, 1) := by decide +kernel
theorem dX1_account_45 : decode cX1_account 45 = .ok (.i2l, 1) := by decide +kernel
theorem dX1_account_46 : decode cX1_account 46 = .ok (.ladd, 1) := by decide +kernel
theorem dX1_account_47 : decode cX1_account 47 = .ok (.putfield 60, 3) := by decide +kernel
theorem dX1_account_50 : decode cX1_account 50 = .ok (.aload_n 0, 1) := by decide +kernel
theorem dX1_account_51 : decode cX1_account 51 = .ok (.dup, 1) := by decide +kernel
theorem dX1_account_52 : decode cX1_account 52 = .ok (.getfield 64, 3) := by decide +kernel
theorem dX1_account_55 : decode cX1_account 55 = .ok (.iload 4, 2) := by decide +kernel
theorem dX1_account_57 : decode cX1_account 57 = .ok (.i2l, 1) := by decide +kernel
theorem dX1_account_58 : decode cX1_account 58 = .ok (.ladd, 1) := by decide +kernel
theorem dX1_account_59 : decode cX1_account 59 = .ok (.putfield 64, 3) := by decide +kernel
theorem dX1_account_62 : decode cX1_account 62 = .ok (.aload_n 0, 1) := by decide +kernel
theorem dX1_account_63 : decode cX1_account 63 = .ok (.dup, 1) := by decide +kernel
theorem dX1_account_64 : decode cX1_account 64 = .ok (.getfield 67, 3) := by decide +kernel
theorem dX1_account_67 : decode cX1_account 67 = .ok (.iload 5, 2) := by decide +kernel
theorem dX1_account_69 : decode cX1_account 69 = .ok (.i2l, 1) := by decide +kernel
theorem dX1_account_70 : decode cX1_account 70 = .ok (.ladd, 1) := by decide +kernel
theorem dX1_account_71 : decode cX1_account 71 = .ok (.putfield 67, 3) := by decide +kernel
theorem dX1_account_74 : decode cX1_account 74 = .ok (.aload_n 0, 1) := by decide +kernel
theorem dX1_account_75 : decode cX1_account 75 = .ok (.dup, 1) := by decide +kernel
theorem dX1_account_76 : decode cX1_account 76 = .ok (.getfield 70, 3) := by decide +kernel
theorem dX1_account_79 : decode cX1_account 79 = .ok (.iload_n 1, 1) := by decide +kernel
theorem dX1_account_80 : decode cX1_account 80 = .ok (.iload 4, 2) := by decide +kernel
theorem dX1_account_82 : decode cX1_account 82 = .ok (.isub, 1) := by decide +kernel
theorem dX1_account_83 : decode cX1_account 83 = .ok (.iload 5, 2) := by decide +kernel
theorem dX1_account_85 : decode cX1_account 85 = .ok (.isub, 1) := by decide +kernel
theorem dX1_account_86 : decode cX1_account 86 = .ok (.i2l, 1) := by decide +kernel
theorem dX1_account_87 : decode cX1_account 87 = .ok (.ladd, 1) := by decide +kernel
theorem dX1_account_88 : decode cX1_account 88 = .ok (.putfield 70, 3) := by decide +kernel
theorem dX1_account_91 : decode cX1_account 91 = .ok (.aload_n 0, 1) := by decide +kernel
theorem dX1_account_92 : decode cX1_account 92 = .ok (.dup, 1) := by decide +kernel
theorem dX1_account_93 : decode cX1_account 93 = .ok (.getfield 73, 3) := by decide +kernel
theorem dX1_account_96 : decode cX1_account 96 = .ok (.aload_n 0, 1) := by decide +kernel
theorem dX1_account_97 : decode cX1_account 97 = .ok (.getfield 33, 3) := by decide +kernel
theorem dX1_account_100 : decode cX1_account 100 = .ok (.iload_n 2, 1) := by decide +kernel
theorem dX1_account_101 : decode cX1_account 101 = .ok (.invokestatic 80, 3) := by decide +kernel
theorem dX1_account_104 : decode cX1_account 104 = .ok (.iload 5, 2) := by decide +kernel
theorem dX1_account_106 : decode cX1_account 106 = .ok (.iload 6, 2) := by decide +kernel
theorem dX1_account_108 : decode cX1_account 108 = .ok (.isub, 1) := by decide +kernel
theorem dX1_account_109 : decode cX1_account 109 = .ok (.imul, 1) := by decide +kernel
theorem dX1_account_110 : decode cX1_account 110 = .ok (.i2l, 1) := by decide +kernel
theorem dX1_account_111 : decode cX1_account 111 = .ok (.ladd, 1) := by decide +kernel
theorem dX1_account_112 : decode cX1_account 112 = .ok (.putfield 73, 3) := by decide +kernel
theorem dX1_account_115 : decode cX1_account 115 = .ok (.return_, 1) := by decide +kernel
theorem dX1_workOnServices_0 : decode cX1_workOnServices 0 = .ok (.iconst 0, 1) := by decide +kernel
theorem dX1_workOnServices_1 : decode cX1_workOnServices 1 = .ok (.istore_n 1, 1) := by decide +kernel
theorem dX1_workOnServices_2 : decode cX1_workOnServices 2 = .ok (.iload_n 1, 1) := by decide +kernel
theorem dX1_workOnServices_3 : decode cX1_workOnServices 3 = .ok (.aload_n 0, 1) := by decide +kernel
theorem dX1_workOnServices_4 : decode cX1_workOnServices 4 = .ok (.getfield 51, 3) := by decide +kernel
theorem dX1_workOnServices_7 : decode cX1_workOnServices 7 = .ok (.if_icmp .ge 51, 3) := by decide +kernel
theorem dX1_workOnServices_10 : decode cX1_workOnServices 10 = .ok (.aload_n 0, 1) := by decide +kernel
theorem dX1_workOnServices_11 : decode cX1_workOnServices 11 = .ok (.iload_n 1, 1) := by decide +kernel
theorem dX1_workOnServices_12 : decode cX1_workOnServices 12 = .ok (.iconst 3, 1) := by decide +kernel
theorem dX1_workOnServices_13 : decode cX1_workOnServices 13 = .ok (.invokevirtual 84, 3) := by decide +kernel
theorem dX1_workOnServices_16 : decode cX1_workOnServices 16 = .ok (.ifCond .eq 36, 3) := by decide +kernel
theorem dX1_workOnServices_19 : decode cX1_workOnServices 19 = .ok (.aload_n 0, 1) := by decide +kernel
theorem dX1_workOnServices_20 : decode cX1_workOnServices 20 = .ok (.getfield 27, 3) := by decide +kernel
theorem dX1_workOnServices_23 : decode cX1_workOnServices 23 = .ok (.iload_n 1, 1) := by decide +kernel
theorem dX1_workOnServices_24 : decode cX1_workOnServices 24 = .ok (.invokestatic 80, 3) := by decide +kernel
theorem dX1_workOnServices_27 : decode cX1_workOnServices 27 = .ok (.iconst 1, 1) := by decide +kernel
theorem dX1_workOnServices_28 : decode cX1_workOnServices 28 = .ok (.isub, 1) := by decide +kernel
theorem dX1_workOnServices_29 : decode cX1_workOnServices 29 = .ok (.istore_n 2, 1) := by decide +kernel
theorem dX1_workOnServices_30 : decode cX1_workOnServices 30 = .ok (.aload_n 0, 1) := by decide +kernel
theorem dX1_workOnServices_31 : decode cX1_workOnServices 31 = .ok (.getfield 27, 3) := by decide +kernel
theorem dX1_workOnServices_34 : decode cX1_workOnServices 34 = .ok (.iload_n 1, 1) := by decide +kernel
theorem dX1_workOnServices_35 : decode cX1_workOnServices 35 = .ok (.iload_n 2, 1) := by decide +kernel
theorem dX1_workOnServices_36 : decode cX1_workOnServices 36 = .ok (.invokestatic 226, 3) := by decide +kernel
theorem dX1_workOnServices_39 : decode cX1_workOnServices 39 = .ok (.iload_n 2, 1) := by decide +kernel
theorem dX1_workOnServices_40 : decode cX1_workOnServices 40 = .ok (.ifCond .ne 12, 3) := by decide +kernel
theorem dX1_workOnServices_43 : decode cX1_workOnServices 43 = .ok (.aload_n 0, 1) := by decide +kernel
theorem dX1_workOnServices_44 : decode cX1_workOnServices 44 = .ok (.getfield 21, 3) := by decide +kernel
theorem dX1_workOnServices_47 : decode cX1_workOnServices 47 = .ok (.iload_n 1, 1) := by decide +kernel
theorem dX1_workOnServices_48 : decode cX1_workOnServices 48 = .ok (.iconst 1, 1) := by decide +kernel
theorem dX1_workOnServices_49 : decode cX1_workOnServices 49 = .ok (.invokestatic 226, 3) := by decide +kernel
theorem dX1_workOnServices_52 : decode cX1_workOnServices 52 = .ok (.iinc 1 1, 3) := by decide +kernel
theorem dX1_workOnServices_55 : decode cX1_workOnServices 55 = .ok (.goto (-53), 3) := by decide +kernel
theorem dX1_workOnServices_58 : decode cX1_workOnServices 58 = .ok (.return_, 1) := by decide +kernel
theorem dX2_init_0 : decode cX2_init 0 = .ok (.aload_n 0, 1) := by decide +kernel
theorem dX2_init_1 : decode cX2_init 1 = .ok (.invokespecial 3, 3) := by decide +kernel
theorem dX2_init_4 : decode cX2_init 4 = .ok (.aload_n 0, 1) := by decide +kernel
theorem dX2_init_5 : decode cX2_init 5 = .ok (.bipush 8, 2) := by decide +kernel
theorem dX2_init_7 : decode cX2_init 7 = .ok (.anewarray 9, 3) := by decide +kernel
theorem dX2_init_10 : decode cX2_init 10 = .ok (.putfield 11, 3) := by decide +kernel
theorem dX2_init_13 : decode cX2_init 13 = .ok (.iconst 0, 1) := by decide +kernel
theorem dX2_init_14 : decode cX2_init 14 = .ok (.istore_n 1, 1) := by decide +kernel
theorem dX2_init_15 : decode cX2_init 15 = .ok (.iload_n 1, 1) := by decide +kernel
theorem dX2_init_16 : decode cX2_init 16 = .ok (.aload_n 0, 1) := by decide +kernel
theorem dX2_init_17 : decode cX2_init 17 = .ok (.getfield 11, 3) := by decide +kernel
theorem dX2_init_20 : decode cX2_init 20 = .ok (.arraylength, 1) := by decide +kernel
theorem dX2_init_21 : decode cX2_init 21 = .ok (.if_icmp .ge 22, 3) := by decide +kernel
theorem dX2_init_24 : decode cX2_init 24 = .ok (.aload_n 0, 1) := by decide +kernel
theorem dX2_init_25 : decode cX2_init 25 = .ok (.getfield 11, 3) := by decide +kernel
theorem dX2_init_28 : decode cX2_init 28 = .ok (.iload_n 1, 1) := by decide +kernel
theorem dX2_init_29 : decode cX2_init 29 = .ok (.new 9, 3) := by decide +kernel
theorem dX2_init_32 : decode cX2_init 32 = .ok (.dup, 1) := by decide +kernel
theorem dX2_init_33 : decode cX2_init 33 = .ok (.invokespecial 17, 3) := by decide +kernel
theorem dX2_init_36 : decode cX2_init 36 = .ok (.aastore, 1) := by decide +kernel
theorem dX2_init_37 : decode cX2_init 37 = .ok (.iinc 1 1, 3) := by decide +kernel
theorem dX2_init_40 : decode cX2_init 40 = .ok (.goto (-25), 3) := by decide +kernel
theorem dX2_init_43 : decode cX2_init 43 = .ok (.return_, 1) := by decide +kernel
theorem dX2_keep_0 : decode cX2_keep 0 = .ok (.aload_n 0, 1) := by decide +kernel
theorem dX2_keep_1 : decode cX2_keep 1 = .ok (.aload_n 0, 1) := by decide +kernel
theorem dX2_keep_2 : decode cX2_keep 2 = .ok (.getfield 18, 3) := by decide +kernel
theorem dX2_keep_5 : decode cX2_keep 5 = .ok (.invokevirtual 22, 3) := by decide +kernel
theorem dX2_keep_8 : decode cX2_keep 8 = .ok (.astore_n 2, 1) := by decide +kernel
theorem dX2_keep_9 : decode cX2_keep 9 = .ok (.aload_n 2, 1) := by decide +kernel
theorem dX2_keep_10 : decode cX2_keep 10 = .ok (.ifnull 36, 3) := by decide +kernel
theorem dX2_keep_13 : decode cX2_keep 13 = .ok (.aload_n 2, 1) := by decide +kernel
theorem dX2_keep_14 : decode cX2_keep 14 = .ok (.aload_n 1, 1) := by decide +kernel
theorem dX2_keep_15 : decode cX2_keep 15 = .ok (.invokevirtual 26, 3) := by decide +kernel
theorem dX2_keep_18 : decode cX2_keep 18 = .ok (.aload_n 0, 1) := by decide +kernel
theorem dX2_keep_19 : decode cX2_keep 19 = .ok (.aload_n 0, 1) := by decide +kernel
theorem dX2_keep_20 : decode cX2_keep 20 = .ok (.getfield 18, 3) := by decide +kernel
theorem dX2_keep_23 : decode cX2_keep 23 = .ok (.iconst 1, 1) := by decide +kernel
theorem dX2_keep_24 : decode cX2_keep 24 = .ok (.iadd, 1) := by decide +kernel
theorem dX2_keep_25 : decode cX2_keep 25 = .ok (.bipush 8, 2) := by decide +kernel
theorem dX2_keep_27 : decode cX2_keep 27 = .ok (.irem, 1) := by decide +kernel
theorem dX2_keep_28 : decode cX2_keep 28 = .ok (.putfield 18, 3) := by decide +kernel
theorem dX2_keep_31 : decode cX2_keep 31 = .ok (.aload_n 0, 1) := by decide +kernel
theorem dX2_keep_32 : decode cX2_keep 32 = .ok (.aload_n 0, 1) := by decide +kernel
theorem dX2_keep_33 : decode cX2_keep 33 = .ok (.getfield 30, 3) := by decide +kernel
theorem dX2_keep_36 : decode cX2_keep 36 = .ok (.iconst 1, 1) := by decide +kernel
theorem dX2_keep_37 : decode cX2_keep 37 = .ok (.iadd, 1) := by decide +kernel
theorem dX2_keep_38 : decode cX2_keep 38 = .ok (.bipush 8, 2) := by decide +kernel
theorem dX2_keep_40 : decode cX2_keep 40 = .ok (.invokestatic 33, 3) := by decide +kernel
theorem dX2_keep_43 : decode cX2_keep 43 = .ok (.putfield 30, 3) := by decide +kernel
theorem dX2_keep_46 : decode cX2_keep 46 = .ok (.return_, 1) := by decide +kernel
theorem dX2_farmAt_0 : decode cX2_farmAt 0 = .ok (.iload_n 1, 1) := by decide +kernel
theorem dX2_farmAt_1 : decode cX2_farmAt 1 = .ok (.ifCond .lt 21, 3) := by decide +kernel
theorem dX2_farmAt_4 : decode cX2_farmAt 4 = .ok (.iload_n 1, 1) := by decide +kernel
theorem dX2_farmAt_5 : decode cX2_farmAt 5 = .ok (.aload_n 0, 1) := by decide +kernel
theorem dX2_farmAt_6 : decode cX2_farmAt 6 = .ok (.getfield 11, 3) := by decide +kernel
theorem dX2_farmAt_9 : decode cX2_farmAt 9 = .ok (.arraylength, 1) := by decide +kernel
theorem dX2_farmAt_10 : decode cX2_farmAt 10 = .ok (.if_icmp .ge 12, 3) := by decide +kernel
theorem dX2_farmAt_13 : decode cX2_farmAt 13 = .ok (.aload_n 0, 1) := by decide +kernel
theorem dX2_farmAt_14 : decode cX2_farmAt 14 = .ok (.getfield 11, 3) := by decide +kernel
theorem dX2_farmAt_17 : decode cX2_farmAt 17 = .ok (.iload_n 1, 1) := by decide +kernel
theorem dX2_farmAt_18 : decode cX2_farmAt 18 = .ok (.aaload, 1) := by decide +kernel
theorem dX2_farmAt_19 : decode cX2_farmAt 19 = .ok (.goto 4, 3) := by decide +kernel
theorem dX2_farmAt_22 : decode cX2_farmAt 22 = .ok (.aconst_null, 1) := by decide +kernel
theorem dX2_farmAt_23 : decode cX2_farmAt 23 = .ok (.areturn, 1) := by decide +kernel
theorem dX3_init_0 : decode cX3_init 0 = .ok (.aload_n 0, 1) := by decide +kernel
theorem dX3_init_1 : decode cX3_init 1 = .ok (.invokespecial 3, 3) := by decide +kernel
theorem dX3_init_4 : decode cX3_init 4 = .ok (.aload_n 0, 1) := by decide +kernel
theorem dX3_init_5 : decode cX3_init 5 = .ok (.bipush 60, 2) := by decide +kernel
theorem dX3_init_7 : decode cX3_init 7 = .ok (.newarray .char, 2) := by decide +kernel
theorem dX3_init_9 : decode cX3_init 9 = .ok (.putfield 9, 3) := by decide +kernel
theorem dX3_init_12 : decode cX3_init 12 = .ok (.return_, 1) := by decide +kernel
theorem dX3_clear_0 : decode cX3_clear 0 = .ok (.aload_n 0, 1) := by decide +kernel
theorem dX3_clear_1 : decode cX3_clear 1 = .ok (.iconst 0, 1) := by decide +kernel
theorem dX3_clear_2 : decode cX3_clear 2 = .ok (.putfield 15, 3) := by decide +kernel
theorem dX3_clear_5 : decode cX3_clear 5 = .ok (.return_, 1) := by decide +kernel
theorem dX3_add_0 : decode cX3_add 0 = .ok (.aload_n 0, 1) := by decide +kernel
theorem dX3_add_1 : decode cX3_add 1 = .ok (.getfield 15, 3) := by decide +kernel
theorem dX3_add_4 : decode cX3_add 4 = .ok (.ifCond .lt 35, 3) := by decide +kernel
theorem dX3_add_7 : decode cX3_add 7 = .ok (.aload_n 0, 1) := by decide +kernel
theorem dX3_add_8 : decode cX3_add 8 = .ok (.getfield 15, 3) := by decide +kernel
theorem dX3_add_11 : decode cX3_add 11 = .ok (.aload_n 0, 1) := by decide +kernel
theorem dX3_add_12 : decode cX3_add 12 = .ok (.getfield 9, 3) := by decide +kernel
theorem dX3_add_15 : decode cX3_add 15 = .ok (.arraylength, 1) := by decide +kernel
theorem dX3_add_16 : decode cX3_add 16 = .ok (.if_icmp .ge 23, 3) := by decide +kernel
theorem dX3_add_19 : decode cX3_add 19 = .ok (.aload_n 0, 1) := by decide +kernel
theorem dX3_add_20 : decode cX3_add 20 = .ok (.getfield 9, 3) := by decide +kernel
theorem dX3_add_23 : decode cX3_add 23 = .ok (.aload_n 0, 1) := by decide +kernel
theorem dX3_add_24 : decode cX3_add 24 = .ok (.getfield 15, 3) := by decide +kernel
theorem dX3_add_27 : decode cX3_add 27 = .ok (.iload_n 1, 1) := by decide +kernel
theorem dX3_add_28 : decode cX3_add 28 = .ok (.castore, 1) := by decide +kernel
theorem dX3_add_29 : decode cX3_add 29 = .ok (.aload_n 0, 1) := by decide +kernel
theorem dX3_add_30 : decode cX3_add 30 = .ok (.dup, 1) := by decide +kernel
theorem dX3_add_31 : decode cX3_add 31 = .ok (.getfield 15, 3) := by decide +kernel
theorem dX3_add_34 : decode cX3_add 34 = .ok (.iconst 1, 1) := by decide +kernel
theorem dX3_add_35 : decode cX3_add 35 = .ok (.iadd, 1) := by decide +kernel
theorem dX3_add_36 : decode cX3_add 36 = .ok (.putfield 15, 3) := by decide +kernel
theorem dX3_add_39 : decode cX3_add 39 = .ok (.return_, 1) := by decide +kernel
theorem dX3_addNumber_0 : decode cX3_addNumber 0 = .ok (.iload_n 1, 1) := by decide +kernel
theorem dX3_addNumber_1 : decode cX3_addNumber 1 = .ok (.bipush 10, 2) := by decide +kernel
theorem dX3_addNumber_3 : decode cX3_addNumber 3 = .ok (.if_icmp .lt 18, 3) := by decide +kernel
theorem dX3_addNumber_6 : decode cX3_addNumber 6 = .ok (.aload_n 0, 1) := by decide +kernel
theorem dX3_addNumber_7 : decode cX3_addNumber 7 = .ok (.bipush 48, 2) := by decide +kernel
theorem dX3_addNumber_9 : decode cX3_addNumber 9 = .ok (.iload_n 1, 1) := by decide +kernel
theorem dX3_addNumber_10 : decode cX3_addNumber 10 = .ok (.bipush 10, 2) := by decide +kernel
theorem dX3_addNumber_12 : decode cX3_addNumber 12 = .ok (.idiv, 1) := by decide +kernel
theorem dX3_addNumber_13 : decode cX3_addNumber 13 = .ok (.bipush 10, 2) := by decide +kernel
theorem dX3_addNumber_15 : decode cX3_addNumber 15 = .ok (.irem, 1) := by decide +kernel
theorem dX3_addNumber_16 : decode cX3_addNumber 16 = .ok (.iadd, 1) := by decide +kernel
theorem dX3_addNumber_17 : decode cX3_addNumber 17 = .ok (.i2c, 1) := by decide +kernel
theorem dX3_addNumber_18 : decode cX3_addNumber 18 = .ok (.invokevirtual 19, 3) := by decide +kernel
theorem dX3_addNumber_21 : decode cX3_addNumber 21 = .ok (.aload_n 0, 1) := by decide +kernel
theorem dX3_addNumber_22 : decode cX3_addNumber 22 = .ok (.bipush 48, 2) := by decide +kernel
theorem dX3_addNumber_24 : decode cX3_addNumber 24 = .ok (.iload_n 1, 1) := by decide +kernel
theorem dX3_addNumber_25 : decode cX3_addNumber 25 = .ok (.bipush 10, 2) := by decide +kernel
theorem dX3_addNumber_27 : decode cX3_addNumber 27 = .ok (.irem, 1) := by decide +kernel
theorem dX3_addNumber_28 : decode cX3_addNumber 28 = .ok (.iadd, 1) := by decide +kernel
theorem dX3_addNumber_29 : decode cX3_addNumber 29 = .ok (.i2c, 1) := by decide +kernel
theorem dX3_addNumber_30 : decode cX3_addNumber 30 = .ok (.invokevirtual 19, 3) := by decide +kernel
theorem dX3_addNumber_33 : decode cX3_addNumber 33 = .ok (.return_, 1) := by decide +kernel
theorem dX3_signAt_0 : decode cX3_signAt 0 = .ok (.iload_n 1, 1) := by decide +kernel
theorem dX3_signAt_1 : decode cX3_signAt 1 = .ok (.ifCond .lt 29, 3) := by decide +kernel
theorem dX3_signAt_4 : decode cX3_signAt 4 = .ok (.iload_n 1, 1) := by decide +kernel
theorem dX3_signAt_5 : decode cX3_signAt 5 = .ok (.aload_n 0, 1) := by decide +kernel
theorem dX3_signAt_6 : decode cX3_signAt 6 = .ok (.getfield 15, 3) := by decide +kernel
theorem dX3_signAt_9 : decode cX3_signAt 9 = .ok (.if_icmp .ge 21, 3) := by decide +kernel
theorem dX3_signAt_12 : decode cX3_signAt 12 = .ok (.iload_n 1, 1) := by decide +kernel
theorem dX3_signAt_13 : decode cX3_signAt 13 = .ok (.aload_n 0, 1) := by decide +kernel
theorem dX3_signAt_14 : decode cX3_signAt 14 = .ok (.getfield 9, 3) := by decide +kernel
theorem dX3_signAt_17 : decode cX3_signAt 17 = .ok (.arraylength, 1) := by decide +kernel
theorem dX3_signAt_18 : decode cX3_signAt 18 = .ok (.if_icmp .ge 12, 3) := by decide +kernel
theorem dX3_signAt_21 : decode cX3_signAt 21 = .ok (.aload_n 0, 1) := by decide +kernel
theorem dX3_signAt_22 : decode cX3_signAt 22 = .ok (.getfield 9, 3) := by decide +kernel
theorem dX3_signAt_25 : decode cX3_signAt 25 = .ok (.iload_n 1, 1) := by decide +kernel
theorem dX3_signAt_26 : decode cX3_signAt 26 = .ok (.caload, 1) := by decide +kernel
theorem dX3_signAt_27 : decode cX3_signAt 27 = .ok (.goto 4, 3) := by decide +kernel
theorem dX3_signAt_30 : decode cX3_signAt 30 = .ok (.iconst 0, 1) := by decide +kernel
theorem dX3_signAt_31 : decode cX3_signAt 31 = .ok (.ireturn, 1) := by decide +kernel
theorem dX4_init_0 : decode cX4_init 0 = .ok (.aload_n 0, 1) := by decide +kernel
theorem dX4_init_1 : decode cX4_init 1 = .ok (.invokespecial 1, 3) := by decide +kernel
theorem dX4_init_4 : decode cX4_init 4 = .ok (.aload_n 0, 1) := by decide +kernel
theorem dX4_init_5 : decode cX4_init 5 = .ok (.new 7, 3) := by decide +kernel
theorem dX4_init_8 : decode cX4_init 8 = .ok (.dup, 1) := by decide +kernel
theorem dX4_init_9 : decode cX4_init 9 = .ok (.invokespecial 9, 3) := by decide +kernel
theorem dX4_init_12 : decode cX4_init 12 = .ok (.putfield 10, 3) := by decide +kernel
theorem dX4_init_15 : decode cX4_init 15 = .ok (.aload_n 0, 1) := by decide +kernel
theorem dX4_init_16 : decode cX4_init 16 = .ok (.new 7, 3) := by decide +kernel
theorem dX4_init_19 : decode cX4_init 19 = .ok (.dup, 1) := by decide +kernel
theorem dX4_init_20 : decode cX4_init 20 = .ok (.invokespecial 9, 3) := by decide +kernel
theorem dX4_init_23 : decode cX4_init 23 = .ok (.putfield 16, 3) := by decide +kernel
theorem dX4_init_26 : decode cX4_init 26 = .ok (.aload_n 0, 1) := by decide +kernel
theorem dX4_init_27 : decode cX4_init 27 = .ok (.new 7, 3) := by decide +kernel
theorem dX4_init_30 : decode cX4_init 30 = .ok (.dup, 1) := by decide +kernel
theorem dX4_init_31 : decode cX4_init 31 = .ok (.invokespecial 9, 3) := by decide +kernel
theorem dX4_init_34 : decode cX4_init 34 = .ok (.putfield 19, 3) := by decide +kernel
theorem dX4_init_37 : decode cX4_init 37 = .ok (.aload_n 0, 1) := by decide +kernel
theorem dX4_init_38 : decode cX4_init 38 = .ok (.new 22, 3) := by decide +kernel
theorem dX4_init_41 : decode cX4_init 41 = .ok (.dup, 1) := by decide +kernel
theorem dX4_init_42 : decode cX4_init 42 = .ok (.invokespecial 24, 3) := by decide +kernel
theorem dX4_init_45 : decode cX4_init 45 = .ok (.putfield 25, 3) := by decide +kernel
theorem dX4_init_48 : decode cX4_init 48 = .ok (.aload_n 0, 1) := by decide +kernel
theorem dX4_init_49 : decode cX4_init 49 = .ok (.new 29, 3) := by decide +kernel
theorem dX4_init_52 : decode cX4_init 52 = .ok (.dup, 1) := by decide +kernel
theorem dX4_init_53 : decode cX4_init 53 = .ok (.invokespecial 31, 3) := by decide +kernel
theorem dX4_init_56 : decode cX4_init 56 = .ok (.putfield 32, 3) := by decide +kernel
theorem dX4_init_59 : decode cX4_init 59 = .ok (.aload_n 0, 1) := by decide +kernel
theorem dX4_init_60 : decode cX4_init 60 = .ok (.new 36, 3) := by decide +kernel
theorem dX4_init_63 : decode cX4_init 63 = .ok (.dup, 1) := by decide +kernel
theorem dX4_init_64 : decode cX4_init 64 = .ok (.invokespecial 38, 3) := by decide +kernel
theorem dX4_init_67 : decode cX4_init 67 = .ok (.putfield 39, 3) := by decide +kernel
theorem dX4_init_70 : decode cX4_init 70 = .ok (.aload_n 0, 1) := by decide +kernel
theorem dX4_init_71 : decode cX4_init 71 = .ok (.iconst (-1), 1) := by decide +kernel
theorem dX4_init_72 : decode cX4_init 72 = .ok (.putfield 43, 3) := by decide +kernel
theorem dX4_init_75 : decode cX4_init 75 = .ok (.return_, 1) := by decide +kernel
theorem dX4_addTurbine_0 : decode cX4_addTurbine 0 = .ok (.aload_n 0, 1) := by decide +kernel
theorem dX4_addTurbine_1 : decode cX4_addTurbine 1 = .ok (.bipush 97, 2) := by decide +kernel
theorem dX4_addTurbine_3 : decode cX4_addTurbine 3 = .ok (.iload_n 1, 1) := by decide +kernel
theorem dX4_addTurbine_4 : decode cX4_addTurbine 4 = .ok (.iload_n 2, 1) := by decide +kernel
theorem dX4_addTurbine_5 : decode cX4_addTurbine 5 = .ok (.iload_n 3, 1) := by decide +kernel
theorem dX4_addTurbine_6 : decode cX4_addTurbine 6 = .ok (.invokevirtual 47, 3) := by decide +kernel
theorem dX4_addTurbine_9 : decode cX4_addTurbine 9 = .ok (.aload_n 0, 1) := by decide +kernel
theorem dX4_addTurbine_10 : decode cX4_addTurbine 10 = .ok (.getfield 10, 3) := by decide +kernel
theorem dX4_addTurbine_13 : decode cX4_addTurbine 13 = .ok (.iload_n 1, 1) := by decide +kernel
theorem dX4_addTurbine_14 : decode cX4_addTurbine 14 = .ok (.iload_n 2, 1) := by decide +kernel
theorem dX4_addTurbine_15 : decode cX4_addTurbine 15 = .ok (.iload_n 3, 1) := by decide +kernel
theorem dX4_addTurbine_16 : decode cX4_addTurbine 16 = .ok (.invokevirtual 51, 3) := by decide +kernel
theorem dX4_addTurbine_19 : decode cX4_addTurbine 19 = .ok (.ireturn, 1) := by decide +kernel
theorem dX4_fail_0 : decode cX4_fail 0 = .ok (.aload_n 0, 1) := by decide +kernel
theorem dX4_fail_1 : decode cX4_fail 1 = .ok (.bipush 102, 2) := by decide +kernel
theorem dX4_fail_3 : decode cX4_fail 3 = .ok (.iload_n 1, 1) := by decide +kernel
theorem dX4_fail_4 : decode cX4_fail 4 = .ok (.iconst 0, 1) := by decide +kernel
theorem dX4_fail_5 : decode cX4_fail 5 = .ok (.iconst 0, 1) := by decide +kernel
theorem dX4_fail_6 : decode cX4_fail 6 = .ok (.invokevirtual 47, 3) := by decide +kernel
theorem dX4_fail_9 : decode cX4_fail 9 = .ok (.aload_n 0, 1) := by decide +kernel
theorem dX4_fail_10 : decode cX4_fail 10 = .ok (.getfield 10, 3) := by decide +kernel
theorem dX4_fail_13 : decode cX4_fail 13 = .ok (.iload_n 1, 1) := by decide +kernel
theorem dX4_fail_14 : decode cX4_fail 14 = .ok (.invokevirtual 55, 3) := by decide +kernel
theorem dX4_fail_17 : decode cX4_fail 17 = .ok (.ireturn, 1) := by decide +kernel
theorem dX4_sendCrew_0 : decode cX4_sendCrew 0 = .ok (.aload_n 0, 1) := by decide +kernel
theorem dX4_sendCrew_1 : decode cX4_sendCrew 1 = .ok (.bipush 115, 2) := by decide +kernel
theorem dX4_sendCrew_3 : decode cX4_sendCrew 3 = .ok (.iload_n 1, 1) := by decide +kernel
theorem dX4_sendCrew_4 : decode cX4_sendCrew 4 = .ok (.iload_n 2, 1) := by decide +kernel
theorem dX4_sendCrew_5 : decode cX4_sendCrew 5 = .ok (.iconst 0, 1) := by decide +kernel
theorem dX4_sendCrew_6 : decode cX4_sendCrew 6 = .ok (.invokevirtual 47, 3) := by decide +kernel
theorem dX4_sendCrew_9 : decode cX4_sendCrew 9 = .ok (.aload_n 0, 1) := by decide +kernel
theorem dX4_sendCrew_10 : decode cX4_sendCrew 10 = .ok (.getfield 10, 3) := by decide +kernel
theorem dX4_sendCrew_13 : decode cX4_sendCrew 13 = .ok (.iload_n 1, 1) := by decide +kernel
theorem dX4_sendCrew_14 : decode cX4_sendCrew 14 = .ok (.iload_n 2, 1) := by decide +kernel
theorem dX4_sendCrew_15 : decode cX4_sendCrew 15 = .ok (.invokevirtual 59, 3) := by decide +kernel
theorem dX4_sendCrew_18 : decode cX4_sendCrew 18 = .ok (.ireturn, 1) := by decide +kernel
theorem dX4_recallCrew_0 : decode cX4_recallCrew 0 = .ok (.aload_n 0, 1) := by decide +kernel
theorem dX4_recallCrew_1 : decode cX4_recallCrew 1 = .ok (.bipush 114, 2) := by decide +kernel
theorem dX4_recallCrew_3 : decode cX4_recallCrew 3 = .ok (.iload_n 1, 1) := by decide +kernel
theorem dX4_recallCrew_4 : decode cX4_recallCrew 4 = .ok (.iconst 0, 1) := by decide +kernel
theorem dX4_recallCrew_5 : decode cX4_recallCrew 5 = .ok (.iconst 0, 1) := by decide +kernel
theorem dX4_recallCrew_6 : decode cX4_recallCrew 6 = .ok (.invokevirtual 47, 3) := by decide +kernel
theorem dX4_recallCrew_9 : decode cX4_recallCrew 9 = .ok (.aload_n 0, 1) := by decide +kernel
theorem dX4_recallCrew_10 : decode cX4_recallCrew 10 = .ok (.getfield 10, 3) := by decide +kernel
theorem dX4_recallCrew_13 : decode cX4_recallCrew 13 = .ok (.iload_n 1, 1) := by decide +kernel
theorem dX4_recallCrew_14 : decode cX4_recallCrew 14 = .ok (.invokevirtual 63, 3) := by decide +kernel
theorem dX4_recallCrew_17 : decode cX4_recallCrew 17 = .ok (.ireturn, 1) := by decide +kernel
theorem dX4_curtail_0 : decode cX4_curtail 0 = .ok (.aload_n 0, 1) := by decide +kernel
theorem dX4_curtail_1 : decode cX4_curtail 1 = .ok (.bipush 99, 2) := by decide +kernel
theorem dX4_curtail_3 : decode cX4_curtail 3 = .ok (.iload_n 1, 1) := by decide +kernel
theorem dX4_curtail_4 : decode cX4_curtail 4 = .ok (.iload_n 2, 1) := by decide +kernel
theorem dX4_curtail_5 : decode cX4_curtail 5 = .ok (.iconst 0, 1) := by decide +kernel
theorem dX4_curtail_6 : decode cX4_curtail 6 = .ok (.invokevirtual 47, 3) := by decide +kernel
theorem dX4_curtail_9 : decode cX4_curtail 9 = .ok (.aload_n 0, 1) := by decide +kernel
theorem dX4_curtail_10 : decode cX4_curtail 10 = .ok (.getfield 10, 3) := by decide +kernel
theorem dX4_curtail_13 : decode cX4_curtail 13 = .ok (.iload_n 1, 1) := by decide +kernel
theorem dX4_curtail_14 : decode cX4_curtail 14 = .ok (.iload_n 2, 1) := by decide +kernel
theorem dX4_curtail_15 : decode cX4_curtail 15 = .ok (.invokevirtual 66, 3) := by decide +kernel
theorem dX4_curtail_18 : decode cX4_curtail 18 = .ok (.ireturn, 1) := by decide +kernel
theorem dX4_release_0 : decode cX4_release 0 = .ok (.aload_n 0, 1) := by decide +kernel
theorem dX4_release_1 : decode cX4_release 1 = .ok (.bipush 117, 2) := by decide +kernel
theorem dX4_release_3 : decode cX4_release 3 = .ok (.iload_n 1, 1) := by decide +kernel
theorem dX4_release_4 : decode cX4_release 4 = .ok (.iconst 0, 1) := by decide +kernel
theorem dX4_release_5 : decode cX4_release 5 = .ok (.iconst 0, 1) := by decide +kernel
theorem dX4_release_6 : decode cX4_release 6 = .ok (.invokevirtual 47, 3) := by decide +kernel
theorem dX4_release_9 : decode cX4_release 9 = .ok (.aload_n 0, 1) := by decide +kernel
theorem dX4_release_10 : decode cX4_release 10 = .ok (.getfield 10, 3) := by decide +kernel
theorem dX4_release_13 : decode cX4_release 13 = .ok (.iload_n 1, 1) := by decide +kernel
theorem dX4_release_14 : decode cX4_release 14 = .ok (.invokevirtual 69, 3) := by decide +kernel
theorem dX4_release_17 : decode cX4_release 17 = .ok (.ireturn, 1) := by decide +kernel
theorem dX4_turbineCount_0 : decode cX4_turbineCount 0 = .ok (.aload_n 0, 1) := by decide +kernel
theorem dX4_turbineCount_1 : decode cX4_turbineCount 1 = .ok (.getfield 10, 3) := by decide +kernel
theorem dX4_turbineCount_4 : decode cX4_turbineCount 4 = .ok (.getfield 72, 3) := by decide +kernel
theorem dX4_turbineCount_7 : decode cX4_turbineCount 7 = .ok (.ireturn, 1) := by decide +kernel
theorem dX4_turbineAt_0 : decode cX4_turbineAt 0 = .ok (.iload_n 1, 1) := by decide +kernel
theorem dX4_turbineAt_1 : decode cX4_turbineAt 1 = .ok (.iload_n 2, 1) := by decide +kernel
theorem dX4_turbineAt_2 : decode cX4_turbineAt 2 = .ok (.invokestatic 75, 3) := by decide +kernel
theorem dX4_turbineAt_5 : decode cX4_turbineAt 5 = .ok (.ifCond .ne 13, 3) := by decide +kernel
theorem dX4_turbineAt_8 : decode cX4_turbineAt 8 = .ok (.new 79, 3) := by decide +kernel
theorem dX4_turbineAt_11 : decode cX4_turbineAt 11 = .ok (.dup, 1) := by decide +kernel
theorem dX4_turbineAt_12 : decode cX4_turbineAt 12 = .ok (.ldc 81, 2) := by decide +kernel
theorem dX4_turbineAt_14 : decode cX4_turbineAt 14 = .ok (.invokespecial 83, 3) := by decide +kernel
theorem dX4_turbineAt_17 : decode cX4_turbineAt 17 = .ok (.athrow, 1) := by decide +kernel
theorem dX4_turbineAt_18 : decode cX4_turbineAt 18 = .ok (.aload_n 0, 1) := by decide +kernel
theorem dX4_turbineAt_19 : decode cX4_turbineAt 19 = .ok (.getfield 10, 3) := by decide +kernel
theorem dX4_turbineAt_22 : decode cX4_turbineAt 22 = .ok (.iload_n 1, 1) := by decide +kernel
theorem dX4_turbineAt_23 : decode cX4_turbineAt 23 = .ok (.iload_n 2, 1) := by decide +kernel
theorem dX4_turbineAt_24 : decode cX4_turbineAt 24 = .ok (.invokevirtual 86, 3) := by decide +kernel
theorem dX4_turbineAt_27 : decode cX4_turbineAt 27 = .ok (.istore_n 3, 1) := by decide +kernel
theorem dX4_turbineAt_28 : decode cX4_turbineAt 28 = .ok (.iload_n 3, 1) := by decide +kernel
theorem dX4_turbineAt_29 : decode cX4_turbineAt 29 = .ok (.ifCond .ge 13, 3) := by decide +kernel
theorem dX4_turbineAt_32 : decode cX4_turbineAt 32 = .ok (.new 89, 3) := by decide +kernel
theorem dX4_turbineAt_35 : decode cX4_turbineAt 35 = .ok (.dup, 1) := by decide +kernel
theorem dX4_turbineAt_36 : decode cX4_turbineAt 36 = .ok (.ldc 91, 2) := by decide +kernel
theorem dX4_turbineAt_38 : decode cX4_turbineAt 38 = .ok (.invokespecial 93, 3) := by decide +kernel
theorem dX4_turbineAt_41 : decode cX4_turbineAt 41 = .ok (.athrow, 1) := by decide +kernel
theorem dX4_turbineAt_42 : decode cX4_turbineAt 42 = .ok (.iload_n 3, 1) := by decide +kernel
theorem dX4_turbineAt_43 : decode cX4_turbineAt 43 = .ok (.ireturn, 1) := by decide +kernel
theorem dX4_rowOf_0 : decode cX4_rowOf 0 = .ok (.aload_n 0, 1) := by decide +kernel
theorem dX4_rowOf_1 : decode cX4_rowOf 1 = .ok (.iload_n 1, 1) := by decide +kernel
theorem dX4_rowOf_2 : decode cX4_rowOf 2 = .ok (.invokevirtual 94, 3) := by decide +kernel
theorem dX4_rowOf_5 : decode cX4_rowOf 5 = .ok (.aload_n 0, 1) := by decide +kernel
theorem dX4_rowOf_6 : decode cX4_rowOf 6 = .ok (.getfield 10, 3) := by decide +kernel
theorem dX4_rowOf_9 : decode cX4_rowOf 9 = .ok (.getfield 98, 3) := by decide +kernel
theorem dX4_rowOf_12 : decode cX4_rowOf 12 = .ok (.iload_n 1, 1) := by decide +kernel
theorem dX4_rowOf_13 : decode cX4_rowOf 13 = .ok (.invokestatic 102, 3) := by decide +kernel
theorem dX4_rowOf_16 : decode cX4_rowOf 16 = .ok (.ireturn, 1) := by decide +kernel
theorem dX4_columnOf_0 : decode cX4_columnOf 0 = .ok (.aload_n 0, 1) := by decide +kernel
theorem dX4_columnOf_1 : decode cX4_columnOf 1 = .ok (.iload_n 1, 1) := by decide +kernel
theorem dX4_columnOf_2 : decode cX4_columnOf 2 = .ok (.invokevirtual 94, 3) := by decide +kernel
theorem dX4_columnOf_5 : decode cX4_columnOf 5 = .ok (.aload_n 0, 1) := by decide +kernel
theorem dX4_columnOf_6 : decode cX4_columnOf 6 = .ok (.getfield 10, 3) := by decide +kernel
theorem dX4_columnOf_9 : decode cX4_columnOf 9 = .ok (.getfield 106, 3) := by decide +kernel
theorem dX4_columnOf_12 : decode cX4_columnOf 12 = .ok (.iload_n 1, 1) := by decide +kernel
theorem dX4_columnOf_13 : decode cX4_columnOf 13 = .ok (.invokestatic 102, 3) := by decide +kernel
theorem dX4_columnOf_16 : decode cX4_columnOf 16 = .ok (.ireturn, 1) := by decide +kernel
theorem dX4_ratedPower_0 : decode cX4_ratedPower 0 = .ok (.aload_n 0, 1) := by decide +kernel
theorem dX4_ratedPower_1 : decode cX4_ratedPower 1 = .ok (.iload_n 1, 1) := by decide +kernel
theorem dX4_ratedPower_2 : decode cX4_ratedPower 2 = .ok (.invokevirtual 94, 3) := by decide +kernel
theorem dX4_ratedPower_5 : decode cX4_ratedPower 5 = .ok (.aload_n 0, 1) := by decide +kernel
theorem dX4_ratedPower_6 : decode cX4_ratedPower 6 = .ok (.getfield 10, 3) := by decide +kernel
theorem dX4_ratedPower_9 : decode cX4_ratedPower 9 = .ok (.getfield 109, 3) := by decide +kernel
theorem dX4_ratedPower_12 : decode cX4_ratedPower 12 = .ok (.iload_n 1, 1) := by decide +kernel
theorem dX4_ratedPower_13 : decode cX4_ratedPower 13 = .ok (.invokestatic 102, 3) := by decide +kernel
theorem dX4_ratedPower_16 : decode cX4_ratedPower 16 = .ok (.ireturn, 1) := by decide +kernel
theorem dX4_isRunning_0 : decode cX4_isRunning 0 = .ok (.aload_n 0, 1) := by decide +kernel
theorem dX4_isRunning_1 : decode cX4_isRunning 1 = .ok (.iload_n 1, 1) := by decide +kernel
theorem dX4_isRunning_2 : decode cX4_isRunning 2 = .ok (.invokevirtual 94, 3) := by decide +kernel
theorem dX4_isRunning_5 : decode cX4_isRunning 5 = .ok (.aload_n 0, 1) := by decide +kernel
theorem dX4_isRunning_6 : decode cX4_isRunning 6 = .ok (.getfield 10, 3) := by decide +kernel
theorem dX4_isRunning_9 : decode cX4_isRunning 9 = .ok (.iload_n 1, 1) := by decide +kernel
theorem dX4_isRunning_10 : decode cX4_isRunning 10 = .ok (.iconst 1, 1) := by decide +kernel
theorem dX4_isRunning_11 : decode cX4_isRunning 11 = .ok (.invokevirtual 112, 3) := by decide +kernel
theorem dX4_isRunning_14 : decode cX4_isRunning 14 = .ok (.ireturn, 1) := by decide +kernel
theorem dX4_isFailed_0 : decode cX4_isFailed 0 = .ok (.aload_n 0, 1) := by decide +kernel
theorem dX4_isFailed_1 : decode cX4_isFailed 1 = .ok (.iload_n 1, 1) := by decide +kernel
theorem dX4_isFailed_2 : decode cX4_isFailed 2 = .ok (.invokevirtual 94, 3) := by decide +kernel
theorem dX4_isFailed_5 : decode cX4_isFailed 5 = .ok (.aload_n 0, 1) := by decide +kernel
theorem dX4_isFailed_6 : decode cX4_isFailed 6 = .ok (.getfield 10, 3) := by decide +kernel
theorem dX4_isFailed_9 : decode cX4_isFailed 9 = .ok (.iload_n 1, 1) := by decide +kernel
theorem dX4_isFailed_10 : decode cX4_isFailed 10 = .ok (.iconst 2, 1) := by decide +kernel
theorem dX4_isFailed_11 : decode cX4_isFailed 11 = .ok (.invokevirtual 112, 3) := by decide +kernel
theorem dX4_isFailed_14 : decode cX4_isFailed 14 = .ok (.ireturn, 1) := by decide +kernel
theorem dX4_isInService_0 : decode cX4_isInService 0 = .ok (.aload_n 0, 1) := by decide +kernel
theorem dX4_isInService_1 : decode cX4_isInService 1 = .ok (.iload_n 1, 1) := by decide +kernel
theorem dX4_isInService_2 : decode cX4_isInService 2 = .ok (.invokevirtual 94, 3) := by decide +kernel
theorem dX4_isInService_5 : decode cX4_isInService 5 = .ok (.aload_n 0, 1) := by decide +kernel
theorem dX4_isInService_6 : decode cX4_isInService 6 = .ok (.getfield 10, 3) := by decide +kernel
theorem dX4_isInService_9 : decode cX4_isInService 9 = .ok (.iload_n 1, 1) := by decide +kernel
theorem dX4_isInService_10 : decode cX4_isInService 10 = .ok (.iconst 3, 1) := by decide +kernel
theorem dX4_isInService_11 : decode cX4_isInService 11 = .ok (.invokevirtual 112, 3) := by decide +kernel
theorem dX4_isInService_14 : decode cX4_isInService 14 = .ok (.ireturn, 1) := by decide +kernel
theorem dX4_limitOf_0 : decode cX4_limitOf 0 = .ok (.aload_n 0, 1) := by decide +kernel
theorem dX4_limitOf_1 : decode cX4_limitOf 1 = .ok (.iload_n 1, 1) := by decide +kernel
theorem dX4_limitOf_2 : decode cX4_limitOf 2 = .ok (.invokevirtual 94, 3) := by decide +kernel
theorem dX4_limitOf_5 : decode cX4_limitOf 5 = .ok (.aload_n 0, 1) := by decide +kernel
theorem dX4_limitOf_6 : decode cX4_limitOf 6 = .ok (.getfield 10, 3) := by decide +kernel
theorem dX4_limitOf_9 : decode cX4_limitOf 9 = .ok (.iload_n 1, 1) := by decide +kernel
theorem dX4_limitOf_10 : decode cX4_limitOf 10 = .ok (.invokevirtual 115, 3) := by decide +kernel
theorem dX4_limitOf_13 : decode cX4_limitOf 13 = .ok (.ifCond .ne 13, 3) := by decide +kernel
theorem dX4_limitOf_16 : decode cX4_limitOf 16 = .ok (.new 89, 3) := by decide +kernel
theorem dX4_limitOf_19 : decode cX4_limitOf 19 = .ok (.dup, 1) := by decide +kernel
theorem dX4_limitOf_20 : decode cX4_limitOf 20 = .ok (.ldc 119, 2) := by decide +kernel
theorem dX4_limitOf_22 : decode cX4_limitOf 22 = .ok (.invokespecial 93, 3) := by decide +kernel
theorem dX4_limitOf_25 : decode cX4_limitOf 25 = .ok (.athrow, 1) := by decide +kernel
theorem dX4_limitOf_26 : decode cX4_limitOf 26 = .ok (.aload_n 0, 1) := by decide +kernel
theorem dX4_limitOf_27 : decode cX4_limitOf 27 = .ok (.getfield 10, 3) := by decide +kernel
theorem dX4_limitOf_30 : decode cX4_limitOf 30 = .ok (.getfield 121, 3) := by decide +kernel
theorem dX4_limitOf_33 : decode cX4_limitOf 33 = .ok (.iload_n 1, 1) := by decide +kernel
theorem dX4_limitOf_34 : decode cX4_limitOf 34 = .ok (.invokestatic 102, 3) := by decide +kernel
theorem dX4_limitOf_37 : decode cX4_limitOf 37 = .ok (.ireturn, 1) := by decide +kernel
theorem dX4_serviceHoursLeft_0 : decode cX4_serviceHoursLeft 0 = .ok (.aload_n 0, 1) := by decide +kernel
theorem dX4_serviceHoursLeft_1 : decode cX4_serviceHoursLeft 1 = .ok (.iload_n 1, 1) := by decide +kernel
theorem dX4_serviceHoursLeft_2 : decode cX4_serviceHoursLeft 2 = .ok (.invokevirtual 94, 3) := by decide +kernel
theorem dX4_serviceHoursLeft_5 : decode cX4_serviceHoursLeft 5 = .ok (.aload_n 0, 1) := by decide +kernel
theorem dX4_serviceHoursLeft_6 : decode cX4_serviceHoursLeft 6 = .ok (.getfield 10, 3) := by decide +kernel
theorem dX4_serviceHoursLeft_9 : decode cX4_serviceHoursLeft 9 = .ok (.iload_n 1, 1) := by decide +kernel
theorem dX4_serviceHoursLeft_10 : decode cX4_serviceHoursLeft 10 = .ok (.iconst 3, 1) := by decide +kernel
theorem dX4_serviceHoursLeft_11 : decode cX4_serviceHoursLeft 11 = .ok (.invokevirtual 112, 3) := by decide +kernel
theorem dX4_serviceHoursLeft_14 : decode cX4_serviceHoursLeft 14 = .ok (.ifCond .ne 13, 3) := by decide +kernel
theorem dX4_serviceHoursLeft_17 : decode cX4_serviceHoursLeft 17 = .ok (.new 89, 3) := by decide +kernel
theorem dX4_serviceHoursLeft_20 : decode cX4_serviceHoursLeft 20 = .ok (.dup, 1) := by decide +kernel
theorem dX4_serviceHoursLeft_21 : decode cX4_serviceHoursLeft 21 = .ok (.ldc 124, 2) := by decide +kernel
theorem dX4_serviceHoursLeft_23 : decode cX4_serviceHoursLeft 23 = .ok (.invokespecial 93, 3) := by decide +kernel
theorem dX4_serviceHoursLeft_26 : decode cX4_serviceHoursLeft 26 = .ok (.athrow, 1) := by decide +kernel
theorem dX4_serviceHoursLeft_27 : decode cX4_serviceHoursLeft 27 = .ok (.aload_n 0, 1) := by decide +kernel
theorem dX4_serviceHoursLeft_28 : decode cX4_serviceHoursLeft 28 = .ok (.getfield 10, 3) := by decide +kernel
theorem dX4_serviceHoursLeft_31 : decode cX4_serviceHoursLeft 31 = .ok (.getfield 126, 3) := by decide +kernel
theorem dX4_serviceHoursLeft_34 : decode cX4_serviceHoursLeft 34 = .ok (.iload_n 1, 1) := by decide +kernel
theorem dX4_serviceHoursLeft_35 : decode cX4_serviceHoursLeft 35 = .ok (.invokestatic 102, 3) := by decide +kernel
theorem dX4_serviceHoursLeft_38 : decode cX4_serviceHoursLeft 38 = .ok (.ireturn, 1) := by decide +kernel
theorem dX4_freeCrews_0 : decode cX4_freeCrews 0 = .ok (.aload_n 0, 1) := by decide +kernel
theorem dX4_freeCrews_1 : decode cX4_freeCrews 1 = .ok (.getfield 10, 3) := by decide +kernel
theorem dX4_freeCrews_4 : decode cX4_freeCrews 4 = .ok (.invokevirtual 129, 3) := by decide +kernel
theorem dX4_freeCrews_7 : decode cX4_freeCrews 7 = .ok (.ireturn, 1) := by decide +kernel
theorem dX4_setWind_0 : decode cX4_setWind 0 = .ok (.aload_n 0, 1) := by decide +kernel
theorem dX4_setWind_1 : decode cX4_setWind 1 = .ok (.bipush 119, 2) := by decide +kernel
theorem dX4_setWind_3 : decode cX4_setWind 3 = .ok (.iload_n 1, 1) := by decide +kernel
theorem dX4_setWind_4 : decode cX4_setWind 4 = .ok (.iload_n 2, 1) := by decide +kernel
theorem dX4_setWind_5 : decode cX4_setWind 5 = .ok (.iconst 0, 1) := by decide +kernel
theorem dX4_setWind_6 : decode cX4_setWind 6 = .ok (.invokevirtual 47, 3) := by decide +kernel
theorem dX4_setWind_9 : decode cX4_setWind 9 = .ok (.aload_n 0, 1) := by decide +kernel
theorem dX4_setWind_10 : decode cX4_setWind 10 = .ok (.getfield 10, 3) := by decide +kernel
theorem dX4_setWind_13 : decode cX4_setWind 13 = .ok (.iload_n 1, 1) := by decide +kernel
theorem dX4_setWind_14 : decode cX4_setWind 14 = .ok (.iload_n 2, 1) := by decide +kernel
theorem dX4_setWind_15 : decode cX4_setWind 15 = .ok (.invokevirtual 133, 3) := by decide +kernel
theorem dX4_setWind_18 : decode cX4_setWind 18 = .ok (.ireturn, 1) := by decide +kernel
theorem dX4_windDirection_0 : decode cX4_windDirection 0 = .ok (.aload_n 0, 1) := by decide +kernel
theorem dX4_windDirection_1 : decode cX4_windDirection 1 = .ok (.getfield 10, 3) := by decide +kernel
theorem dX4_windDirection_4 : decode cX4_windDirection 4 = .ok (.getfield 137, 3) := by decide +kernel
theorem dX4_windDirection_7 : decode cX4_windDirection 7 = .ok (.ireturn, 1) := by decide +kernel
theorem dX4_windSpeed_0 : decode cX4_windSpeed 0 = .ok (.aload_n 0, 1) := by decide +kernel
theorem dX4_windSpeed_1 : decode cX4_windSpeed 1 = .ok (.getfield 10, 3) := by decide +kernel
theorem dX4_windSpeed_4 : decode cX4_windSpeed 4 = .ok (.getfield 141, 3) := by decide +kernel
theorem dX4_windSpeed_7 : decode cX4_windSpeed 7 = .ok (.ireturn, 1) := by decide +kernel
theorem dX4_powerFactor_0 : decode cX4_powerFactor 0 = .ok (.aload_n 0, 1) := by decide +kernel
theorem dX4_powerFactor_1 : decode cX4_powerFactor 1 = .ok (.getfield 10, 3) := by decide +kernel
theorem dX4_powerFactor_4 : decode cX4_powerFactor 4 = .ok (.getfield 141, 3) := by decide +kernel
theorem dX4_powerFactor_7 : decode cX4_powerFactor 7 = .ok (.invokestatic 144, 3) := by decide +kernel
theorem dX4_powerFactor_10 : decode cX4_powerFactor 10 = .ok (.ireturn, 1) := by decide +kernel
theorem dX4_wakeLoss_0 : decode cX4_wakeLoss 0 = .ok (.aload_n 0, 1) := by decide +kernel
theorem dX4_wakeLoss_1 : decode cX4_wakeLoss 1 = .ok (.iload_n 1, 1) := by decide +kernel
theorem dX4_wakeLoss_2 : decode cX4_wakeLoss 2 = .ok (.invokevirtual 94, 3) := by decide +kernel
theorem dX4_wakeLoss_5 : decode cX4_wakeLoss 5 = .ok (.aload_n 0, 1) := by decide +kernel
theorem dX4_wakeLoss_6 : decode cX4_wakeLoss 6 = .ok (.getfield 10, 3) := by decide +kernel
theorem dX4_wakeLoss_9 : decode cX4_wakeLoss 9 = .ok (.iload_n 1, 1) := by decide +kernel
theorem dX4_wakeLoss_10 : decode cX4_wakeLoss 10 = .ok (.aload_n 0, 1) := by decide +kernel
theorem dX4_wakeLoss_11 : decode cX4_wakeLoss 11 = .ok (.getfield 10, 3) := by decide +kernel
theorem dX4_wakeLoss_14 : decode cX4_wakeLoss 14 = .ok (.getfield 137, 3) := by decide +kernel
theorem dX4_wakeLoss_17 : decode cX4_wakeLoss 17 = .ok (.invokevirtual 147, 3) := by decide +kernel
theorem dX4_wakeLoss_20 : decode cX4_wakeLoss 20 = .ok (.ireturn, 1) := by decide +kernel
theorem dX4_availablePower_0 : decode cX4_availablePower 0 = .ok (.aload_n 0, 1) := by decide +kernel
theorem dX4_availablePower_1 : decode cX4_availablePower 1 = .ok (.iload_n 1, 1) := by decide +kernel
theorem dX4_availablePower_2 : decode cX4_availablePower 2 = .ok (.invokevirtual 94, 3) := by decide +kernel
theorem dX4_availablePower_5 : decode cX4_availablePower 5 = .ok (.aload_n 0, 1) := by decide +kernel
theorem dX4_availablePower_6 : decode cX4_availablePower 6 = .ok (.getfield 10, 3) := by decide +kernel
theorem dX4_availablePower_9 : decode cX4_availablePower 9 = .ok (.iload_n 1, 1) := by decide +kernel
theorem dX4_availablePower_10 : decode cX4_availablePower 10 = .ok (.aload_n 0, 1) := by decide +kernel
theorem dX4_availablePower_11 : decode cX4_availablePower 11 = .ok (.getfield 10, 3) := by decide +kernel
theorem dX4_availablePower_14 : decode cX4_availablePower 14 = .ok (.getfield 141, 3) := by decide +kernel
theorem dX4_availablePower_17 : decode cX4_availablePower 17 = .ok (.aload_n 0, 1) := by decide +kernel
theorem dX4_availablePower_18 : decode cX4_availablePower 18 = .ok (.getfield 10, 3) := by decide +kernel
theorem dX4_availablePower_21 : decode cX4_availablePower 21 = .ok (.iload_n 1, 1) := by decide +kernel
theorem dX4_availablePower_22 : decode cX4_availablePower 22 = .ok (.aload_n 0, 1) := by decide +kernel
theorem dX4_availablePower_23 : decode cX4_availablePower 23 = .ok (.getfield 10, 3) := by decide +kernel
theorem dX4_availablePower_26 : decode cX4_availablePower 26 = .ok (.getfield 137, 3) := by decide +kernel
theorem dX4_availablePower_29 : decode cX4_availablePower 29 = .ok (.invokevirtual 147, 3) := by decide +kernel
theorem dX4_availablePower_32 : decode cX4_availablePower 32 = .ok (.invokevirtual 151, 3) := by decide +kernel
theorem dX4_availablePower_35 : decode cX4_availablePower 35 = .ok (.ireturn, 1) := by decide +kernel
theorem dX4_outputOf_0 : decode cX4_outputOf 0 = .ok (.aload_n 0, 1) := by decide +kernel
theorem dX4_outputOf_1 : decode cX4_outputOf 1 = .ok (.iload_n 1, 1) := by decide +kernel
theorem dX4_outputOf_2 : decode cX4_outputOf 2 = .ok (.invokevirtual 94, 3) := by decide +kernel
theorem dX4_outputOf_5 : decode cX4_outputOf 5 = .ok (.aload_n 0, 1) := by decide +kernel
theorem dX4_outputOf_6 : decode cX4_outputOf 6 = .ok (.getfield 10, 3) := by decide +kernel
theorem dX4_outputOf_9 : decode cX4_outputOf 9 = .ok (.iload_n 1, 1) := by decide +kernel
theorem dX4_outputOf_10 : decode cX4_outputOf 10 = .ok (.aload_n 0, 1) := by decide +kernel
theorem dX4_outputOf_11 : decode cX4_outputOf 11 = .ok (.getfield 10, 3) := by decide +kernel
theorem dX4_outputOf_14 : decode cX4_outputOf 14 = .ok (.getfield 137, 3) := by decide +kernel
theorem dX4_outputOf_17 : decode cX4_outputOf 17 = .ok (.aload_n 0, 1) := by decide +kernel
theorem dX4_outputOf_18 : decode cX4_outputOf 18 = .ok (.getfield 10, 3) := by decide +kernel
theorem dX4_outputOf_21 : decode cX4_outputOf 21 = .ok (.getfield 141, 3) := by decide +kernel
theorem dX4_outputOf_24 : decode cX4_outputOf 24 = .ok (.invokevirtual 154, 3) := by decide +kernel
theorem dX4_outputOf_27 : decode cX4_outputOf 27 = .ok (.ireturn, 1) := by decide +kernel
theorem dX4_totalOutput_0 : decode cX4_totalOutput 0 = .ok (.aload_n 0, 1) := by decide +kernel
theorem dX4_totalOutput_1 : decode cX4_totalOutput 1 = .ok (.getfield 10, 3) := by decide +kernel
theorem dX4_totalOutput_4 : decode cX4_totalOutput 4 = .ok (.aload_n 0, 1) := by decide +kernel
theorem dX4_totalOutput_5 : decode cX4_totalOutput 5 = .ok (.getfield 10, 3) := by decide +kernel
theorem dX4_totalOutput_8 : decode cX4_totalOutput 8 = .ok (.getfield 137, 3) := by decide +kernel
theorem dX4_totalOutput_11 : decode cX4_totalOutput 11 = .ok (.aload_n 0, 1) := by decide +kernel
theorem dX4_totalOutput_12 : decode cX4_totalOutput 12 = .ok (.getfield 10, 3) := by decide +kernel
theorem dX4_totalOutput_15 : decode cX4_totalOutput 15 = .ok (.getfield 141, 3) := by decide +kernel
theorem dX4_totalOutput_18 : decode cX4_totalOutput 18 = .ok (.invokevirtual 158, 3) := by decide +kernel
theorem dX4_totalOutput_21 : decode cX4_totalOutput 21 = .ok (.ireturn, 1) := by decide +kernel
theorem dX4_totalOutputByLines_0 : decode cX4_totalOutputByLines 0 = .ok (.aload_n 0, 1) := by decide +kernel
theorem dX4_totalOutputByLines_1 : decode cX4_totalOutputByLines 1 = .ok (.getfield 10, 3) := by decide +kernel
theorem dX4_totalOutputByLines_4 : decode cX4_totalOutputByLines 4 = .ok (.invokevirtual 161, 3) := by decide +kernel
theorem dX4_totalOutputByLines_7 : decode cX4_totalOutputByLines 7 = .ok (.ireturn, 1) := by decide +kernel
theorem dX4_outputWith_0 : decode cX4_outputWith 0 = .ok (.iload_n 1, 1) := by decide +kernel
theorem dX4_outputWith_1 : decode cX4_outputWith 1 = .ok (.iload_n 2, 1) := by decide +kernel
theorem dX4_outputWith_2 : decode cX4_outputWith 2 = .ok (.invokestatic 164, 3) := by decide +kernel
theorem dX4_outputWith_5 : decode cX4_outputWith 5 = .ok (.ifCond .ne 13, 3) := by decide +kernel
theorem dX4_outputWith_8 : decode cX4_outputWith 8 = .ok (.new 167, 3) := by decide +kernel
theorem dX4_outputWith_11 : decode cX4_outputWith 11 = .ok (.dup, 1) := by decide +kernel
theorem dX4_outputWith_12 : decode cX4_outputWith 12 = .ok (.ldc 169, 2) := by decide +kernel
theorem dX4_outputWith_14 : decode cX4_outputWith 14 = .ok (.invokespecial 171, 3) := by decide +kernel
theorem dX4_outputWith_17 : decode cX4_outputWith 17 = .ok (.athrow, 1) := by decide +kernel
theorem dX4_outputWith_18 : decode cX4_outputWith 18 = .ok (.aload_n 0, 1) := by decide +kernel
theorem dX4_outputWith_19 : decode cX4_outputWith 19 = .ok (.getfield 10, 3) := by decide +kernel
theorem dX4_outputWith_22 : decode cX4_outputWith 22 = .ok (.iload_n 1, 1) := by decide +kernel
theorem dX4_outputWith_23 : decode cX4_outputWith 23 = .ok (.iload_n 2, 1) := by decide +kernel
theorem dX4_outputWith_24 : decode cX4_outputWith 24 = .ok (.invokevirtual 158, 3) := by decide +kernel
theorem dX4_outputWith_27 : decode cX4_outputWith 27 = .ok (.ireturn, 1) := by decide +kernel
theorem dX4_bestDirection_0 : decode cX4_bestDirection 0 = .ok (.bipush 78, 2) := by decide +kernel
theorem dX4_bestDirection_2 : decode cX4_bestDirection 2 = .ok (.istore_n 1, 1) := by decide +kernel
theorem dX4_bestDirection_3 : decode cX4_bestDirection 3 = .ok (.iconst (-1), 1) := by decide +kernel
theorem dX4_bestDirection_4 : decode cX4_bestDirection 4 = .ok (.istore_n 2, 1) := by decide +kernel
theorem dX4_bestDirection_5 : decode cX4_bestDirection 5 = .ok (.iconst 0, 1) := by decide +kernel
theorem dX4_bestDirection_6 : decode cX4_bestDirection 6 = .ok (.istore_n 3, 1) := by decide +kernel
theorem dX4_bestDirection_7 : decode cX4_bestDirection 7 = .ok (.iload_n 3, 1) := by decide +kernel
theorem dX4_bestDirection_8 : decode cX4_bestDirection 8 = .ok (.ldc 172, 2) := by decide +kernel
theorem dX4_bestDirection_10 : decode cX4_bestDirection 10 = .ok (.invokevirtual 174, 3) := by decide +kernel
theorem dX4_bestDirection_13 : decode cX4_bestDirection 13 = .ok (.if_icmp .ge 47, 3) := by decide +kernel
theorem dX4_bestDirection_16 : decode cX4_bestDirection 16 = .ok (.ldc 172, 2) := by decide +kernel
theorem dX4_bestDirection_18 : decode cX4_bestDirection 18 = .ok (.iload_n 3, 1) := by decide +kernel
theorem dX4_bestDirection_19 : decode cX4_bestDirection 19 = .ok (.invokevirtual 179, 3) := by decide +kernel
theorem dX4_bestDirection_22 : decode cX4_bestDirection 22 = .ok (.istore 4, 2) := by decide +kernel
theorem dX4_bestDirection_24 : decode cX4_bestDirection 24 = .ok (.aload_n 0, 1) := by decide +kernel
theorem dX4_bestDirection_25 : decode cX4_bestDirection 25 = .ok (.getfield 10, 3) := by decide +kernel
theorem dX4_bestDirection_28 : decode cX4_bestDirection 28 = .ok (.iload 4, 2) := by decide +kernel
theorem dX4_bestDirection_30 : decode cX4_bestDirection 30 = .ok (.aload_n 0, 1) := by decide +kernel
theorem dX4_bestDirection_31 : decode cX4_bestDirection 31 = .ok (.getfield 10, 3) := by decide +kernel
theorem dX4_bestDirection_34 : decode cX4_bestDirection 34 = .ok (.getfield 141, 3) := by decide +kernel
theorem dX4_bestDirection_37 : decode cX4_bestDirection 37 = .ok (.invokevirtual 158, 3) := by decide +kernel
theorem dX4_bestDirection_40 : decode cX4_bestDirection 40 = .ok (.istore 5, 2) := by decide +kernel
theorem dX4_bestDirection_42 : decode cX4_bestDirection 42 = .ok (.iload 5, 2) := by decide +kernel
theorem dX4_bestDirection_44 : decode cX4_bestDirection 44 = .ok (.iload_n 2, 1) := by decide +kernel
theorem dX4_bestDirection_45 : decode cX4_bestDirection 45 = .ok (.if_icmp .le 9, 3) := by decide +kernel
theorem dX4_bestDirection_48 : decode cX4_bestDirection 48 = .ok (.iload 5, 2) := by decide +kernel
theorem dX4_bestDirection_50 : decode cX4_bestDirection 50 = .ok (.istore_n 2, 1) := by decide +kernel
theorem dX4_bestDirection_51 : decode cX4_bestDirection 51 = .ok (.iload 4, 2) := by decide +kernel
theorem dX4_bestDirection_53 : decode cX4_bestDirection 53 = .ok (.istore_n 1, 1) := by decide +kernel
theorem dX4_bestDirection_54 : decode cX4_bestDirection 54 = .ok (.iinc 3 1, 3) := by decide +kernel
theorem dX4_bestDirection_57 : decode cX4_bestDirection 57 = .ok (.goto (-50), 3) := by decide +kernel
theorem dX4_bestDirection_60 : decode cX4_bestDirection 60 = .ok (.iload_n 1, 1) := by decide +kernel
theorem dX4_bestDirection_61 : decode cX4_bestDirection 61 = .ok (.ireturn, 1) := by decide +kernel
theorem dX4_setGridLimit_0 : decode cX4_setGridLimit 0 = .ok (.aload_n 0, 1) := by decide +kernel
theorem dX4_setGridLimit_1 : decode cX4_setGridLimit 1 = .ok (.bipush 103, 2) := by decide +kernel
theorem dX4_setGridLimit_3 : decode cX4_setGridLimit 3 = .ok (.iload_n 1, 1) := by decide +kernel
theorem dX4_setGridLimit_4 : decode cX4_setGridLimit 4 = .ok (.iconst 0, 1) := by decide +kernel
theorem dX4_setGridLimit_5 : decode cX4_setGridLimit 5 = .ok (.iconst 0, 1) := by decide +kernel
theorem dX4_setGridLimit_6 : decode cX4_setGridLimit 6 = .ok (.invokevirtual 47, 3) := by decide +kernel
theorem dX4_setGridLimit_9 : decode cX4_setGridLimit 9 = .ok (.aload_n 0, 1) := by decide +kernel
theorem dX4_setGridLimit_10 : decode cX4_setGridLimit 10 = .ok (.getfield 10, 3) := by decide +kernel
theorem dX4_setGridLimit_13 : decode cX4_setGridLimit 13 = .ok (.iload_n 1, 1) := by decide +kernel
theorem dX4_setGridLimit_14 : decode cX4_setGridLimit 14 = .ok (.invokevirtual 183, 3) := by decide +kernel
theorem dX4_setGridLimit_17 : decode cX4_setGridLimit 17 = .ok (.ireturn, 1) := by decide +kernel
theorem dX4_dispatch_0 : decode cX4_dispatch 0 = .ok (.aload_n 0, 1) := by decide +kernel
theorem dX4_dispatch_1 : decode cX4_dispatch 1 = .ok (.bipush 100, 2) := by decide +kernel
theorem dX4_dispatch_3 : decode cX4_dispatch 3 = .ok (.iconst 0, 1) := by decide +kernel
theorem dX4_dispatch_4 : decode cX4_dispatch 4 = .ok (.iconst 0, 1) := by decide +kernel
theorem dX4_dispatch_5 : decode cX4_dispatch 5 = .ok (.iconst 0, 1) := by decide +kernel
theorem dX4_dispatch_6 : decode cX4_dispatch 6 = .ok (.invokevirtual 47, 3) := by decide +kernel
theorem dX4_dispatch_9 : decode cX4_dispatch 9 = .ok (.aload_n 0, 1) := by decide +kernel
theorem dX4_dispatch_10 : decode cX4_dispatch 10 = .ok (.getfield 10, 3) := by decide +kernel
theorem dX4_dispatch_13 : decode cX4_dispatch 13 = .ok (.invokevirtual 189, 3) := by decide +kernel
theorem dX4_dispatch_16 : decode cX4_dispatch 16 = .ok (.ireturn, 1) := by decide +kernel
theorem dX4_releaseAll_0 : decode cX4_releaseAll 0 = .ok (.aload_n 0, 1) := by decide +kernel
theorem dX4_releaseAll_1 : decode cX4_releaseAll 1 = .ok (.bipush 118, 2) := by decide +kernel
theorem dX4_releaseAll_3 : decode cX4_releaseAll 3 = .ok (.iconst 0, 1) := by decide +kernel
theorem dX4_releaseAll_4 : decode cX4_releaseAll 4 = .ok (.iconst 0, 1) := by decide +kernel
theorem dX4_releaseAll_5 : decode cX4_releaseAll 5 = .ok (.iconst 0, 1) := by decide +kernel
theorem dX4_releaseAll_6 : decode cX4_releaseAll 6 = .ok (.invokevirtual 47, 3) := by decide +kernel
theorem dX4_releaseAll_9 : decode cX4_releaseAll 9 = .ok (.aload_n 0, 1) := by decide +kernel
theorem dX4_releaseAll_10 : decode cX4_releaseAll 10 = .ok (.getfield 10, 3) := by decide +kernel
theorem dX4_releaseAll_13 : decode cX4_releaseAll 13 = .ok (.invokevirtual 192, 3) := by decide +kernel
theorem dX4_releaseAll_16 : decode cX4_releaseAll 16 = .ok (.ireturn, 1) := by decide +kernel
theorem dX4_placeBid_0 : decode cX4_placeBid 0 = .ok (.aload_n 0, 1) := by decide +kernel
theorem dX4_placeBid_1 : decode cX4_placeBid 1 = .ok (.bipush 98, 2) := by decide +kernel
theorem dX4_placeBid_3 : decode cX4_placeBid 3 = .ok (.iload_n 1, 1) := by decide +kernel
theorem dX4_placeBid_4 : decode cX4_placeBid 4 = .ok (.iload_n 2, 1) := by decide +kernel
theorem dX4_placeBid_5 : decode cX4_placeBid 5 = .ok (.iload_n 3, 1) := by decide +kernel
theorem dX4_placeBid_6 : decode cX4_placeBid 6 = .ok (.invokevirtual 47, 3) := by decide +kernel
theorem dX4_placeBid_9 : decode cX4_placeBid 9 = .ok (.aload_n 0, 1) := by decide +kernel
theorem dX4_placeBid_10 : decode cX4_placeBid 10 = .ok (.getfield 10, 3) := by decide +kernel
theorem dX4_placeBid_13 : decode cX4_placeBid 13 = .ok (.iload_n 1, 1) := by decide +kernel
theorem dX4_placeBid_14 : decode cX4_placeBid 14 = .ok (.iload_n 2, 1) := by decide +kernel
theorem dX4_placeBid_15 : decode cX4_placeBid 15 = .ok (.iload_n 3, 1) := by decide +kernel
theorem dX4_placeBid_16 : decode cX4_placeBid 16 = .ok (.invokevirtual 195, 3) := by decide +kernel
theorem dX4_placeBid_19 : decode cX4_placeBid 19 = .ok (.ireturn, 1) := by decide +kernel
theorem dX4_withdrawBid_0 : decode cX4_withdrawBid 0 = .ok (.aload_n 0, 1) := by decide +kernel
theorem dX4_withdrawBid_1 : decode cX4_withdrawBid 1 = .ok (.bipush 113, 2) := by decide +kernel
theorem dX4_withdrawBid_3 : decode cX4_withdrawBid 3 = .ok (.iload_n 1, 1) := by decide +kernel
theorem dX4_withdrawBid_4 : decode cX4_withdrawBid 4 = .ok (.iconst 0, 1) := by decide +kernel
theorem dX4_withdrawBid_5 : decode cX4_withdrawBid 5 = .ok (.iconst 0, 1) := by decide +kernel
theorem dX4_withdrawBid_6 : decode cX4_withdrawBid 6 = .ok (.invokevirtual 47, 3) := by decide +kernel
theorem dX4_withdrawBid_9 : decode cX4_withdrawBid 9 = .ok (.aload_n 0, 1) := by decide +kernel
theorem dX4_withdrawBid_10 : decode cX4_withdrawBid 10 = .ok (.getfield 10, 3) := by decide +kernel
theorem dX4_withdrawBid_13 : decode cX4_withdrawBid 13 = .ok (.iload_n 1, 1) := by decide +kernel
theorem dX4_withdrawBid_14 : decode cX4_withdrawBid 14 = .ok (.invokevirtual 198, 3) := by decide +kernel
theorem dX4_withdrawBid_17 : decode cX4_withdrawBid 17 = .ok (.ireturn, 1) := by decide +kernel
theorem dX4_hasBid_0 : decode cX4_hasBid 0 = .ok (.aload_n 0, 1) := by decide +kernel
theorem dX4_hasBid_1 : decode cX4_hasBid 1 = .ok (.iload_n 1, 1) := by decide +kernel
theorem dX4_hasBid_2 : decode cX4_hasBid 2 = .ok (.invokevirtual 201, 3) := by decide +kernel
theorem dX4_hasBid_5 : decode cX4_hasBid 5 = .ok (.aload_n 0, 1) := by decide +kernel
theorem dX4_hasBid_6 : decode cX4_hasBid 6 = .ok (.getfield 10, 3) := by decide +kernel
theorem dX4_hasBid_9 : decode cX4_hasBid 9 = .ok (.iload_n 1, 1) := by decide +kernel
theorem dX4_hasBid_10 : decode cX4_hasBid 10 = .ok (.invokevirtual 204, 3) := by decide +kernel
theorem dX4_hasBid_13 : decode cX4_hasBid 13 = .ok (.ireturn, 1) := by decide +kernel
theorem dX4_bidPrice_0 : decode cX4_bidPrice 0 = .ok (.aload_n 0, 1) := by decide +kernel
theorem dX4_bidPrice_1 : decode cX4_bidPrice 1 = .ok (.iload_n 1, 1) := by decide +kernel
theorem dX4_bidPrice_2 : decode cX4_bidPrice 2 = .ok (.invokevirtual 207, 3) := by decide +kernel
theorem dX4_bidPrice_5 : decode cX4_bidPrice 5 = .ok (.aload_n 0, 1) := by decide +kernel
theorem dX4_bidPrice_6 : decode cX4_bidPrice 6 = .ok (.getfield 10, 3) := by decide +kernel
theorem dX4_bidPrice_9 : decode cX4_bidPrice 9 = .ok (.getfield 210, 3) := by decide +kernel
theorem dX4_bidPrice_12 : decode cX4_bidPrice 12 = .ok (.iload_n 1, 1) := by decide +kernel
theorem dX4_bidPrice_13 : decode cX4_bidPrice 13 = .ok (.invokestatic 102, 3) := by decide +kernel
theorem dX4_bidPrice_16 : decode cX4_bidPrice 16 = .ok (.ireturn, 1) := by decide +kernel
theorem dX4_bidQuantity_0 : decode cX4_bidQuantity 0 = .ok (.aload_n 0, 1) := by decide +kernel
theorem dX4_bidQuantity_1 : decode cX4_bidQuantity 1 = .ok (.iload_n 1, 1) := by decide +kernel
theorem dX4_bidQuantity_2 : decode cX4_bidQuantity 2 = .ok (.invokevirtual 207, 3) := by decide +kernel
theorem dX4_bidQuantity_5 : decode cX4_bidQuantity 5 = .ok (.aload_n 0, 1) := by decide +kernel
theorem dX4_bidQuantity_6 : decode cX4_bidQuantity 6 = .ok (.getfield 10, 3) := by decide +kernel
theorem dX4_bidQuantity_9 : decode cX4_bidQuantity 9 = .ok (.getfield 213, 3) := by decide +kernel
theorem dX4_bidQuantity_12 : decode cX4_bidQuantity 12 = .ok (.iload_n 1, 1) := by decide +kernel
theorem dX4_bidQuantity_13 : decode cX4_bidQuantity 13 = .ok (.invokestatic 102, 3) := by decide +kernel
theorem dX4_bidQuantity_16 : decode cX4_bidQuantity 16 = .ok (.ireturn, 1) := by decide +kernel
theorem dX4_bidByPrice_0 : decode cX4_bidByPrice 0 = .ok (.iconst 0, 1) := by decide +kernel
theorem dX4_bidByPrice_1 : decode cX4_bidByPrice 1 = .ok (.istore_n 2, 1) := by decide +kernel
theorem dX4_bidByPrice_2 : decode cX4_bidByPrice 2 = .ok (.iload_n 2, 1) := by decide +kernel
theorem dX4_bidByPrice_3 : decode cX4_bidByPrice 3 = .ok (.bipush 24, 2) := by decide +kernel
theorem dX4_bidByPrice_5 : decode cX4_bidByPrice 5 = .ok (.if_icmp .ge 34, 3) := by decide +kernel
theorem dX4_bidByPrice_8 : decode cX4_bidByPrice 8 = .ok (.aload_n 0, 1) := by decide +kernel
theorem dX4_bidByPrice_9 : decode cX4_bidByPrice 9 = .ok (.getfield 10, 3) := by decide +kernel
theorem dX4_bidByPrice_12 : decode cX4_bidByPrice 12 = .ok (.iload_n 2, 1) := by decide +kernel
theorem dX4_bidByPrice_13 : decode cX4_bidByPrice 13 = .ok (.invokevirtual 204, 3) := by decide +kernel
theorem dX4_bidByPrice_16 : decode cX4_bidByPrice 16 = .ok (.ifCond .eq 17, 3) := by decide +kernel
theorem dX4_bidByPrice_19 : decode cX4_bidByPrice 19 = .ok (.aload_n 0, 1) := by decide +kernel
theorem dX4_bidByPrice_20 : decode cX4_bidByPrice 20 = .ok (.getfield 10, 3) := by decide +kernel
theorem dX4_bidByPrice_23 : decode cX4_bidByPrice 23 = .ok (.iload_n 2, 1) := by decide +kernel
theorem dX4_bidByPrice_24 : decode cX4_bidByPrice 24 = .ok (.invokevirtual 216, 3) := by decide +kernel
theorem dX4_bidByPrice_27 : decode cX4_bidByPrice 27 = .ok (.iload_n 1, 1) := by decide +kernel
theorem dX4_bidByPrice_28 : decode cX4_bidByPrice 28 = .ok (.if_icmp .ne 5, 3) := by decide +kernel
theorem dX4_bidByPrice_31 : decode cX4_bidByPrice 31 = .ok (.iload_n 2, 1) := by decide +kernel
theorem dX4_bidByPrice_32 : decode cX4_bidByPrice 32 = .ok (.ireturn, 1) := by decide +kernel
theorem dX4_bidByPrice_33 : decode cX4_bidByPrice 33 = .ok (.iinc 2 1, 3) := by decide +kernel
theorem dX4_bidByPrice_36 : decode cX4_bidByPrice 36 = .ok (.goto (-34), 3) := by decide +kernel
theorem dX4_bidByPrice_39 : decode cX4_bidByPrice 39 = .ok (.new 89, 3) := by decide +kernel
theorem dX4_bidByPrice_42 : decode cX4_bidByPrice 42 = .ok (.dup, 1) := by decide +kernel
theorem dX4_bidByPrice_43 : decode cX4_bidByPrice 43 = .ok (.ldc 219, 2) := by decide +kernel
theorem dX4_bidByPrice_45 : decode cX4_bidByPrice 45 = .ok (.invokespecial 93, 3) := by decide +kernel
theorem dX4_bidByPrice_48 : decode cX4_bidByPrice 48 = .ok (.athrow, 1) := by decide +kernel
theorem dX4_passHours_0 : decode cX4_passHours 0 = .ok (.aload_n 0, 1) := by decide +kernel
theorem dX4_passHours_1 : decode cX4_passHours 1 = .ok (.bipush 116, 2) := by decide +kernel
theorem dX4_passHours_3 : decode cX4_passHours 3 = .ok (.iload_n 1, 1) := by decide +kernel
theorem dX4_passHours_4 : decode cX4_passHours 4 = .ok (.iconst 0, 1) := by decide +kernel
theorem dX4_passHours_5 : decode cX4_passHours 5 = .ok (.iconst 0, 1) := by decide +kernel
theorem dX4_passHours_6 : decode cX4_passHours 6 = .ok (.invokevirtual 47, 3) := by decide +kernel
theorem dX4_passHours_9 : decode cX4_passHours 9 = .ok (.aload_n 0, 1) := by decide +kernel
theorem dX4_passHours_10 : decode cX4_passHours 10 = .ok (.getfield 10, 3) := by decide +kernel
theorem dX4_passHours_13 : decode cX4_passHours 13 = .ok (.iload_n 1, 1) := by decide +kernel
theorem dX4_passHours_14 : decode cX4_passHours 14 = .ok (.invokevirtual 221, 3) := by decide +kernel
theorem dX4_passHours_17 : decode cX4_passHours 17 = .ok (.ireturn, 1) := by decide +kernel
theorem dX4_time_0 : decode cX4_time 0 = .ok (.aload_n 0, 1) := by decide +kernel
theorem dX4_time_1 : decode cX4_time 1 = .ok (.getfield 10, 3) := by decide +kernel
theorem dX4_time_4 : decode cX4_time 4 = .ok (.getfield 224, 3) := by decide +kernel
theorem dX4_time_7 : decode cX4_time 7 = .ok (.ireturn, 1) := by decide +kernel
theorem dX4_hoursToBid_0 : decode cX4_hoursToBid 0 = .ok (.iconst 0, 1) := by decide +kernel
theorem dX4_hoursToBid_1 : decode cX4_hoursToBid 1 = .ok (.istore_n 1, 1) := by decide +kernel
theorem dX4_hoursToBid_2 : decode cX4_hoursToBid 2 = .ok (.iload_n 1, 1) := by decide +kernel
theorem dX4_hoursToBid_3 : decode cX4_hoursToBid 3 = .ok (.bipush 24, 2) := by decide +kernel
theorem dX4_hoursToBid_5 : decode cX4_hoursToBid 5 = .ok (.if_icmp .ge 33, 3) := by decide +kernel
theorem dX4_hoursToBid_8 : decode cX4_hoursToBid 8 = .ok (.aload_n 0, 1) := by decide +kernel
theorem dX4_hoursToBid_9 : decode cX4_hoursToBid 9 = .ok (.getfield 10, 3) := by decide +kernel
theorem dX4_hoursToBid_12 : decode cX4_hoursToBid 12 = .ok (.aload_n 0, 1) := by decide +kernel
theorem dX4_hoursToBid_13 : decode cX4_hoursToBid 13 = .ok (.getfield 10, 3) := by decide +kernel
theorem dX4_hoursToBid_16 : decode cX4_hoursToBid 16 = .ok (.getfield 224, 3) := by decide +kernel
theorem dX4_hoursToBid_19 : decode cX4_hoursToBid 19 = .ok (.iload_n 1, 1) := by decide +kernel
theorem dX4_hoursToBid_20 : decode cX4_hoursToBid 20 = .ok (.iadd, 1) := by decide +kernel
theorem dX4_hoursToBid_21 : decode cX4_hoursToBid 21 = .ok (.bipush 24, 2) := by decide +kernel
theorem dX4_hoursToBid_23 : decode cX4_hoursToBid 23 = .ok (.irem, 1) := by decide +kernel
theorem dX4_hoursToBid_24 : decode cX4_hoursToBid 24 = .ok (.invokevirtual 204, 3) := by decide +kernel
theorem dX4_hoursToBid_27 : decode cX4_hoursToBid 27 = .ok (.ifCond .eq 5, 3) := by decide +kernel
theorem dX4_hoursToBid_30 : decode cX4_hoursToBid 30 = .ok (.iload_n 1, 1) := by decide +kernel
theorem dX4_hoursToBid_31 : decode cX4_hoursToBid 31 = .ok (.ireturn, 1) := by decide +kernel
theorem dX4_hoursToBid_32 : decode cX4_hoursToBid 32 = .ok (.iinc 1 1, 3) := by decide +kernel
theorem dX4_hoursToBid_35 : decode cX4_hoursToBid 35 = .ok (.goto (-33), 3) := by decide +kernel
theorem dX4_hoursToBid_38 : decode cX4_hoursToBid 38 = .ok (.new 89, 3) := by decide +kernel
theorem dX4_hoursToBid_41 : decode cX4_hoursToBid 41 = .ok (.dup, 1) := by decide +kernel
theorem dX4_hoursToBid_42 : decode cX4_hoursToBid 42 = .ok (.ldc 241, 2) := by decide +kernel
theorem dX4_hoursToBid_44 : decode cX4_hoursToBid 44 = .ok (.invokespecial 93, 3) := by decide +kernel
theorem dX4_hoursToBid_47 : decode cX4_hoursToBid 47 = .ok (.athrow, 1) := by decide +kernel
theorem dX4_energyMade_0 : decode cX4_energyMade 0 = .ok (.aload_n 0, 1) := by decide +kernel
theorem dX4_energyMade_1 : decode cX4_energyMade 1 = .ok (.getfield 10, 3) := by decide +kernel
theorem dX4_energyMade_4 : decode cX4_energyMade 4 = .ok (.getfield 243, 3) := by decide +kernel
theorem dX4_energyMade_7 : decode cX4_energyMade 7 = .ok (.lreturn, 1) := by decide +kernel
theorem dX4_energyLost_0 : decode cX4_energyLost 0 = .ok (.aload_n 0, 1) := by decide +kernel
theorem dX4_energyLost_1 : decode cX4_energyLost 1 = .ok (.getfield 10, 3) := by decide +kernel
theorem dX4_energyLost_4 : decode cX4_energyLost 4 = .ok (.getfield 246, 3) := by decide +kernel
theorem dX4_energyLost_7 : decode cX4_energyLost 7 = .ok (.lreturn, 1) := by decide +kernel
theorem dX4_energySold_0 : decode cX4_energySold 0 = .ok (.aload_n 0, 1) := by decide +kernel
theorem dX4_energySold_1 : decode cX4_energySold 1 = .ok (.getfield 10, 3) := by decide +kernel
theorem dX4_energySold_4 : decode cX4_energySold 4 = .ok (.getfield 249, 3) := by decide +kernel
theorem dX4_energySold_7 : decode cX4_energySold 7 = .ok (.lreturn, 1) := by decide +kernel
theorem dX4_energySpilled_0 : decode cX4_energySpilled 0 = .ok (.aload_n 0, 1) := by decide +kernel
theorem dX4_energySpilled_1 : decode cX4_energySpilled 1 = .ok (.getfield 10, 3) := by decide +kernel
theorem dX4_energySpilled_4 : decode cX4_energySpilled 4 = .ok (.getfield 252, 3) := by decide +kernel
theorem dX4_energySpilled_7 : decode cX4_energySpilled 7 = .ok (.lreturn, 1) := by decide +kernel
theorem dX4_turbineByOutput_0 : decode cX4_turbineByOutput 0 = .ok (.iconst 0, 1) := by decide +kernel
theorem dX4_turbineByOutput_1 : decode cX4_turbineByOutput 1 = .ok (.istore_n 2, 1) := by decide +kernel
theorem dX4_turbineByOutput_2 : decode cX4_turbineByOutput 2 = .ok (.iload_n 2, 1) := by decide +kernel
theorem dX4_turbineByOutput_3 : decode cX4_turbineByOutput 3 = .ok (.aload_n 0, 1) := by decide +kernel
theorem dX4_turbineByOutput_4 : decode cX4_turbineByOutput 4 = .ok (.getfield 10, 3) := by decide +kernel
theorem dX4_turbineByOutput_7 : decode cX4_turbineByOutput 7 = .ok (.getfield 72, 3) := by decide +kernel
theorem dX4_turbineByOutput_10 : decode cX4_turbineByOutput 10 = .ok (.if_icmp .ge 23, 3) := by decide +kernel
theorem dX4_turbineByOutput_13 : decode cX4_turbineByOutput 13 = .ok (.aload_n 0, 1) := by decide +kernel
theorem dX4_turbineByOutput_14 : decode cX4_turbineByOutput 14 = .ok (.getfield 10, 3) := by decide +kernel
theorem dX4_turbineByOutput_17 : decode cX4_turbineByOutput 17 = .ok (.iload_n 2, 1) := by decide +kernel
theorem dX4_turbineByOutput_18 : decode cX4_turbineByOutput 18 = .ok (.invokevirtual 255, 3) := by decide +kernel
theorem dX4_turbineByOutput_21 : decode cX4_turbineByOutput 21 = .ok (.iload_n 1, 1) := by decide +kernel
theorem dX4_turbineByOutput_22 : decode cX4_turbineByOutput 22 = .ok (.if_icmp .ne 5, 3) := by decide +kernel
theorem dX4_turbineByOutput_25 : decode cX4_turbineByOutput 25 = .ok (.iload_n 2, 1) := by decide +kernel
theorem dX4_turbineByOutput_26 : decode cX4_turbineByOutput 26 = .ok (.ireturn, 1) := by decide +kernel
theorem dX4_turbineByOutput_27 : decode cX4_turbineByOutput 27 = .ok (.iinc 2 1, 3) := by decide +kernel
theorem dX4_turbineByOutput_30 : decode cX4_turbineByOutput 30 = .ok (.goto (-28), 3) := by decide +kernel
theorem dX4_turbineByOutput_33 : decode cX4_turbineByOutput 33 = .ok (.new 89, 3) := by decide +kernel
theorem dX4_turbineByOutput_36 : decode cX4_turbineByOutput 36 = .ok (.dup, 1) := by decide +kernel
theorem dX4_turbineByOutput_37 : decode cX4_turbineByOutput 37 = .ok (.ldc_w 258, 3) := by decide +kernel
theorem dX4_turbineByOutput_40 : decode cX4_turbineByOutput 40 = .ok (.invokespecial 93, 3) := by decide +kernel
theorem dX4_turbineByOutput_43 : decode cX4_turbineByOutput 43 = .ok (.athrow, 1) := by decide +kernel
theorem dX4_meanOutput_0 : decode cX4_meanOutput 0 = .ok (.aload_n 0, 1) := by decide +kernel
theorem dX4_meanOutput_1 : decode cX4_meanOutput 1 = .ok (.getfield 10, 3) := by decide +kernel
theorem dX4_meanOutput_4 : decode cX4_meanOutput 4 = .ok (.getfield 72, 3) := by decide +kernel
theorem dX4_meanOutput_7 : decode cX4_meanOutput 7 = .ok (.ifCond .gt 14, 3) := by decide +kernel
theorem dX4_meanOutput_10 : decode cX4_meanOutput 10 = .ok (.new 260, 3) := by decide +kernel
theorem dX4_meanOutput_13 : decode cX4_meanOutput 13 = .ok (.dup, 1) := by decide +kernel
theorem dX4_meanOutput_14 : decode cX4_meanOutput 14 = .ok (.ldc_w 262, 3) := by decide +kernel
theorem dX4_meanOutput_17 : decode cX4_meanOutput 17 = .ok (.invokespecial 264, 3) := by decide +kernel
theorem dX4_meanOutput_20 : decode cX4_meanOutput 20 = .ok (.athrow, 1) := by decide +kernel
theorem dX4_meanOutput_21 : decode cX4_meanOutput 21 = .ok (.aload_n 0, 1) := by decide +kernel
theorem dX4_meanOutput_22 : decode cX4_meanOutput 22 = .ok (.getfield 10, 3) := by decide +kernel
theorem dX4_meanOutput_25 : decode cX4_meanOutput 25 = .ok (.aload_n 0, 1) := by decide +kernel
theorem dX4_meanOutput_26 : decode cX4_meanOutput 26 = .ok (.getfield 10, 3) := by decide +kernel
theorem dX4_meanOutput_29 : decode cX4_meanOutput 29 = .ok (.getfield 137, 3) := by decide +kernel
theorem dX4_meanOutput_32 : decode cX4_meanOutput 32 = .ok (.aload_n 0, 1) := by decide +kernel
theorem dX4_meanOutput_33 : decode cX4_meanOutput 33 = .ok (.getfield 10, 3) := by decide +kernel
theorem dX4_meanOutput_36 : decode cX4_meanOutput 36 = .ok (.getfield 141, 3) := by decide +kernel
theorem dX4_meanOutput_39 : decode cX4_meanOutput 39 = .ok (.invokevirtual 158, 3) := by decide +kernel
theorem dX4_meanOutput_42 : decode cX4_meanOutput 42 = .ok (.i2d, 1) := by decide +kernel
theorem dX4_meanOutput_43 : decode cX4_meanOutput 43 = .ok (.aload_n 0, 1) := by decide +kernel
theorem dX4_meanOutput_44 : decode cX4_meanOutput 44 = .ok (.getfield 10, 3) := by decide +kernel
theorem dX4_meanOutput_47 : decode cX4_meanOutput 47 = .ok (.getfield 72, 3) := by decide +kernel
theorem dX4_meanOutput_50 : decode cX4_meanOutput 50 = .ok (.i2d, 1) := by decide +kernel
theorem dX4_meanOutput_51 : decode cX4_meanOutput 51 = .ok (.ddiv, 1) := by decide +kernel
theorem dX4_meanOutput_52 : decode cX4_meanOutput 52 = .ok (.dreturn, 1) := by decide +kernel
theorem dX4_runningShare_0 : decode cX4_runningShare 0 = .ok (.aload_n 0, 1) := by decide +kernel
theorem dX4_runningShare_1 : decode cX4_runningShare 1 = .ok (.getfield 10, 3) := by decide +kernel
theorem dX4_runningShare_4 : decode cX4_runningShare 4 = .ok (.getfield 72, 3) := by decide +kernel
theorem dX4_runningShare_7 : decode cX4_runningShare 7 = .ok (.ifCond .gt 14, 3) := by decide +kernel
theorem dX4_runningShare_10 : decode cX4_runningShare 10 = .ok (.new 260, 3) := by decide +kernel
theorem dX4_runningShare_13 : decode cX4_runningShare 13 = .ok (.dup, 1) := by decide +kernel
theorem dX4_runningShare_14 : decode cX4_runningShare 14 = .ok (.ldc_w 262, 3) := by decide +kernel
theorem dX4_runningShare_17 : decode cX4_runningShare 17 = .ok (.invokespecial 264, 3) := by decide +kernel
theorem dX4_runningShare_20 : decode cX4_runningShare 20 = .ok (.athrow, 1) := by decide +kernel
theorem dX4_runningShare_21 : decode cX4_runningShare 21 = .ok (.aload_n 0, 1) := by decide +kernel
theorem dX4_runningShare_22 : decode cX4_runningShare 22 = .ok (.getfield 10, 3) := by decide +kernel
theorem dX4_runningShare_25 : decode cX4_runningShare 25 = .ok (.iconst 1, 1) := by decide +kernel
theorem dX4_runningShare_26 : decode cX4_runningShare 26 = .ok (.invokevirtual 265, 3) := by decide +kernel
theorem dX4_runningShare_29 : decode cX4_runningShare 29 = .ok (.i2f, 1) := by decide +kernel
theorem dX4_runningShare_30 : decode cX4_runningShare 30 = .ok (.aload_n 0, 1) := by decide +kernel
theorem dX4_runningShare_31 : decode cX4_runningShare 31 = .ok (.getfield 10, 3) := by decide +kernel
theorem dX4_runningShare_34 : decode cX4_runningShare 34 = .ok (.getfield 72, 3) := by decide +kernel
theorem dX4_runningShare_37 : decode cX4_runningShare 37 = .ok (.i2f, 1) := by decide +kernel
theorem dX4_runningShare_38 : decode cX4_runningShare 38 = .ok (.fdiv, 1) := by decide +kernel
theorem dX4_runningShare_39 : decode cX4_runningShare 39 = .ok (.freturn, 1) := by decide +kernel
theorem dX4_isConsistent_0 : decode cX4_isConsistent 0 = .ok (.aload_n 0, 1) := by decide +kernel
theorem dX4_isConsistent_1 : decode cX4_isConsistent 1 = .ok (.getfield 10, 3) := by decide +kernel
theorem dX4_isConsistent_4 : decode cX4_isConsistent 4 = .ok (.aload_n 0, 1) := by decide +kernel
theorem dX4_isConsistent_5 : decode cX4_isConsistent 5 = .ok (.getfield 10, 3) := by decide +kernel
theorem dX4_isConsistent_8 : decode cX4_isConsistent 8 = .ok (.getfield 137, 3) := by decide +kernel
theorem dX4_isConsistent_11 : decode cX4_isConsistent 11 = .ok (.aload_n 0, 1) := by decide +kernel
theorem dX4_isConsistent_12 : decode cX4_isConsistent 12 = .ok (.getfield 10, 3) := by decide +kernel
theorem dX4_isConsistent_15 : decode cX4_isConsistent 15 = .ok (.getfield 141, 3) := by decide +kernel
theorem dX4_isConsistent_18 : decode cX4_isConsistent 18 = .ok (.invokevirtual 158, 3) := by decide +kernel
theorem dX4_isConsistent_21 : decode cX4_isConsistent 21 = .ok (.aload_n 0, 1) := by decide +kernel
theorem dX4_isConsistent_22 : decode cX4_isConsistent 22 = .ok (.getfield 10, 3) := by decide +kernel
theorem dX4_isConsistent_25 : decode cX4_isConsistent 25 = .ok (.invokevirtual 161, 3) := by decide +kernel
theorem dX4_isConsistent_28 : decode cX4_isConsistent 28 = .ok (.if_icmp .ne 51, 3) := by decide +kernel
theorem dX4_isConsistent_31 : decode cX4_isConsistent 31 = .ok (.aload_n 0, 1) := by decide +kernel
theorem dX4_isConsistent_32 : decode cX4_isConsistent 32 = .ok (.getfield 10, 3) := by decide +kernel
theorem dX4_isConsistent_35 : decode cX4_isConsistent 35 = .ok (.getfield 243, 3) := by decide +kernel
theorem dX4_isConsistent_38 : decode cX4_isConsistent 38 = .ok (.aload_n 0, 1) := by decide +kernel
theorem dX4_isConsistent_39 : decode cX4_isConsistent 39 = .ok (.getfield 10, 3) := by decide +kernel
theorem dX4_isConsistent_42 : decode cX4_isConsistent 42 = .ok (.getfield 246, 3) := by decide +kernel
theorem dX4_isConsistent_45 : decode cX4_isConsistent 45 = .ok (.aload_n 0, 1) := by decide +kernel
theorem dX4_isConsistent_46 : decode cX4_isConsistent 46 = .ok (.getfield 10, 3) := by decide +kernel
theorem dX4_isConsistent_49 : decode cX4_isConsistent 49 = .ok (.getfield 249, 3) := by decide +kernel
theorem dX4_isConsistent_52 : decode cX4_isConsistent 52 = .ok (.ladd, 1) := by decide +kernel
theorem dX4_isConsistent_53 : decode cX4_isConsistent 53 = .ok (.aload_n 0, 1) := by decide +kernel
theorem dX4_isConsistent_54 : decode cX4_isConsistent 54 = .ok (.getfield 10, 3) := by decide +kernel
theorem dX4_isConsistent_57 : decode cX4_isConsistent 57 = .ok (.getfield 252, 3) := by decide +kernel
theorem dX4_isConsistent_60 : decode cX4_isConsistent 60 = .ok (.ladd, 1) := by decide +kernel
theorem dX4_isConsistent_61 : decode cX4_isConsistent 61 = .ok (.lcmp, 1) := by decide +kernel
theorem dX4_isConsistent_62 : decode cX4_isConsistent 62 = .ok (.ifCond .ne 17, 3) := by decide +kernel
theorem dX4_isConsistent_65 : decode cX4_isConsistent 65 = .ok (.aload_n 0, 1) := by decide +kernel
theorem dX4_isConsistent_66 : decode cX4_isConsistent 66 = .ok (.getfield 10, 3) := by decide +kernel
theorem dX4_isConsistent_69 : decode cX4_isConsistent 69 = .ok (.invokevirtual 129, 3) := by decide +kernel
theorem dX4_isConsistent_72 : decode cX4_isConsistent 72 = .ok (.ifCond .lt 7, 3) := by decide +kernel
theorem dX4_isConsistent_75 : decode cX4_isConsistent 75 = .ok (.iconst 1, 1) := by decide +kernel
theorem dX4_isConsistent_76 : decode cX4_isConsistent 76 = .ok (.goto 4, 3) := by decide +kernel
theorem dX4_isConsistent_79 : decode cX4_isConsistent 79 = .ok (.iconst 0, 1) := by decide +kernel
theorem dX4_isConsistent_80 : decode cX4_isConsistent 80 = .ok (.ireturn, 1) := by decide +kernel
theorem dX4_writeTurbine_0 : decode cX4_writeTurbine 0 = .ok (.aload_n 0, 1) := by decide +kernel
theorem dX4_writeTurbine_1 : decode cX4_writeTurbine 1 = .ok (.iload_n 1, 1) := by decide +kernel
theorem dX4_writeTurbine_2 : decode cX4_writeTurbine 2 = .ok (.invokevirtual 94, 3) := by decide +kernel
theorem dX4_writeTurbine_5 : decode cX4_writeTurbine 5 = .ok (.aload_n 0, 1) := by decide +kernel
theorem dX4_writeTurbine_6 : decode cX4_writeTurbine 6 = .ok (.getfield 39, 3) := by decide +kernel
theorem dX4_writeTurbine_9 : decode cX4_writeTurbine 9 = .ok (.invokevirtual 268, 3) := by decide +kernel
theorem dX4_writeTurbine_12 : decode cX4_writeTurbine 12 = .ok (.aload_n 0, 1) := by decide +kernel
theorem dX4_writeTurbine_13 : decode cX4_writeTurbine 13 = .ok (.getfield 39, 3) := by decide +kernel
theorem dX4_writeTurbine_16 : decode cX4_writeTurbine 16 = .ok (.iload_n 1, 1) := by decide +kernel
theorem dX4_writeTurbine_17 : decode cX4_writeTurbine 17 = .ok (.invokevirtual 271, 3) := by decide +kernel
theorem dX4_writeTurbine_20 : decode cX4_writeTurbine 20 = .ok (.aload_n 0, 1) := by decide +kernel
theorem dX4_writeTurbine_21 : decode cX4_writeTurbine 21 = .ok (.bipush 64, 2) := by decide +kernel
theorem dX4_writeTurbine_23 : decode cX4_writeTurbine 23 = .ok (.aload_n 0, 1) := by decide +kernel
theorem dX4_writeTurbine_24 : decode cX4_writeTurbine 24 = .ok (.getfield 10, 3) := by decide +kernel
theorem dX4_writeTurbine_27 : decode cX4_writeTurbine 27 = .ok (.getfield 98, 3) := by decide +kernel
theorem dX4_writeTurbine_30 : decode cX4_writeTurbine 30 = .ok (.iload_n 1, 1) := by decide +kernel
theorem dX4_writeTurbine_31 : decode cX4_writeTurbine 31 = .ok (.invokestatic 102, 3) := by decide +kernel
theorem dX4_writeTurbine_34 : decode cX4_writeTurbine 34 = .ok (.invokevirtual 274, 3) := by decide +kernel
theorem dX4_writeTurbine_37 : decode cX4_writeTurbine 37 = .ok (.aload_n 0, 1) := by decide +kernel
theorem dX4_writeTurbine_38 : decode cX4_writeTurbine 38 = .ok (.bipush 44, 2) := by decide +kernel
theorem dX4_writeTurbine_40 : decode cX4_writeTurbine 40 = .ok (.aload_n 0, 1) := by decide +kernel
theorem dX4_writeTurbine_41 : decode cX4_writeTurbine 41 = .ok (.getfield 10, 3) := by decide +kernel
theorem dX4_writeTurbine_44 : decode cX4_writeTurbine 44 = .ok (.getfield 106, 3) := by decide +kernel
theorem dX4_writeTurbine_47 : decode cX4_writeTurbine 47 = .ok (.iload_n 1, 1) := by decide +kernel
theorem dX4_writeTurbine_48 : decode cX4_writeTurbine 48 = .ok (.invokestatic 102, 3) := by decide +kernel
theorem dX4_writeTurbine_51 : decode cX4_writeTurbine 51 = .ok (.invokevirtual 274, 3) := by decide +kernel
theorem dX4_writeTurbine_54 : decode cX4_writeTurbine 54 = .ok (.aload_n 0, 1) := by decide +kernel
theorem dX4_writeTurbine_55 : decode cX4_writeTurbine 55 = .ok (.bipush 112, 2) := by decide +kernel
theorem dX4_writeTurbine_57 : decode cX4_writeTurbine 57 = .ok (.aload_n 0, 1) := by decide +kernel
theorem dX4_writeTurbine_58 : decode cX4_writeTurbine 58 = .ok (.getfield 10, 3) := by decide +kernel
theorem dX4_writeTurbine_61 : decode cX4_writeTurbine 61 = .ok (.getfield 109, 3) := by decide +kernel
theorem dX4_writeTurbine_64 : decode cX4_writeTurbine 64 = .ok (.iload_n 1, 1) := by decide +kernel
theorem dX4_writeTurbine_65 : decode cX4_writeTurbine 65 = .ok (.invokestatic 102, 3) := by decide +kernel
theorem dX4_writeTurbine_68 : decode cX4_writeTurbine 68 = .ok (.invokevirtual 274, 3) := by decide +kernel
theorem dX4_writeTurbine_71 : decode cX4_writeTurbine 71 = .ok (.aload_n 0, 1) := by decide +kernel
theorem dX4_writeTurbine_72 : decode cX4_writeTurbine 72 = .ok (.bipush 61, 2) := by decide +kernel
theorem dX4_writeTurbine_74 : decode cX4_writeTurbine 74 = .ok (.aload_n 0, 1) := by decide +kernel
theorem dX4_writeTurbine_75 : decode cX4_writeTurbine 75 = .ok (.getfield 10, 3) := by decide +kernel
theorem dX4_writeTurbine_78 : decode cX4_writeTurbine 78 = .ok (.iload_n 1, 1) := by decide +kernel
theorem dX4_writeTurbine_79 : decode cX4_writeTurbine 79 = .ok (.aload_n 0, 1) := by decide +kernel
theorem dX4_writeTurbine_80 : decode cX4_writeTurbine 80 = .ok (.getfield 10, 3) := by decide +kernel
theorem dX4_writeTurbine_83 : decode cX4_writeTurbine 83 = .ok (.getfield 137, 3) := by decide +kernel
theorem dX4_writeTurbine_86 : decode cX4_writeTurbine 86 = .ok (.aload_n 0, 1) := by decide +kernel
theorem dX4_writeTurbine_87 : decode cX4_writeTurbine 87 = .ok (.getfield 10, 3) := by decide +kernel
theorem dX4_writeTurbine_90 : decode cX4_writeTurbine 90 = .ok (.getfield 141, 3) := by decide +kernel
theorem dX4_writeTurbine_93 : decode cX4_writeTurbine 93 = .ok (.invokevirtual 154, 3) := by decide +kernel
theorem dX4_writeTurbine_96 : decode cX4_writeTurbine 96 = .ok (.invokevirtual 274, 3) := by decide +kernel
theorem dX4_writeTurbine_99 : decode cX4_writeTurbine 99 = .ok (.aload_n 0, 1) := by decide +kernel
theorem dX4_writeTurbine_100 : decode cX4_writeTurbine 100 = .ok (.getfield 10, 3) := by decide +kernel
theorem dX4_writeTurbine_103 : decode cX4_writeTurbine 103 = .ok (.iload_n 1, 1) := by decide +kernel
theorem dX4_writeTurbine_104 : decode cX4_writeTurbine 104 = .ok (.invokevirtual 115, 3) := by decide +kernel
theorem dX4_writeTurbine_107 : decode cX4_writeTurbine 107 = .ok (.ifCond .eq 23, 3) := by decide +kernel
theorem dX4_writeTurbine_110 : decode cX4_writeTurbine 110 = .ok (.aload_n 0, 1) := by decide +kernel
theorem dX4_writeTurbine_111 : decode cX4_writeTurbine 111 = .ok (.bipush 60, 2) := by decide +kernel
theorem dX4_writeTurbine_113 : decode cX4_writeTurbine 113 = .ok (.aload_n 0, 1) := by decide +kernel
theorem dX4_writeTurbine_114 : decode cX4_writeTurbine 114 = .ok (.getfield 10, 3) := by decide +kernel
theorem dX4_writeTurbine_117 : decode cX4_writeTurbine 117 = .ok (.getfield 121, 3) := by decide +kernel
theorem dX4_writeTurbine_120 : decode cX4_writeTurbine 120 = .ok (.iload_n 1, 1) := by decide +kernel
theorem dX4_writeTurbine_121 : decode cX4_writeTurbine 121 = .ok (.invokestatic 102, 3) := by decide +kernel
theorem dX4_writeTurbine_124 : decode cX4_writeTurbine 124 = .ok (.invokevirtual 274, 3) := by decide +kernel
theorem dX4_writeTurbine_127 : decode cX4_writeTurbine 127 = .ok (.goto 56, 3) := by decide +kernel
theorem dX4_writeTurbine_130 : decode cX4_writeTurbine 130 = .ok (.aload_n 0, 1) := by decide +kernel
theorem dX4_writeTurbine_131 : decode cX4_writeTurbine 131 = .ok (.getfield 10, 3) := by decide +kernel
theorem dX4_writeTurbine_134 : decode cX4_writeTurbine 134 = .ok (.iload_n 1, 1) := by decide +kernel
theorem dX4_writeTurbine_135 : decode cX4_writeTurbine 135 = .ok (.iconst 2, 1) := by decide +kernel
theorem dX4_writeTurbine_136 : decode cX4_writeTurbine 136 = .ok (.invokevirtual 112, 3) := by decide +kernel
theorem dX4_writeTurbine_139 : decode cX4_writeTurbine 139 = .ok (.ifCond .eq 15, 3) := by decide +kernel
theorem dX4_writeTurbine_142 : decode cX4_writeTurbine 142 = .ok (.aload_n 0, 1) := by decide +kernel
theorem dX4_writeTurbine_143 : decode cX4_writeTurbine 143 = .ok (.getfield 39, 3) := by decide +kernel
theorem dX4_writeTurbine_146 : decode cX4_writeTurbine 146 = .ok (.bipush 120, 2) := by decide +kernel
theorem dX4_writeTurbine_148 : decode cX4_writeTurbine 148 = .ok (.invokevirtual 278, 3) := by decide +kernel
theorem dX4_writeTurbine_151 : decode cX4_writeTurbine 151 = .ok (.goto 32, 3) := by decide +kernel
theorem dX4_writeTurbine_154 : decode cX4_writeTurbine 154 = .ok (.aload_n 0, 1) := by decide +kernel
theorem dX4_writeTurbine_155 : decode cX4_writeTurbine 155 = .ok (.getfield 10, 3) := by decide +kernel
theorem dX4_writeTurbine_158 : decode cX4_writeTurbine 158 = .ok (.iload_n 1, 1) := by decide +kernel
theorem dX4_writeTurbine_159 : decode cX4_writeTurbine 159 = .ok (.iconst 3, 1) := by decide +kernel
theorem dX4_writeTurbine_160 : decode cX4_writeTurbine 160 = .ok (.invokevirtual 112, 3) := by decide +kernel
theorem dX4_writeTurbine_163 : decode cX4_writeTurbine 163 = .ok (.ifCond .eq 20, 3) := by decide +kernel
theorem dX4_writeTurbine_166 : decode cX4_writeTurbine 166 = .ok (.aload_n 0, 1) := by decide +kernel
theorem dX4_writeTurbine_167 : decode cX4_writeTurbine 167 = .ok (.bipush 115, 2) := by decide +kernel
theorem dX4_writeTurbine_169 : decode cX4_writeTurbine 169 = .ok (.aload_n 0, 1) := by decide +kernel
theorem dX4_writeTurbine_170 : decode cX4_writeTurbine 170 = .ok (.getfield 10, 3) := by decide +kernel
theorem dX4_writeTurbine_173 : decode cX4_writeTurbine 173 = .ok (.getfield 126, 3) := by decide +kernel
theorem dX4_writeTurbine_176 : decode cX4_writeTurbine 176 = .ok (.iload_n 1, 1) := by decide +kernel
theorem dX4_writeTurbine_177 : decode cX4_writeTurbine 177 = .ok (.invokestatic 102, 3) := by decide +kernel
theorem dX4_writeTurbine_180 : decode cX4_writeTurbine 180 = .ok (.invokevirtual 274, 3) := by decide +kernel
theorem dX4_writeTurbine_183 : decode cX4_writeTurbine 183 = .ok (.aload_n 0, 1) := by decide +kernel
theorem dX4_writeTurbine_184 : decode cX4_writeTurbine 184 = .ok (.getfield 39, 3) := by decide +kernel
theorem dX4_writeTurbine_187 : decode cX4_writeTurbine 187 = .ok (.getfield 281, 3) := by decide +kernel
theorem dX4_writeTurbine_190 : decode cX4_writeTurbine 190 = .ok (.ireturn, 1) := by decide +kernel
theorem dX4_outputAt_0 : decode cX4_outputAt 0 = .ok (.iload_n 1, 1) := by decide +kernel
theorem dX4_outputAt_1 : decode cX4_outputAt 1 = .ok (.iconst 0, 1) := by decide +kernel
theorem dX4_outputAt_2 : decode cX4_outputAt 2 = .ok (.aload_n 0, 1) := by decide +kernel
theorem dX4_outputAt_3 : decode cX4_outputAt 3 = .ok (.getfield 39, 3) := by decide +kernel
theorem dX4_outputAt_6 : decode cX4_outputAt 6 = .ok (.getfield 281, 3) := by decide +kernel
theorem dX4_outputAt_9 : decode cX4_outputAt 9 = .ok (.iconst 1, 1) := by decide +kernel
theorem dX4_outputAt_10 : decode cX4_outputAt 10 = .ok (.isub, 1) := by decide +kernel
theorem dX4_outputAt_11 : decode cX4_outputAt 11 = .ok (.invokestatic 227, 3) := by decide +kernel
theorem dX4_outputAt_14 : decode cX4_outputAt 14 = .ok (.ifCond .ne 14, 3) := by decide +kernel
theorem dX4_outputAt_17 : decode cX4_outputAt 17 = .ok (.new 79, 3) := by decide +kernel
theorem dX4_outputAt_20 : decode cX4_outputAt 20 = .ok (.dup, 1) := by decide +kernel
theorem dX4_outputAt_21 : decode cX4_outputAt 21 = .ok (.ldc_w 283, 3) := by decide +kernel
theorem dX4_outputAt_24 : decode cX4_outputAt 24 = .ok (.invokespecial 83, 3) := by decide +kernel
theorem dX4_outputAt_27 : decode cX4_outputAt 27 = .ok (.athrow, 1) := by decide +kernel
theorem dX4_outputAt_28 : decode cX4_outputAt 28 = .ok (.aload_n 0, 1) := by decide +kernel
theorem dX4_outputAt_29 : decode cX4_outputAt 29 = .ok (.getfield 39, 3) := by decide +kernel
theorem dX4_outputAt_32 : decode cX4_outputAt 32 = .ok (.iload_n 1, 1) := by decide +kernel
theorem dX4_outputAt_33 : decode cX4_outputAt 33 = .ok (.invokevirtual 285, 3) := by decide +kernel
theorem dX4_outputAt_36 : decode cX4_outputAt 36 = .ok (.ireturn, 1) := by decide +kernel
theorem dX4_rejectionReason_0 : decode cX4_rejectionReason 0 = .ok (.aload_n 0, 1) := by decide +kernel
theorem dX4_rejectionReason_1 : decode cX4_rejectionReason 1 = .ok (.invokevirtual 335, 3) := by decide +kernel
theorem dX4_rejectionReason_4 : decode cX4_rejectionReason 4 = .ok (.aload_n 0, 1) := by decide +kernel
theorem dX4_rejectionReason_5 : decode cX4_rejectionReason 5 = .ok (.getfield 338, 3) := by decide +kernel
theorem dX4_rejectionReason_8 : decode cX4_rejectionReason 8 = .ok (.ireturn, 1) := by decide +kernel
theorem dX4_admit_0 : decode cX4_admit 0 = .ok (.aload_n 0, 1) := by decide +kernel
theorem dX4_admit_1 : decode cX4_admit 1 = .ok (.getfield 10, 3) := by decide +kernel
theorem dX4_admit_4 : decode cX4_admit 4 = .ok (.iload_n 1, 1) := by decide +kernel
theorem dX4_admit_5 : decode cX4_admit 5 = .ok (.iload_n 2, 1) := by decide +kernel
theorem dX4_admit_6 : decode cX4_admit 6 = .ok (.iload_n 3, 1) := by decide +kernel
theorem dX4_admit_7 : decode cX4_admit 7 = .ok (.iload 4, 2) := by decide +kernel
theorem dX4_admit_9 : decode cX4_admit 9 = .ok (.invokevirtual 319, 3) := by decide +kernel
theorem dX4_admit_12 : decode cX4_admit 12 = .ok (.istore 5, 2) := by decide +kernel
theorem dX4_admit_14 : decode cX4_admit 14 = .ok (.iload 5, 2) := by decide +kernel
theorem dX4_admit_16 : decode cX4_admit 16 = .ok (.iconst (-1), 1) := by decide +kernel
theorem dX4_admit_17 : decode cX4_admit 17 = .ok (.if_icmp .ne 14, 3) := by decide +kernel
theorem dX4_admit_20 : decode cX4_admit 20 = .ok (.new 79, 3) := by decide +kernel
theorem dX4_admit_23 : decode cX4_admit 23 = .ok (.dup, 1) := by decide +kernel
theorem dX4_admit_24 : decode cX4_admit 24 = .ok (.ldc_w 366, 3) := by decide +kernel
theorem dX4_admit_27 : decode cX4_admit 27 = .ok (.invokespecial 83, 3) := by decide +kernel
theorem dX4_admit_30 : decode cX4_admit 30 = .ok (.athrow, 1) := by decide +kernel
theorem dX4_admit_31 : decode cX4_admit 31 = .ok (.iload 5, 2) := by decide +kernel
theorem dX4_admit_33 : decode cX4_admit 33 = .ok (.bipush (-2), 2) := by decide +kernel
theorem dX4_admit_35 : decode cX4_admit 35 = .ok (.if_icmp .ne 14, 3) := by decide +kernel
theorem dX4_admit_38 : decode cX4_admit 38 = .ok (.new 167, 3) := by decide +kernel
theorem dX4_admit_41 : decode cX4_admit 41 = .ok (.dup, 1) := by decide +kernel
theorem dX4_admit_42 : decode cX4_admit 42 = .ok (.ldc_w 368, 3) := by decide +kernel
theorem dX4_admit_45 : decode cX4_admit 45 = .ok (.invokespecial 171, 3) := by decide +kernel
theorem dX4_admit_48 : decode cX4_admit 48 = .ok (.athrow, 1) := by decide +kernel
theorem dX4_admit_49 : decode cX4_admit 49 = .ok (.iload 5, 2) := by decide +kernel
theorem dX4_admit_51 : decode cX4_admit 51 = .ok (.ifCond .eq 32, 3) := by decide +kernel
theorem dX4_admit_54 : decode cX4_admit 54 = .ok (.aload_n 0, 1) := by decide +kernel
theorem dX4_admit_55 : decode cX4_admit 55 = .ok (.iload 5, 2) := by decide +kernel
theorem dX4_admit_57 : decode cX4_admit 57 = .ok (.aload_n 0, 1) := by decide +kernel
theorem dX4_admit_58 : decode cX4_admit 58 = .ok (.getfield 10, 3) := by decide +kernel
theorem dX4_admit_61 : decode cX4_admit 61 = .ok (.iload 5, 2) := by decide +kernel
theorem dX4_admit_63 : decode cX4_admit 63 = .ok (.iload_n 2, 1) := by decide +kernel
theorem dX4_admit_64 : decode cX4_admit 64 = .ok (.iload_n 3, 1) := by decide +kernel
theorem dX4_admit_65 : decode cX4_admit 65 = .ok (.invokevirtual 370, 3) := by decide +kernel
theorem dX4_admit_68 : decode cX4_admit 68 = .ok (.iconst 0, 1) := by decide +kernel
theorem dX4_admit_69 : decode cX4_admit 69 = .ok (.invokevirtual 373, 3) := by decide +kernel
theorem dX4_admit_72 : decode cX4_admit 72 = .ok (.new 377, 3) := by decide +kernel
theorem dX4_admit_75 : decode cX4_admit 75 = .ok (.dup, 1) := by decide +kernel
theorem dX4_admit_76 : decode cX4_admit 76 = .ok (.ldc_w 379, 3) := by decide +kernel
theorem dX4_admit_79 : decode cX4_admit 79 = .ok (.invokespecial 381, 3) := by decide +kernel
theorem dX4_admit_82 : decode cX4_admit 82 = .ok (.athrow, 1) := by decide +kernel
theorem dX4_admit_83 : decode cX4_admit 83 = .ok (.aload_n 0, 1) := by decide +kernel
theorem dX4_admit_84 : decode cX4_admit 84 = .ok (.getfield 25, 3) := by decide +kernel
theorem dX4_admit_87 : decode cX4_admit 87 = .ok (.aload_n 0, 1) := by decide +kernel
theorem dX4_admit_88 : decode cX4_admit 88 = .ok (.getfield 10, 3) := by decide +kernel
theorem dX4_admit_91 : decode cX4_admit 91 = .ok (.invokevirtual 330, 3) := by decide +kernel
theorem dX4_admit_94 : decode cX4_admit 94 = .ok (.return_, 1) := by decide +kernel
theorem dX4_reject_0 : decode cX4_reject 0 = .ok (.aload_n 0, 1) := by decide +kernel
theorem dX4_reject_1 : decode cX4_reject 1 = .ok (.iload_n 1, 1) := by decide +kernel
theorem dX4_reject_2 : decode cX4_reject 2 = .ok (.putfield 338, 3) := by decide +kernel
theorem dX4_reject_5 : decode cX4_reject 5 = .ok (.aload_n 0, 1) := by decide +kernel
theorem dX4_reject_6 : decode cX4_reject 6 = .ok (.iload_n 2, 1) := by decide +kernel
theorem dX4_reject_7 : decode cX4_reject 7 = .ok (.putfield 341, 3) := by decide +kernel
theorem dX4_reject_10 : decode cX4_reject 10 = .ok (.aload_n 0, 1) := by decide +kernel
theorem dX4_reject_11 : decode cX4_reject 11 = .ok (.iload_n 3, 1) := by decide +kernel
theorem dX4_reject_12 : decode cX4_reject 12 = .ok (.putfield 346, 3) := by decide +kernel
theorem dX4_reject_15 : decode cX4_reject 15 = .ok (.return_, 1) := by decide +kernel
theorem dX4_requireTurbine_0 : decode cX4_requireTurbine 0 = .ok (.aload_n 0, 1) := by decide +kernel
theorem dX4_requireTurbine_1 : decode cX4_requireTurbine 1 = .ok (.getfield 10, 3) := by decide +kernel
theorem dX4_requireTurbine_4 : decode cX4_requireTurbine 4 = .ok (.iload_n 1, 1) := by decide +kernel
theorem dX4_requireTurbine_5 : decode cX4_requireTurbine 5 = .ok (.invokevirtual 386, 3) := by decide +kernel
theorem dX4_requireTurbine_8 : decode cX4_requireTurbine 8 = .ok (.ifCond .ne 14, 3) := by decide +kernel
theorem dX4_requireTurbine_11 : decode cX4_requireTurbine 11 = .ok (.new 79, 3) := by decide +kernel
theorem dX4_requireTurbine_14 : decode cX4_requireTurbine 14 = .ok (.dup, 1) := by decide +kernel
theorem dX4_requireTurbine_15 : decode cX4_requireTurbine 15 = .ok (.ldc_w 389, 3) := by decide +kernel
theorem dX4_requireTurbine_18 : decode cX4_requireTurbine 18 = .ok (.invokespecial 83, 3) := by decide +kernel
theorem dX4_requireTurbine_21 : decode cX4_requireTurbine 21 = .ok (.athrow, 1) := by decide +kernel
theorem dX4_requireTurbine_22 : decode cX4_requireTurbine 22 = .ok (.return_, 1) := by decide +kernel
theorem dX4_requireHour_0 : decode cX4_requireHour 0 = .ok (.iload_n 1, 1) := by decide +kernel
theorem dX4_requireHour_1 : decode cX4_requireHour 1 = .ok (.invokestatic 391, 3) := by decide +kernel
theorem dX4_requireHour_4 : decode cX4_requireHour 4 = .ok (.ifCond .ne 14, 3) := by decide +kernel
theorem dX4_requireHour_7 : decode cX4_requireHour 7 = .ok (.new 79, 3) := by decide +kernel
theorem dX4_requireHour_10 : decode cX4_requireHour 10 = .ok (.dup, 1) := by decide +kernel
theorem dX4_requireHour_11 : decode cX4_requireHour 11 = .ok (.ldc_w 394, 3) := by decide +kernel
theorem dX4_requireHour_14 : decode cX4_requireHour 14 = .ok (.invokespecial 83, 3) := by decide +kernel
theorem dX4_requireHour_17 : decode cX4_requireHour 17 = .ok (.athrow, 1) := by decide +kernel
theorem dX4_requireHour_18 : decode cX4_requireHour 18 = .ok (.return_, 1) := by decide +kernel
theorem dX4_requireBid_0 : decode cX4_requireBid 0 = .ok (.aload_n 0, 1) := by decide +kernel
theorem dX4_requireBid_1 : decode cX4_requireBid 1 = .ok (.iload_n 1, 1) := by decide +kernel
theorem dX4_requireBid_2 : decode cX4_requireBid 2 = .ok (.invokevirtual 201, 3) := by decide +kernel
theorem dX4_requireBid_5 : decode cX4_requireBid 5 = .ok (.aload_n 0, 1) := by decide +kernel
theorem dX4_requireBid_6 : decode cX4_requireBid 6 = .ok (.getfield 10, 3) := by decide +kernel
theorem dX4_requireBid_9 : decode cX4_requireBid 9 = .ok (.iload_n 1, 1) := by decide +kernel
theorem dX4_requireBid_10 : decode cX4_requireBid 10 = .ok (.invokevirtual 204, 3) := by decide +kernel
theorem dX4_requireBid_13 : decode cX4_requireBid 13 = .ok (.ifCond .ne 14, 3) := by decide +kernel
theorem dX4_requireBid_16 : decode cX4_requireBid 16 = .ok (.new 89, 3) := by decide +kernel
theorem dX4_requireBid_19 : decode cX4_requireBid 19 = .ok (.dup, 1) := by decide +kernel
theorem dX4_requireBid_20 : decode cX4_requireBid 20 = .ok (.ldc_w 396, 3) := by decide +kernel
theorem dX4_requireBid_23 : decode cX4_requireBid 23 = .ok (.invokespecial 93, 3) := by decide +kernel
theorem dX4_requireBid_26 : decode cX4_requireBid 26 = .ok (.athrow, 1) := by decide +kernel
theorem dX4_requireBid_27 : decode cX4_requireBid 27 = .ok (.return_, 1) := by decide +kernel
theorem dX4_requireRejection_0 : decode cX4_requireRejection 0 = .ok (.aload_n 0, 1) := by decide +kernel
theorem dX4_requireRejection_1 : decode cX4_requireRejection 1 = .ok (.getfield 338, 3) := by decide +kernel
theorem dX4_requireRejection_4 : decode cX4_requireRejection 4 = .ok (.ifCond .ne 14, 3) := by decide +kernel
theorem dX4_requireRejection_7 : decode cX4_requireRejection 7 = .ok (.new 89, 3) := by decide +kernel
theorem dX4_requireRejection_10 : decode cX4_requireRejection 10 = .ok (.dup, 1) := by decide +kernel
theorem dX4_requireRejection_11 : decode cX4_requireRejection 11 = .ok (.ldc_w 398, 3) := by decide +kernel
theorem dX4_requireRejection_14 : decode cX4_requireRejection 14 = .ok (.invokespecial 93, 3) := by decide +kernel
theorem dX4_requireRejection_17 : decode cX4_requireRejection 17 = .ok (.athrow, 1) := by decide +kernel
theorem dX4_requireRejection_18 : decode cX4_requireRejection 18 = .ok (.return_, 1) := by decide +kernel
theorem dX4_writeNumber_0 : decode cX4_writeNumber 0 = .ok (.aload_n 0, 1) := by decide +kernel
theorem dX4_writeNumber_1 : decode cX4_writeNumber 1 = .ok (.getfield 39, 3) := by decide +kernel
theorem dX4_writeNumber_4 : decode cX4_writeNumber 4 = .ok (.iload_n 1, 1) := by decide +kernel
theorem dX4_writeNumber_5 : decode cX4_writeNumber 5 = .ok (.invokevirtual 278, 3) := by decide +kernel
theorem dX4_writeNumber_8 : decode cX4_writeNumber 8 = .ok (.aload_n 0, 1) := by decide +kernel
theorem dX4_writeNumber_9 : decode cX4_writeNumber 9 = .ok (.getfield 39, 3) := by decide +kernel
theorem dX4_writeNumber_12 : decode cX4_writeNumber 12 = .ok (.iload_n 2, 1) := by decide +kernel
theorem dX4_writeNumber_13 : decode cX4_writeNumber 13 = .ok (.invokevirtual 271, 3) := by decide +kernel
theorem dX4_writeNumber_16 : decode cX4_writeNumber 16 = .ok (.return_, 1) := by decide +kernel
theorem dX4_isWithin_0 : decode cX4_isWithin 0 = .ok (.iload_n 0, 1) := by decide +kernel
theorem dX4_isWithin_1 : decode cX4_isWithin 1 = .ok (.iload_n 1, 1) := by decide +kernel
theorem dX4_isWithin_2 : decode cX4_isWithin 2 = .ok (.if_icmp .lt 12, 3) := by decide +kernel
theorem dX4_isWithin_5 : decode cX4_isWithin 5 = .ok (.iload_n 0, 1) := by decide +kernel
theorem dX4_isWithin_6 : decode cX4_isWithin 6 = .ok (.iload_n 2, 1) := by decide +kernel
theorem dX4_isWithin_7 : decode cX4_isWithin 7 = .ok (.if_icmp .gt 7, 3) := by decide +kernel
theorem dX4_isWithin_10 : decode cX4_isWithin 10 = .ok (.iconst 1, 1) := by decide +kernel
theorem dX4_isWithin_11 : decode cX4_isWithin 11 = .ok (.goto 4, 3) := by decide +kernel
theorem dX4_isWithin_14 : decode cX4_isWithin 14 = .ok (.iconst 0, 1) := by decide +kernel
theorem dX4_isWithin_15 : decode cX4_isWithin 15 = .ok (.ireturn, 1) := by decide +kernel
theorem dX4_isCell_0 : decode cX4_isCell 0 = .ok (.iload_n 0, 1) := by decide +kernel
theorem dX4_isCell_1 : decode cX4_isCell 1 = .ok (.iconst 0, 1) := by decide +kernel
theorem dX4_isCell_2 : decode cX4_isCell 2 = .ok (.iconst 4, 1) := by decide +kernel
theorem dX4_isCell_3 : decode cX4_isCell 3 = .ok (.invokestatic 227, 3) := by decide +kernel
theorem dX4_isCell_6 : decode cX4_isCell 6 = .ok (.ifCond .eq 16, 3) := by decide +kernel
theorem dX4_isCell_9 : decode cX4_isCell 9 = .ok (.iload_n 1, 1) := by decide +kernel
theorem dX4_isCell_10 : decode cX4_isCell 10 = .ok (.iconst 0, 1) := by decide +kernel
theorem dX4_isCell_11 : decode cX4_isCell 11 = .ok (.iconst 5, 1) := by decide +kernel
theorem dX4_isCell_12 : decode cX4_isCell 12 = .ok (.invokestatic 227, 3) := by decide +kernel
theorem dX4_isCell_15 : decode cX4_isCell 15 = .ok (.ifCond .eq 7, 3) := by decide +kernel
theorem dX4_isCell_18 : decode cX4_isCell 18 = .ok (.iconst 1, 1) := by decide +kernel
theorem dX4_isCell_19 : decode cX4_isCell 19 = .ok (.goto 4, 3) := by decide +kernel
theorem dX4_isCell_22 : decode cX4_isCell 22 = .ok (.iconst 0, 1) := by decide +kernel
theorem dX4_isCell_23 : decode cX4_isCell 23 = .ok (.ireturn, 1) := by decide +kernel
theorem dX4_isHourOfDay_0 : decode cX4_isHourOfDay 0 = .ok (.iload_n 0, 1) := by decide +kernel
theorem dX4_isHourOfDay_1 : decode cX4_isHourOfDay 1 = .ok (.iconst 0, 1) := by decide +kernel
theorem dX4_isHourOfDay_2 : decode cX4_isHourOfDay 2 = .ok (.bipush 23, 2) := by decide +kernel
theorem dX4_isHourOfDay_4 : decode cX4_isHourOfDay 4 = .ok (.invokestatic 227, 3) := by decide +kernel
theorem dX4_isHourOfDay_7 : decode cX4_isHourOfDay 7 = .ok (.ireturn, 1) := by decide +kernel
theorem dX4_isDirection_0 : decode cX4_isDirection 0 = .ok (.iload_n 0, 1) := by decide +kernel
theorem dX4_isDirection_1 : decode cX4_isDirection 1 = .ok (.bipush 78, 2) := by decide +kernel
theorem dX4_isDirection_3 : decode cX4_isDirection 3 = .ok (.if_icmp .eq 21, 3) := by decide +kernel
theorem dX4_isDirection_6 : decode cX4_isDirection 6 = .ok (.iload_n 0, 1) := by decide +kernel
theorem dX4_isDirection_7 : decode cX4_isDirection 7 = .ok (.bipush 69, 2) := by decide +kernel
theorem dX4_isDirection_9 : decode cX4_isDirection 9 = .ok (.if_icmp .eq 15, 3) := by decide +kernel
theorem dX4_isDirection_12 : decode cX4_isDirection 12 = .ok (.iload_n 0, 1) := by decide +kernel
theorem dX4_isDirection_13 : decode cX4_isDirection 13 = .ok (.bipush 83, 2) := by decide +kernel
theorem dX4_isDirection_15 : decode cX4_isDirection 15 = .ok (.if_icmp .eq 9, 3) := by decide +kernel
theorem dX4_isDirection_18 : decode cX4_isDirection 18 = .ok (.iload_n 0, 1) := by decide +kernel
theorem dX4_isDirection_19 : decode cX4_isDirection 19 = .ok (.bipush 87, 2) := by decide +kernel
theorem dX4_isDirection_21 : decode cX4_isDirection 21 = .ok (.if_icmp .ne 7, 3) := by decide +kernel
theorem dX4_isDirection_24 : decode cX4_isDirection 24 = .ok (.iconst 1, 1) := by decide +kernel
theorem dX4_isDirection_25 : decode cX4_isDirection 25 = .ok (.goto 4, 3) := by decide +kernel
theorem dX4_isDirection_28 : decode cX4_isDirection 28 = .ok (.iconst 0, 1) := by decide +kernel
theorem dX4_isDirection_29 : decode cX4_isDirection 29 = .ok (.ireturn, 1) := by decide +kernel
theorem dX4_isWind_0 : decode cX4_isWind 0 = .ok (.iload_n 0, 1) := by decide +kernel
theorem dX4_isWind_1 : decode cX4_isWind 1 = .ok (.invokestatic 400, 3) := by decide +kernel
theorem dX4_isWind_4 : decode cX4_isWind 4 = .ok (.ifCond .eq 17, 3) := by decide +kernel
theorem dX4_isWind_7 : decode cX4_isWind 7 = .ok (.iload_n 1, 1) := by decide +kernel
theorem dX4_isWind_8 : decode cX4_isWind 8 = .ok (.iconst 0, 1) := by decide +kernel
theorem dX4_isWind_9 : decode cX4_isWind 9 = .ok (.bipush 30, 2) := by decide +kernel
theorem dX4_isWind_11 : decode cX4_isWind 11 = .ok (.invokestatic 227, 3) := by decide +kernel
theorem dX4_isWind_14 : decode cX4_isWind 14 = .ok (.ifCond .eq 7, 3) := by decide +kernel
theorem dX4_isWind_17 : decode cX4_isWind 17 = .ok (.iconst 1, 1) := by decide +kernel
theorem dX4_isWind_18 : decode cX4_isWind 18 = .ok (.goto 4, 3) := by decide +kernel
theorem dX4_isWind_21 : decode cX4_isWind 21 = .ok (.iconst 0, 1) := by decide +kernel
theorem dX4_isWind_22 : decode cX4_isWind 22 = .ok (.ireturn, 1) := by decide +kernel
theorem dX4_factorOf_0 : decode cX4_factorOf 0 = .ok (.iload_n 0, 1) := by decide +kernel
theorem dX4_factorOf_1 : decode cX4_factorOf 1 = .ok (.iconst 3, 1) := by decide +kernel
theorem dX4_factorOf_2 : decode cX4_factorOf 2 = .ok (.if_icmp .lt 9, 3) := by decide +kernel
theorem dX4_factorOf_5 : decode cX4_factorOf 5 = .ok (.iload_n 0, 1) := by decide +kernel
theorem dX4_factorOf_6 : decode cX4_factorOf 6 = .ok (.bipush 22, 2) := by decide +kernel
theorem dX4_factorOf_8 : decode cX4_factorOf 8 = .ok (.if_icmp .le 5, 3) := by decide +kernel
theorem dX4_factorOf_11 : decode cX4_factorOf 11 = .ok (.iconst 0, 1) := by decide +kernel
theorem dX4_factorOf_12 : decode cX4_factorOf 12 = .ok (.ireturn, 1) := by decide +kernel
theorem dX4_factorOf_13 : decode cX4_factorOf 13 = .ok (.iload_n 0, 1) := by decide +kernel
theorem dX4_factorOf_14 : decode cX4_factorOf 14 = .ok (.iconst 4, 1) := by decide +kernel
theorem dX4_factorOf_15 : decode cX4_factorOf 15 = .ok (.if_icmp .gt 5, 3) := by decide +kernel
theorem dX4_factorOf_18 : decode cX4_factorOf 18 = .ok (.iconst 2, 1) := by decide +kernel
theorem dX4_factorOf_19 : decode cX4_factorOf 19 = .ok (.ireturn, 1) := by decide +kernel
theorem dX4_factorOf_20 : decode cX4_factorOf 20 = .ok (.iload_n 0, 1) := by decide +kernel
theorem dX4_factorOf_21 : decode cX4_factorOf 21 = .ok (.bipush 7, 2) := by decide +kernel
theorem dX4_factorOf_23 : decode cX4_factorOf 23 = .ok (.if_icmp .gt 5, 3) := by decide +kernel
theorem dX4_factorOf_26 : decode cX4_factorOf 26 = .ok (.iconst 5, 1) := by decide +kernel
theorem dX4_factorOf_27 : decode cX4_factorOf 27 = .ok (.ireturn, 1) := by decide +kernel
theorem dX4_factorOf_28 : decode cX4_factorOf 28 = .ok (.iload_n 0, 1) := by decide +kernel
theorem dX4_factorOf_29 : decode cX4_factorOf 29 = .ok (.bipush 11, 2) := by decide +kernel
theorem dX4_factorOf_31 : decode cX4_factorOf 31 = .ok (.if_icmp .gt 8, 3) := by decide +kernel
theorem dX4_factorOf_34 : decode cX4_factorOf 34 = .ok (.bipush 8, 2) := by decide +kernel
theorem dX4_factorOf_36 : decode cX4_factorOf 36 = .ok (.goto 5, 3) := by decide +kernel
theorem dX4_factorOf_39 : decode cX4_factorOf 39 = .ok (.bipush 10, 2) := by decide +kernel
theorem dX4_factorOf_41 : decode cX4_factorOf 41 = .ok (.ireturn, 1) := by decide +kernel
theorem dX4_valueAt_0 : decode cX4_valueAt 0 = .ok (.iload_n 1, 1) := by decide +kernel
theorem dX4_valueAt_1 : decode cX4_valueAt 1 = .ok (.ifCond .lt 15, 3) := by decide +kernel
theorem dX4_valueAt_4 : decode cX4_valueAt 4 = .ok (.iload_n 1, 1) := by decide +kernel
theorem dX4_valueAt_5 : decode cX4_valueAt 5 = .ok (.aload_n 0, 1) := by decide +kernel
theorem dX4_valueAt_6 : decode cX4_valueAt 6 = .ok (.arraylength, 1) := by decide +kernel
theorem dX4_valueAt_7 : decode cX4_valueAt 7 = .ok (.if_icmp .ge 9, 3) := by decide +kernel
theorem dX4_valueAt_10 : decode cX4_valueAt 10 = .ok (.aload_n 0, 1) := by decide +kernel
theorem dX4_valueAt_11 : decode cX4_valueAt 11 = .ok (.iload_n 1, 1) := by decide +kernel
theorem dX4_valueAt_12 : decode cX4_valueAt 12 = .ok (.iaload, 1) := by decide +kernel
theorem dX4_valueAt_13 : decode cX4_valueAt 13 = .ok (.goto 4, 3) := by decide +kernel
theorem dX4_valueAt_16 : decode cX4_valueAt 16 = .ok (.iconst 0, 1) := by decide +kernel
theorem dX4_valueAt_17 : decode cX4_valueAt 17 = .ok (.ireturn, 1) := by decide +kernel
theorem dX4_setValue_0 : decode cX4_setValue 0 = .ok (.iload_n 1, 1) := by decide +kernel
theorem dX4_setValue_1 : decode cX4_setValue 1 = .ok (.ifCond .lt 13, 3) := by decide +kernel
theorem dX4_setValue_4 : decode cX4_setValue 4 = .ok (.iload_n 1, 1) := by decide +kernel
theorem dX4_setValue_5 : decode cX4_setValue 5 = .ok (.aload_n 0, 1) := by decide +kernel
theorem dX4_setValue_6 : decode cX4_setValue 6 = .ok (.arraylength, 1) := by decide +kernel
theorem dX4_setValue_7 : decode cX4_setValue 7 = .ok (.if_icmp .ge 7, 3) := by decide +kernel
theorem dX4_setValue_10 : decode cX4_setValue 10 = .ok (.aload_n 0, 1) := by decide +kernel
theorem dX4_setValue_11 : decode cX4_setValue 11 = .ok (.iload_n 1, 1) := by decide +kernel
theorem dX4_setValue_12 : decode cX4_setValue 12 = .ok (.iload_n 2, 1) := by decide +kernel
theorem dX4_setValue_13 : decode cX4_setValue 13 = .ok (.iastore, 1) := by decide +kernel
theorem dX4_setValue_14 : decode cX4_setValue 14 = .ok (.return_, 1) := by decide +kernel
