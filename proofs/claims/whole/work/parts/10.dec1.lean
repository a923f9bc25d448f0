/-! decode rows (by program) -/
theorem dx_X0_init_0 : decode (go_cc mx_X0_init) 0 = .ok (.aload_n 0, 1) := by decide +kernel
theorem dx_X0_init_1 : decode (go_cc mx_X0_init) 1 = .ok (.invokespecial 3, 3) := by decide +kernel
theorem dx_X0_init_4 : decode (go_cc mx_X0_init) 4 = .ok (.aload_n 0, 1) := by decide +kernel
theorem dx_X0_init_5 : decode (go_cc mx_X0_init) 5 = .ok (.bipush 64, 2) := by decide +kernel
theorem dx_X0_init_7 : decode (go_cc mx_X0_init) 7 = .ok (.newarray .int, 2) := by decide +kernel
theorem dx_X0_init_9 : decode (go_cc mx_X0_init) 9 = .ok (.putfield 9, 3) := by decide +kernel
theorem dx_X0_init_12 : decode (go_cc mx_X0_init) 12 = .ok (.aload_n 0, 1) := by decide +kernel
theorem dx_X0_init_13 : decode (go_cc mx_X0_init) 13 = .ok (.bipush 16, 2) := by decide +kernel
theorem dx_X0_init_15 : decode (go_cc mx_X0_init) 15 = .ok (.newarray .int, 2) := by decide +kernel
theorem dx_X0_init_17 : decode (go_cc mx_X0_init) 17 = .ok (.putfield 15, 3) := by decide +kernel
theorem dx_X0_init_20 : decode (go_cc mx_X0_init) 20 = .ok (.aload_n 0, 1) := by decide +kernel
theorem dx_X0_init_21 : decode (go_cc mx_X0_init) 21 = .ok (.bipush 48, 2) := by decide +kernel
theorem dx_X0_init_23 : decode (go_cc mx_X0_init) 23 = .ok (.newarray .int, 2) := by decide +kernel
theorem dx_X0_init_25 : decode (go_cc mx_X0_init) 25 = .ok (.putfield 18, 3) := by decide +kernel
theorem dx_X0_init_28 : decode (go_cc mx_X0_init) 28 = .ok (.aload_n 0, 1) := by decide +kernel
theorem dx_X0_init_29 : decode (go_cc mx_X0_init) 29 = .ok (.bipush 48, 2) := by decide +kernel
theorem dx_X0_init_31 : decode (go_cc mx_X0_init) 31 = .ok (.newarray .int, 2) := by decide +kernel
theorem dx_X0_init_33 : decode (go_cc mx_X0_init) 33 = .ok (.putfield 21, 3) := by decide +kernel
theorem dx_X0_init_36 : decode (go_cc mx_X0_init) 36 = .ok (.aload_n 0, 1) := by decide +kernel
theorem dx_X0_init_37 : decode (go_cc mx_X0_init) 37 = .ok (.bipush 8, 2) := by decide +kernel
theorem dx_X0_init_39 : decode (go_cc mx_X0_init) 39 = .ok (.newarray .int, 2) := by decide +kernel
theorem dx_X0_init_41 : decode (go_cc mx_X0_init) 41 = .ok (.putfield 24, 3) := by decide +kernel
theorem dx_X0_init_44 : decode (go_cc mx_X0_init) 44 = .ok (.aload_n 0, 1) := by decide +kernel
theorem dx_X0_init_45 : decode (go_cc mx_X0_init) 45 = .ok (.bipush 8, 2) := by decide +kernel
theorem dx_X0_init_47 : decode (go_cc mx_X0_init) 47 = .ok (.newarray .int, 2) := by decide +kernel
theorem dx_X0_init_49 : decode (go_cc mx_X0_init) 49 = .ok (.putfield 27, 3) := by decide +kernel
theorem dx_X0_init_52 : decode (go_cc mx_X0_init) 52 = .ok (.aload_n 0, 1) := by decide +kernel
theorem dx_X0_init_53 : decode (go_cc mx_X0_init) 53 = .ok (.bipush 8, 2) := by decide +kernel
theorem dx_X0_init_55 : decode (go_cc mx_X0_init) 55 = .ok (.newarray .int, 2) := by decide +kernel
theorem dx_X0_init_57 : decode (go_cc mx_X0_init) 57 = .ok (.putfield 30, 3) := by decide +kernel
theorem dx_X0_init_60 : decode (go_cc mx_X0_init) 60 = .ok (.aload_n 0, 1) := by decide +kernel
theorem dx_X0_init_61 : decode (go_cc mx_X0_init) 61 = .ok (.bipush 62, 2) := by decide +kernel
theorem dx_X0_init_63 : decode (go_cc mx_X0_init) 63 = .ok (.newarray .int, 2) := by decide +kernel
theorem dx_X0_init_65 : decode (go_cc mx_X0_init) 65 = .ok (.putfield 33, 3) := by decide +kernel
theorem dx_X0_init_68 : decode (go_cc mx_X0_init) 68 = .ok (.aload_n 0, 1) := by decide +kernel
theorem dx_X0_init_69 : decode (go_cc mx_X0_init) 69 = .ok (.bipush 64, 2) := by decide +kernel
theorem dx_X0_init_71 : decode (go_cc mx_X0_init) 71 = .ok (.newarray .int, 2) := by decide +kernel
theorem dx_X0_init_73 : decode (go_cc mx_X0_init) 73 = .ok (.putfield 36, 3) := by decide +kernel
theorem dx_X0_init_76 : decode (go_cc mx_X0_init) 76 = .ok (.aload_n 0, 1) := by decide +kernel
theorem dx_X0_init_77 : decode (go_cc mx_X0_init) 77 = .ok (.bipush 8, 2) := by decide +kernel
theorem dx_X0_init_79 : decode (go_cc mx_X0_init) 79 = .ok (.newarray .int, 2) := by decide +kernel
theorem dx_X0_init_81 : decode (go_cc mx_X0_init) 81 = .ok (.putfield 39, 3) := by decide +kernel
theorem dx_X0_init_84 : decode (go_cc mx_X0_init) 84 = .ok (.return_, 1) := by decide +kernel
theorem dx_X0_build_0 : decode (go_cc mx_X0_build) 0 = .ok (.aload_n 0, 1) := by decide +kernel
theorem dx_X0_build_1 : decode (go_cc mx_X0_build) 1 = .ok (.iconst 0, 1) := by decide +kernel
theorem dx_X0_build_2 : decode (go_cc mx_X0_build) 2 = .ok (.putfield 42, 3) := by decide +kernel
theorem dx_X0_build_5 : decode (go_cc mx_X0_build) 5 = .ok (.aload_n 0, 1) := by decide +kernel
theorem dx_X0_build_6 : decode (go_cc mx_X0_build) 6 = .ok (.iconst 0, 1) := by decide +kernel
theorem dx_X0_build_7 : decode (go_cc mx_X0_build) 7 = .ok (.putfield 46, 3) := by decide +kernel
theorem dx_X0_build_10 : decode (go_cc mx_X0_build) 10 = .ok (.aload_n 0, 1) := by decide +kernel
theorem dx_X0_build_11 : decode (go_cc mx_X0_build) 11 = .ok (.iconst 0, 1) := by decide +kernel
theorem dx_X0_build_12 : decode (go_cc mx_X0_build) 12 = .ok (.putfield 49, 3) := by decide +kernel
theorem dx_X0_build_15 : decode (go_cc mx_X0_build) 15 = .ok (.iconst 0, 1) := by decide +kernel
theorem dx_X0_build_16 : decode (go_cc mx_X0_build) 16 = .ok (.istore_n 3, 1) := by decide +kernel
theorem dx_X0_build_17 : decode (go_cc mx_X0_build) 17 = .ok (.iload_n 3, 1) := by decide +kernel
theorem dx_X0_build_18 : decode (go_cc mx_X0_build) 18 = .ok (.bipush 8, 2) := by decide +kernel
theorem dx_X0_build_20 : decode (go_cc mx_X0_build) 20 = .ok (.if_icmp .ge 27, 3) := by decide +kernel
theorem dx_X0_build_23 : decode (go_cc mx_X0_build) 23 = .ok (.aload_n 0, 1) := by decide +kernel
theorem dx_X0_build_24 : decode (go_cc mx_X0_build) 24 = .ok (.getfield 24, 3) := by decide +kernel
theorem dx_X0_build_27 : decode (go_cc mx_X0_build) 27 = .ok (.iload_n 3, 1) := by decide +kernel
theorem dx_X0_build_28 : decode (go_cc mx_X0_build) 28 = .ok (.iconst 0, 1) := by decide +kernel
theorem dx_X0_build_29 : decode (go_cc mx_X0_build) 29 = .ok (.invokestatic 52, 3) := by decide +kernel
theorem dx_X0_build_32 : decode (go_cc mx_X0_build) 32 = .ok (.aload_n 0, 1) := by decide +kernel
theorem dx_X0_build_33 : decode (go_cc mx_X0_build) 33 = .ok (.getfield 30, 3) := by decide +kernel
theorem dx_X0_build_36 : decode (go_cc mx_X0_build) 36 = .ok (.iload_n 3, 1) := by decide +kernel
theorem dx_X0_build_37 : decode (go_cc mx_X0_build) 37 = .ok (.iconst 0, 1) := by decide +kernel
theorem dx_X0_build_38 : decode (go_cc mx_X0_build) 38 = .ok (.invokestatic 52, 3) := by decide +kernel
theorem dx_X0_build_41 : decode (go_cc mx_X0_build) 41 = .ok (.iinc 3 1, 3) := by decide +kernel
theorem dx_X0_build_44 : decode (go_cc mx_X0_build) 44 = .ok (.goto (-27), 3) := by decide +kernel
theorem dx_X0_build_47 : decode (go_cc mx_X0_build) 47 = .ok (.iconst 0, 1) := by decide +kernel
theorem dx_X0_build_48 : decode (go_cc mx_X0_build) 48 = .ok (.istore_n 3, 1) := by decide +kernel
theorem dx_X0_build_49 : decode (go_cc mx_X0_build) 49 = .ok (.iload_n 3, 1) := by decide +kernel
theorem dx_X0_build_50 : decode (go_cc mx_X0_build) 50 = .ok (.bipush 16, 2) := by decide +kernel
theorem dx_X0_build_52 : decode (go_cc mx_X0_build) 52 = .ok (.if_icmp .ge 33, 3) := by decide +kernel
theorem dx_X0_build_55 : decode (go_cc mx_X0_build) 55 = .ok (.aload_n 1, 1) := by decide +kernel
theorem dx_X0_build_56 : decode (go_cc mx_X0_build) 56 = .ok (.iload_n 3, 1) := by decide +kernel
theorem dx_X0_build_57 : decode (go_cc mx_X0_build) 57 = .ok (.invokevirtual 56, 3) := by decide +kernel
theorem dx_X0_build_60 : decode (go_cc mx_X0_build) 60 = .ok (.istore 4, 2) := by decide +kernel
theorem dx_X0_build_62 : decode (go_cc mx_X0_build) 62 = .ok (.iload 4, 2) := by decide +kernel
theorem dx_X0_build_64 : decode (go_cc mx_X0_build) 64 = .ok (.ifCond .eq 15, 3) := by decide +kernel
theorem dx_X0_build_67 : decode (go_cc mx_X0_build) 67 = .ok (.iload_n 3, 1) := by decide +kernel
theorem dx_X0_build_68 : decode (go_cc mx_X0_build) 68 = .ok (.iload_n 2, 1) := by decide +kernel
theorem dx_X0_build_69 : decode (go_cc mx_X0_build) 69 = .ok (.if_icmp .eq 10, 3) := by decide +kernel
theorem dx_X0_build_72 : decode (go_cc mx_X0_build) 72 = .ok (.aload_n 0, 1) := by decide +kernel
theorem dx_X0_build_73 : decode (go_cc mx_X0_build) 73 = .ok (.iload_n 3, 1) := by decide +kernel
theorem dx_X0_build_74 : decode (go_cc mx_X0_build) 74 = .ok (.iload 4, 2) := by decide +kernel
theorem dx_X0_build_76 : decode (go_cc mx_X0_build) 76 = .ok (.invokevirtual 62, 3) := by decide +kernel
theorem dx_X0_build_79 : decode (go_cc mx_X0_build) 79 = .ok (.iinc 3 1, 3) := by decide +kernel
theorem dx_X0_build_82 : decode (go_cc mx_X0_build) 82 = .ok (.goto (-33), 3) := by decide +kernel
theorem dx_X0_build_85 : decode (go_cc mx_X0_build) 85 = .ok (.aload_n 0, 1) := by decide +kernel
theorem dx_X0_build_86 : decode (go_cc mx_X0_build) 86 = .ok (.invokevirtual 66, 3) := by decide +kernel
theorem dx_X0_build_89 : decode (go_cc mx_X0_build) 89 = .ok (.return_, 1) := by decide +kernel
theorem dx_X0_addRule_0 : decode (go_cc mx_X0_addRule) 0 = .ok (.iload_n 2, 1) := by decide +kernel
theorem dx_X0_addRule_1 : decode (go_cc mx_X0_addRule) 1 = .ok (.invokestatic 69, 3) := by decide +kernel
theorem dx_X0_addRule_4 : decode (go_cc mx_X0_addRule) 4 = .ok (.istore_n 3, 1) := by decide +kernel
theorem dx_X0_addRule_5 : decode (go_cc mx_X0_addRule) 5 = .ok (.iload_n 2, 1) := by decide +kernel
theorem dx_X0_addRule_6 : decode (go_cc mx_X0_addRule) 6 = .ok (.invokestatic 72, 3) := by decide +kernel
theorem dx_X0_addRule_9 : decode (go_cc mx_X0_addRule) 9 = .ok (.istore 4, 2) := by decide +kernel
theorem dx_X0_addRule_11 : decode (go_cc mx_X0_addRule) 11 = .ok (.iconst 0, 1) := by decide +kernel
theorem dx_X0_addRule_12 : decode (go_cc mx_X0_addRule) 12 = .ok (.istore 5, 2) := by decide +kernel
theorem dx_X0_addRule_14 : decode (go_cc mx_X0_addRule) 14 = .ok (.iload 5, 2) := by decide +kernel
theorem dx_X0_addRule_16 : decode (go_cc mx_X0_addRule) 16 = .ok (.iload_n 3, 1) := by decide +kernel
theorem dx_X0_addRule_17 : decode (go_cc mx_X0_addRule) 17 = .ok (.if_icmp .ge 40, 3) := by decide +kernel
theorem dx_X0_addRule_20 : decode (go_cc mx_X0_addRule) 20 = .ok (.aload_n 0, 1) := by decide +kernel
theorem dx_X0_addRule_21 : decode (go_cc mx_X0_addRule) 21 = .ok (.getfield 30, 3) := by decide +kernel
theorem dx_X0_addRule_24 : decode (go_cc mx_X0_addRule) 24 = .ok (.iload 4, 2) := by decide +kernel
theorem dx_X0_addRule_26 : decode (go_cc mx_X0_addRule) 26 = .ok (.aload_n 0, 1) := by decide +kernel
theorem dx_X0_addRule_27 : decode (go_cc mx_X0_addRule) 27 = .ok (.getfield 30, 3) := by decide +kernel
theorem dx_X0_addRule_30 : decode (go_cc mx_X0_addRule) 30 = .ok (.iload 4, 2) := by decide +kernel
theorem dx_X0_addRule_32 : decode (go_cc mx_X0_addRule) 32 = .ok (.invokestatic 75, 3) := by decide +kernel
theorem dx_X0_addRule_35 : decode (go_cc mx_X0_addRule) 35 = .ok (.iconst 1, 1) := by decide +kernel
theorem dx_X0_addRule_36 : decode (go_cc mx_X0_addRule) 36 = .ok (.iload_n 2, 1) := by decide +kernel
theorem dx_X0_addRule_37 : decode (go_cc mx_X0_addRule) 37 = .ok (.iload 5, 2) := by decide +kernel
theorem dx_X0_addRule_39 : decode (go_cc mx_X0_addRule) 39 = .ok (.invokestatic 79, 3) := by decide +kernel
theorem dx_X0_addRule_42 : decode (go_cc mx_X0_addRule) 42 = .ok (.ishl, 1) := by decide +kernel
theorem dx_X0_addRule_43 : decode (go_cc mx_X0_addRule) 43 = .ok (.sipush 255, 3) := by decide +kernel
theorem dx_X0_addRule_46 : decode (go_cc mx_X0_addRule) 46 = .ok (.iand, 1) := by decide +kernel
theorem dx_X0_addRule_47 : decode (go_cc mx_X0_addRule) 47 = .ok (.ior, 1) := by decide +kernel
theorem dx_X0_addRule_48 : decode (go_cc mx_X0_addRule) 48 = .ok (.invokestatic 52, 3) := by decide +kernel
theorem dx_X0_addRule_51 : decode (go_cc mx_X0_addRule) 51 = .ok (.iinc 5 1, 3) := by decide +kernel
theorem dx_X0_addRule_54 : decode (go_cc mx_X0_addRule) 54 = .ok (.goto (-40), 3) := by decide +kernel
theorem dx_X0_addRule_57 : decode (go_cc mx_X0_addRule) 57 = .ok (.iload_n 3, 1) := by decide +kernel
theorem dx_X0_addRule_58 : decode (go_cc mx_X0_addRule) 58 = .ok (.iconst 1, 1) := by decide +kernel
theorem dx_X0_addRule_59 : decode (go_cc mx_X0_addRule) 59 = .ok (.if_icmp .ne 40, 3) := by decide +kernel
theorem dx_X0_addRule_62 : decode (go_cc mx_X0_addRule) 62 = .ok (.aload_n 0, 1) := by decide +kernel
theorem dx_X0_addRule_63 : decode (go_cc mx_X0_addRule) 63 = .ok (.dup, 1) := by decide +kernel
theorem dx_X0_addRule_64 : decode (go_cc mx_X0_addRule) 64 = .ok (.getfield 49, 3) := by decide +kernel
theorem dx_X0_addRule_67 : decode (go_cc mx_X0_addRule) 67 = .ok (.iconst 1, 1) := by decide +kernel
theorem dx_X0_addRule_68 : decode (go_cc mx_X0_addRule) 68 = .ok (.iadd, 1) := by decide +kernel
theorem dx_X0_addRule_69 : decode (go_cc mx_X0_addRule) 69 = .ok (.putfield 49, 3) := by decide +kernel
theorem dx_X0_addRule_72 : decode (go_cc mx_X0_addRule) 72 = .ok (.aload_n 0, 1) := by decide +kernel
theorem dx_X0_addRule_73 : decode (go_cc mx_X0_addRule) 73 = .ok (.getfield 24, 3) := by decide +kernel
theorem dx_X0_addRule_76 : decode (go_cc mx_X0_addRule) 76 = .ok (.iload 4, 2) := by decide +kernel
theorem dx_X0_addRule_78 : decode (go_cc mx_X0_addRule) 78 = .ok (.aload_n 0, 1) := by decide +kernel
theorem dx_X0_addRule_79 : decode (go_cc mx_X0_addRule) 79 = .ok (.getfield 24, 3) := by decide +kernel
theorem dx_X0_addRule_82 : decode (go_cc mx_X0_addRule) 82 = .ok (.iload 4, 2) := by decide +kernel
theorem dx_X0_addRule_84 : decode (go_cc mx_X0_addRule) 84 = .ok (.invokestatic 75, 3) := by decide +kernel
theorem dx_X0_addRule_87 : decode (go_cc mx_X0_addRule) 87 = .ok (.iconst 1, 1) := by decide +kernel
theorem dx_X0_addRule_88 : decode (go_cc mx_X0_addRule) 88 = .ok (.iload_n 2, 1) := by decide +kernel
theorem dx_X0_addRule_89 : decode (go_cc mx_X0_addRule) 89 = .ok (.iconst 0, 1) := by decide +kernel
theorem dx_X0_addRule_90 : decode (go_cc mx_X0_addRule) 90 = .ok (.invokestatic 79, 3) := by decide +kernel
theorem dx_X0_addRule_93 : decode (go_cc mx_X0_addRule) 93 = .ok (.ishl, 1) := by decide +kernel
theorem dx_X0_addRule_94 : decode (go_cc mx_X0_addRule) 94 = .ok (.ior, 1) := by decide +kernel
theorem dx_X0_addRule_95 : decode (go_cc mx_X0_addRule) 95 = .ok (.invokestatic 52, 3) := by decide +kernel
theorem dx_X0_addRule_98 : decode (go_cc mx_X0_addRule) 98 = .ok (.return_, 1) := by decide +kernel
theorem dx_X0_addRule_99 : decode (go_cc mx_X0_addRule) 99 = .ok (.aload_n 0, 1) := by decide +kernel
theorem dx_X0_addRule_100 : decode (go_cc mx_X0_addRule) 100 = .ok (.getfield 15, 3) := by decide +kernel
theorem dx_X0_addRule_103 : decode (go_cc mx_X0_addRule) 103 = .ok (.iload_n 1, 1) := by decide +kernel
theorem dx_X0_addRule_104 : decode (go_cc mx_X0_addRule) 104 = .ok (.aload_n 0, 1) := by decide +kernel
theorem dx_X0_addRule_105 : decode (go_cc mx_X0_addRule) 105 = .ok (.getfield 42, 3) := by decide +kernel
theorem dx_X0_addRule_108 : decode (go_cc mx_X0_addRule) 108 = .ok (.invokestatic 52, 3) := by decide +kernel
theorem dx_X0_addRule_111 : decode (go_cc mx_X0_addRule) 111 = .ok (.iload 4, 2) := by decide +kernel
theorem dx_X0_addRule_113 : decode (go_cc mx_X0_addRule) 113 = .ok (.istore 5, 2) := by decide +kernel
theorem dx_X0_addRule_115 : decode (go_cc mx_X0_addRule) 115 = .ok (.iconst 0, 1) := by decide +kernel
theorem dx_X0_addRule_116 : decode (go_cc mx_X0_addRule) 116 = .ok (.istore 6, 2) := by decide +kernel
theorem dx_X0_addRule_118 : decode (go_cc mx_X0_addRule) 118 = .ok (.iload 6, 2) := by decide +kernel
theorem dx_X0_addRule_120 : decode (go_cc mx_X0_addRule) 120 = .ok (.iconst 2, 1) := by decide +kernel
theorem dx_X0_addRule_121 : decode (go_cc mx_X0_addRule) 121 = .ok (.iadd, 1) := by decide +kernel
theorem dx_X0_addRule_122 : decode (go_cc mx_X0_addRule) 122 = .ok (.iload_n 3, 1) := by decide +kernel
theorem dx_X0_addRule_123 : decode (go_cc mx_X0_addRule) 123 = .ok (.if_icmp .ge 74, 3) := by decide +kernel
theorem dx_X0_addRule_126 : decode (go_cc mx_X0_addRule) 126 = .ok (.bipush 14, 2) := by decide +kernel
theorem dx_X0_addRule_128 : decode (go_cc mx_X0_addRule) 128 = .ok (.aload_n 0, 1) := by decide +kernel
theorem dx_X0_addRule_129 : decode (go_cc mx_X0_addRule) 129 = .ok (.getfield 46, 3) := by decide +kernel
theorem dx_X0_addRule_132 : decode (go_cc mx_X0_addRule) 132 = .ok (.iadd, 1) := by decide +kernel
theorem dx_X0_addRule_133 : decode (go_cc mx_X0_addRule) 133 = .ok (.istore 7, 2) := by decide +kernel
theorem dx_X0_addRule_135 : decode (go_cc mx_X0_addRule) 135 = .ok (.aload_n 0, 1) := by decide +kernel
theorem dx_X0_addRule_136 : decode (go_cc mx_X0_addRule) 136 = .ok (.getfield 18, 3) := by decide +kernel
theorem dx_X0_addRule_139 : decode (go_cc mx_X0_addRule) 139 = .ok (.aload_n 0, 1) := by decide +kernel
theorem dx_X0_addRule_140 : decode (go_cc mx_X0_addRule) 140 = .ok (.getfield 46, 3) := by decide +kernel
theorem dx_X0_addRule_143 : decode (go_cc mx_X0_addRule) 143 = .ok (.iload_n 1, 1) := by decide +kernel
theorem dx_X0_addRule_144 : decode (go_cc mx_X0_addRule) 144 = .ok (.invokestatic 52, 3) := by decide +kernel
theorem dx_X0_addRule_147 : decode (go_cc mx_X0_addRule) 147 = .ok (.aload_n 0, 1) := by decide +kernel
theorem dx_X0_addRule_148 : decode (go_cc mx_X0_addRule) 148 = .ok (.getfield 21, 3) := by decide +kernel
theorem dx_X0_addRule_151 : decode (go_cc mx_X0_addRule) 151 = .ok (.aload_n 0, 1) := by decide +kernel
theorem dx_X0_addRule_152 : decode (go_cc mx_X0_addRule) 152 = .ok (.getfield 46, 3) := by decide +kernel
theorem dx_X0_addRule_155 : decode (go_cc mx_X0_addRule) 155 = .ok (.iload 6, 2) := by decide +kernel
theorem dx_X0_addRule_157 : decode (go_cc mx_X0_addRule) 157 = .ok (.iconst 1, 1) := by decide +kernel
theorem dx_X0_addRule_158 : decode (go_cc mx_X0_addRule) 158 = .ok (.iadd, 1) := by decide +kernel
theorem dx_X0_addRule_159 : decode (go_cc mx_X0_addRule) 159 = .ok (.invokestatic 52, 3) := by decide +kernel
theorem dx_X0_addRule_162 : decode (go_cc mx_X0_addRule) 162 = .ok (.aload_n 0, 1) := by decide +kernel
theorem dx_X0_addRule_163 : decode (go_cc mx_X0_addRule) 163 = .ok (.dup, 1) := by decide +kernel
theorem dx_X0_addRule_164 : decode (go_cc mx_X0_addRule) 164 = .ok (.getfield 46, 3) := by decide +kernel
theorem dx_X0_addRule_167 : decode (go_cc mx_X0_addRule) 167 = .ok (.iconst 1, 1) := by decide +kernel
theorem dx_X0_addRule_168 : decode (go_cc mx_X0_addRule) 168 = .ok (.iadd, 1) := by decide +kernel
theorem dx_X0_addRule_169 : decode (go_cc mx_X0_addRule) 169 = .ok (.putfield 46, 3) := by decide +kernel
theorem dx_X0_addRule_172 : decode (go_cc mx_X0_addRule) 172 = .ok (.aload_n 0, 1) := by decide +kernel
theorem dx_X0_addRule_173 : decode (go_cc mx_X0_addRule) 173 = .ok (.iload 5, 2) := by decide +kernel
theorem dx_X0_addRule_175 : decode (go_cc mx_X0_addRule) 175 = .ok (.iload_n 2, 1) := by decide +kernel
theorem dx_X0_addRule_176 : decode (go_cc mx_X0_addRule) 176 = .ok (.iload 6, 2) := by decide +kernel
theorem dx_X0_addRule_178 : decode (go_cc mx_X0_addRule) 178 = .ok (.invokestatic 79, 3) := by decide +kernel
theorem dx_X0_addRule_181 : decode (go_cc mx_X0_addRule) 181 = .ok (.iload 7, 2) := by decide +kernel
theorem dx_X0_addRule_183 : decode (go_cc mx_X0_addRule) 183 = .ok (.iload_n 1, 1) := by decide +kernel
theorem dx_X0_addRule_184 : decode (go_cc mx_X0_addRule) 184 = .ok (.invokevirtual 83, 3) := by decide +kernel
theorem dx_X0_addRule_187 : decode (go_cc mx_X0_addRule) 187 = .ok (.iload 7, 2) := by decide +kernel
theorem dx_X0_addRule_189 : decode (go_cc mx_X0_addRule) 189 = .ok (.istore 5, 2) := by decide +kernel
theorem dx_X0_addRule_191 : decode (go_cc mx_X0_addRule) 191 = .ok (.iinc 6 1, 3) := by decide +kernel
theorem dx_X0_addRule_194 : decode (go_cc mx_X0_addRule) 194 = .ok (.goto (-76), 3) := by decide +kernel
theorem dx_X0_addRule_197 : decode (go_cc mx_X0_addRule) 197 = .ok (.aload_n 0, 1) := by decide +kernel
theorem dx_X0_addRule_198 : decode (go_cc mx_X0_addRule) 198 = .ok (.iload 5, 2) := by decide +kernel
theorem dx_X0_addRule_200 : decode (go_cc mx_X0_addRule) 200 = .ok (.iload_n 2, 1) := by decide +kernel
theorem dx_X0_addRule_201 : decode (go_cc mx_X0_addRule) 201 = .ok (.iload_n 3, 1) := by decide +kernel
theorem dx_X0_addRule_202 : decode (go_cc mx_X0_addRule) 202 = .ok (.iconst 2, 1) := by decide +kernel
theorem dx_X0_addRule_203 : decode (go_cc mx_X0_addRule) 203 = .ok (.isub, 1) := by decide +kernel
theorem dx_X0_addRule_204 : decode (go_cc mx_X0_addRule) 204 = .ok (.invokestatic 79, 3) := by decide +kernel
theorem dx_X0_addRule_207 : decode (go_cc mx_X0_addRule) 207 = .ok (.iload_n 2, 1) := by decide +kernel
theorem dx_X0_addRule_208 : decode (go_cc mx_X0_addRule) 208 = .ok (.iload_n 3, 1) := by decide +kernel
theorem dx_X0_addRule_209 : decode (go_cc mx_X0_addRule) 209 = .ok (.iconst 1, 1) := by decide +kernel
theorem dx_X0_addRule_210 : decode (go_cc mx_X0_addRule) 210 = .ok (.isub, 1) := by decide +kernel
theorem dx_X0_addRule_211 : decode (go_cc mx_X0_addRule) 211 = .ok (.invokestatic 79, 3) := by decide +kernel
theorem dx_X0_addRule_214 : decode (go_cc mx_X0_addRule) 214 = .ok (.iload_n 1, 1) := by decide +kernel
theorem dx_X0_addRule_215 : decode (go_cc mx_X0_addRule) 215 = .ok (.invokevirtual 83, 3) := by decide +kernel
theorem dx_X0_addRule_218 : decode (go_cc mx_X0_addRule) 218 = .ok (.return_, 1) := by decide +kernel
theorem dx_X0_addPair_0 : decode (go_cc mx_X0_addPair) 0 = .ok (.aload_n 0, 1) := by decide +kernel
theorem dx_X0_addPair_1 : decode (go_cc mx_X0_addPair) 1 = .ok (.getfield 9, 3) := by decide +kernel
theorem dx_X0_addPair_4 : decode (go_cc mx_X0_addPair) 4 = .ok (.aload_n 0, 1) := by decide +kernel
theorem dx_X0_addPair_5 : decode (go_cc mx_X0_addPair) 5 = .ok (.getfield 42, 3) := by decide +kernel
theorem dx_X0_addPair_8 : decode (go_cc mx_X0_addPair) 8 = .ok (.iload_n 1, 1) := by decide +kernel
theorem dx_X0_addPair_9 : decode (go_cc mx_X0_addPair) 9 = .ok (.iload_n 2, 1) := by decide +kernel
theorem dx_X0_addPair_10 : decode (go_cc mx_X0_addPair) 10 = .ok (.bipush 6, 2) := by decide +kernel
theorem dx_X0_addPair_12 : decode (go_cc mx_X0_addPair) 12 = .ok (.ishl, 1) := by decide +kernel
theorem dx_X0_addPair_13 : decode (go_cc mx_X0_addPair) 13 = .ok (.ior, 1) := by decide +kernel
theorem dx_X0_addPair_14 : decode (go_cc mx_X0_addPair) 14 = .ok (.iload_n 3, 1) := by decide +kernel
theorem dx_X0_addPair_15 : decode (go_cc mx_X0_addPair) 15 = .ok (.bipush 12, 2) := by decide +kernel
theorem dx_X0_addPair_17 : decode (go_cc mx_X0_addPair) 17 = .ok (.ishl, 1) := by decide +kernel
theorem dx_X0_addPair_18 : decode (go_cc mx_X0_addPair) 18 = .ok (.ior, 1) := by decide +kernel
theorem dx_X0_addPair_19 : decode (go_cc mx_X0_addPair) 19 = .ok (.iload 4, 2) := by decide +kernel
theorem dx_X0_addPair_21 : decode (go_cc mx_X0_addPair) 21 = .ok (.bipush 18, 2) := by decide +kernel
theorem dx_X0_addPair_23 : decode (go_cc mx_X0_addPair) 23 = .ok (.ishl, 1) := by decide +kernel
theorem dx_X0_addPair_24 : decode (go_cc mx_X0_addPair) 24 = .ok (.ior, 1) := by decide +kernel
theorem dx_X0_addPair_25 : decode (go_cc mx_X0_addPair) 25 = .ok (.invokestatic 52, 3) := by decide +kernel
theorem dx_X0_addPair_28 : decode (go_cc mx_X0_addPair) 28 = .ok (.aload_n 0, 1) := by decide +kernel
theorem dx_X0_addPair_29 : decode (go_cc mx_X0_addPair) 29 = .ok (.dup, 1) := by decide +kernel
theorem dx_X0_addPair_30 : decode (go_cc mx_X0_addPair) 30 = .ok (.getfield 42, 3) := by decide +kernel
theorem dx_X0_addPair_33 : decode (go_cc mx_X0_addPair) 33 = .ok (.iconst 1, 1) := by decide +kernel
theorem dx_X0_addPair_34 : decode (go_cc mx_X0_addPair) 34 = .ok (.iadd, 1) := by decide +kernel
theorem dx_X0_addPair_35 : decode (go_cc mx_X0_addPair) 35 = .ok (.putfield 42, 3) := by decide +kernel
theorem dx_X0_addPair_38 : decode (go_cc mx_X0_addPair) 38 = .ok (.return_, 1) := by decide +kernel
theorem dx_X0_followUnits_0 : decode (go_cc mx_X0_followUnits) 0 = .ok (.iconst 0, 1) := by decide +kernel
theorem dx_X0_followUnits_1 : decode (go_cc mx_X0_followUnits) 1 = .ok (.istore_n 1, 1) := by decide +kernel
theorem dx_X0_followUnits_2 : decode (go_cc mx_X0_followUnits) 2 = .ok (.iload_n 1, 1) := by decide +kernel
theorem dx_X0_followUnits_3 : decode (go_cc mx_X0_followUnits) 3 = .ok (.bipush 8, 2) := by decide +kernel
theorem dx_X0_followUnits_5 : decode (go_cc mx_X0_followUnits) 5 = .ok (.if_icmp .ge 25, 3) := by decide +kernel
theorem dx_X0_followUnits_8 : decode (go_cc mx_X0_followUnits) 8 = .ok (.aload_n 0, 1) := by decide +kernel
theorem dx_X0_followUnits_9 : decode (go_cc mx_X0_followUnits) 9 = .ok (.getfield 27, 3) := by decide +kernel
theorem dx_X0_followUnits_12 : decode (go_cc mx_X0_followUnits) 12 = .ok (.iload_n 1, 1) := by decide +kernel
theorem dx_X0_followUnits_13 : decode (go_cc mx_X0_followUnits) 13 = .ok (.aload_n 0, 1) := by decide +kernel
theorem dx_X0_followUnits_14 : decode (go_cc mx_X0_followUnits) 14 = .ok (.getfield 24, 3) := by decide +kernel
theorem dx_X0_followUnits_17 : decode (go_cc mx_X0_followUnits) 17 = .ok (.iload_n 1, 1) := by decide +kernel
theorem dx_X0_followUnits_18 : decode (go_cc mx_X0_followUnits) 18 = .ok (.invokestatic 75, 3) := by decide +kernel
theorem dx_X0_followUnits_21 : decode (go_cc mx_X0_followUnits) 21 = .ok (.invokestatic 52, 3) := by decide +kernel
theorem dx_X0_followUnits_24 : decode (go_cc mx_X0_followUnits) 24 = .ok (.iinc 1 1, 3) := by decide +kernel
theorem dx_X0_followUnits_27 : decode (go_cc mx_X0_followUnits) 27 = .ok (.goto (-25), 3) := by decide +kernel
theorem dx_X0_followUnits_30 : decode (go_cc mx_X0_followUnits) 30 = .ok (.iconst 0, 1) := by decide +kernel
theorem dx_X0_followUnits_31 : decode (go_cc mx_X0_followUnits) 31 = .ok (.istore_n 1, 1) := by decide +kernel
theorem dx_X0_followUnits_32 : decode (go_cc mx_X0_followUnits) 32 = .ok (.iload_n 1, 1) := by decide +kernel
theorem dx_X0_followUnits_33 : decode (go_cc mx_X0_followUnits) 33 = .ok (.bipush 8, 2) := by decide +kernel
theorem dx_X0_followUnits_35 : decode (go_cc mx_X0_followUnits) 35 = .ok (.if_icmp .ge 58, 3) := by decide +kernel
theorem dx_X0_followUnits_38 : decode (go_cc mx_X0_followUnits) 38 = .ok (.iconst 0, 1) := by decide +kernel
theorem dx_X0_followUnits_39 : decode (go_cc mx_X0_followUnits) 39 = .ok (.istore_n 2, 1) := by decide +kernel
theorem dx_X0_followUnits_40 : decode (go_cc mx_X0_followUnits) 40 = .ok (.iload_n 2, 1) := by decide +kernel
theorem dx_X0_followUnits_41 : decode (go_cc mx_X0_followUnits) 41 = .ok (.bipush 8, 2) := by decide +kernel
theorem dx_X0_followUnits_43 : decode (go_cc mx_X0_followUnits) 43 = .ok (.if_icmp .ge 44, 3) := by decide +kernel
theorem dx_X0_followUnits_46 : decode (go_cc mx_X0_followUnits) 46 = .ok (.aload_n 0, 1) := by decide +kernel
theorem dx_X0_followUnits_47 : decode (go_cc mx_X0_followUnits) 47 = .ok (.getfield 27, 3) := by decide +kernel
theorem dx_X0_followUnits_50 : decode (go_cc mx_X0_followUnits) 50 = .ok (.iload_n 2, 1) := by decide +kernel
theorem dx_X0_followUnits_51 : decode (go_cc mx_X0_followUnits) 51 = .ok (.invokestatic 75, 3) := by decide +kernel
theorem dx_X0_followUnits_54 : decode (go_cc mx_X0_followUnits) 54 = .ok (.istore_n 3, 1) := by decide +kernel
theorem dx_X0_followUnits_55 : decode (go_cc mx_X0_followUnits) 55 = .ok (.iload_n 3, 1) := by decide +kernel
theorem dx_X0_followUnits_56 : decode (go_cc mx_X0_followUnits) 56 = .ok (.iload_n 1, 1) := by decide +kernel
theorem dx_X0_followUnits_57 : decode (go_cc mx_X0_followUnits) 57 = .ok (.iushr, 1) := by decide +kernel
theorem dx_X0_followUnits_58 : decode (go_cc mx_X0_followUnits) 58 = .ok (.iconst 1, 1) := by decide +kernel
theorem dx_X0_followUnits_59 : decode (go_cc mx_X0_followUnits) 59 = .ok (.iand, 1) := by decide +kernel
theorem dx_X0_followUnits_60 : decode (go_cc mx_X0_followUnits) 60 = .ok (.ifCond .eq 21, 3) := by decide +kernel
theorem dx_X0_followUnits_63 : decode (go_cc mx_X0_followUnits) 63 = .ok (.aload_n 0, 1) := by decide +kernel
theorem dx_X0_followUnits_64 : decode (go_cc mx_X0_followUnits) 64 = .ok (.getfield 27, 3) := by decide +kernel
theorem dx_X0_followUnits_67 : decode (go_cc mx_X0_followUnits) 67 = .ok (.iload_n 2, 1) := by decide +kernel
theorem dx_X0_followUnits_68 : decode (go_cc mx_X0_followUnits) 68 = .ok (.iload_n 3, 1) := by decide +kernel
theorem dx_X0_followUnits_69 : decode (go_cc mx_X0_followUnits) 69 = .ok (.aload_n 0, 1) := by decide +kernel
theorem dx_X0_followUnits_70 : decode (go_cc mx_X0_followUnits) 70 = .ok (.getfield 27, 3) := by decide +kernel
theorem dx_X0_followUnits_73 : decode (go_cc mx_X0_followUnits) 73 = .ok (.iload_n 1, 1) := by decide +kernel
theorem dx_X0_followUnits_74 : decode (go_cc mx_X0_followUnits) 74 = .ok (.invokestatic 75, 3) := by decide +kernel
theorem dx_X0_followUnits_77 : decode (go_cc mx_X0_followUnits) 77 = .ok (.ior, 1) := by decide +kernel
theorem dx_X0_followUnits_78 : decode (go_cc mx_X0_followUnits) 78 = .ok (.invokestatic 52, 3) := by decide +kernel
theorem dx_X0_followUnits_81 : decode (go_cc mx_X0_followUnits) 81 = .ok (.iinc 2 1, 3) := by decide +kernel
theorem dx_X0_followUnits_84 : decode (go_cc mx_X0_followUnits) 84 = .ok (.goto (-44), 3) := by decide +kernel
theorem dx_X0_followUnits_87 : decode (go_cc mx_X0_followUnits) 87 = .ok (.iinc 1 1, 3) := by decide +kernel
theorem dx_X0_followUnits_90 : decode (go_cc mx_X0_followUnits) 90 = .ok (.goto (-58), 3) := by decide +kernel
theorem dx_X0_followUnits_93 : decode (go_cc mx_X0_followUnits) 93 = .ok (.return_, 1) := by decide +kernel
theorem dx_X0_symbolCount_0 : decode (go_cc mx_X0_symbolCount) 0 = .ok (.bipush 14, 2) := by decide +kernel
theorem dx_X0_symbolCount_2 : decode (go_cc mx_X0_symbolCount) 2 = .ok (.aload_n 0, 1) := by decide +kernel
theorem dx_X0_symbolCount_3 : decode (go_cc mx_X0_symbolCount) 3 = .ok (.getfield 46, 3) := by decide +kernel
theorem dx_X0_symbolCount_6 : decode (go_cc mx_X0_symbolCount) 6 = .ok (.iadd, 1) := by decide +kernel
theorem dx_X0_symbolCount_7 : decode (go_cc mx_X0_symbolCount) 7 = .ok (.ireturn, 1) := by decide +kernel
theorem dx_X0_measure_0 : decode (go_cc mx_X0_measure) 0 = .ok (.aload_n 0, 1) := by decide +kernel
theorem dx_X0_measure_1 : decode (go_cc mx_X0_measure) 1 = .ok (.invokevirtual 87, 3) := by decide +kernel
theorem dx_X0_measure_4 : decode (go_cc mx_X0_measure) 4 = .ok (.iconst 0, 1) := by decide +kernel
theorem dx_X0_measure_5 : decode (go_cc mx_X0_measure) 5 = .ok (.istore_n 1, 1) := by decide +kernel
theorem dx_X0_measure_6 : decode (go_cc mx_X0_measure) 6 = .ok (.iload_n 1, 1) := by decide +kernel
theorem dx_X0_measure_7 : decode (go_cc mx_X0_measure) 7 = .ok (.bipush 8, 2) := by decide +kernel
theorem dx_X0_measure_9 : decode (go_cc mx_X0_measure) 9 = .ok (.if_icmp .ge 50, 3) := by decide +kernel
theorem dx_X0_measure_12 : decode (go_cc mx_X0_measure) 12 = .ok (.aload_n 0, 1) := by decide +kernel
theorem dx_X0_measure_13 : decode (go_cc mx_X0_measure) 13 = .ok (.iload_n 1, 1) := by decide +kernel
theorem dx_X0_measure_14 : decode (go_cc mx_X0_measure) 14 = .ok (.iconst 0, 1) := by decide +kernel
theorem dx_X0_measure_15 : decode (go_cc mx_X0_measure) 15 = .ok (.invokevirtual 90, 3) := by decide +kernel
theorem dx_X0_measure_18 : decode (go_cc mx_X0_measure) 18 = .ok (.iconst 0, 1) := by decide +kernel
theorem dx_X0_measure_19 : decode (go_cc mx_X0_measure) 19 = .ok (.istore_n 2, 1) := by decide +kernel
theorem dx_X0_measure_20 : decode (go_cc mx_X0_measure) 20 = .ok (.iload_n 2, 1) := by decide +kernel
theorem dx_X0_measure_21 : decode (go_cc mx_X0_measure) 21 = .ok (.bipush 8, 2) := by decide +kernel
theorem dx_X0_measure_23 : decode (go_cc mx_X0_measure) 23 = .ok (.if_icmp .ge 30, 3) := by decide +kernel
theorem dx_X0_measure_26 : decode (go_cc mx_X0_measure) 26 = .ok (.aload_n 0, 1) := by decide +kernel
theorem dx_X0_measure_27 : decode (go_cc mx_X0_measure) 27 = .ok (.getfield 36, 3) := by decide +kernel
theorem dx_X0_measure_30 : decode (go_cc mx_X0_measure) 30 = .ok (.iload_n 1, 1) := by decide +kernel
theorem dx_X0_measure_31 : decode (go_cc mx_X0_measure) 31 = .ok (.bipush 8, 2) := by decide +kernel
theorem dx_X0_measure_33 : decode (go_cc mx_X0_measure) 33 = .ok (.imul, 1) := by decide +kernel
theorem dx_X0_measure_34 : decode (go_cc mx_X0_measure) 34 = .ok (.iload_n 2, 1) := by decide +kernel
theorem dx_X0_measure_35 : decode (go_cc mx_X0_measure) 35 = .ok (.iadd, 1) := by decide +kernel
theorem dx_X0_measure_36 : decode (go_cc mx_X0_measure) 36 = .ok (.aload_n 0, 1) := by decide +kernel
theorem dx_X0_measure_37 : decode (go_cc mx_X0_measure) 37 = .ok (.getfield 39, 3) := by decide +kernel
theorem dx_X0_measure_40 : decode (go_cc mx_X0_measure) 40 = .ok (.iload_n 2, 1) := by decide +kernel
theorem dx_X0_measure_41 : decode (go_cc mx_X0_measure) 41 = .ok (.invokestatic 75, 3) := by decide +kernel
theorem dx_X0_measure_44 : decode (go_cc mx_X0_measure) 44 = .ok (.invokestatic 52, 3) := by decide +kernel
theorem dx_X0_measure_47 : decode (go_cc mx_X0_measure) 47 = .ok (.iinc 2 1, 3) := by decide +kernel
theorem dx_X0_measure_50 : decode (go_cc mx_X0_measure) 50 = .ok (.goto (-30), 3) := by decide +kernel
theorem dx_X0_measure_53 : decode (go_cc mx_X0_measure) 53 = .ok (.iinc 1 1, 3) := by decide +kernel
theorem dx_X0_measure_56 : decode (go_cc mx_X0_measure) 56 = .ok (.goto (-50), 3) := by decide +kernel
theorem dx_X0_measure_59 : decode (go_cc mx_X0_measure) 59 = .ok (.return_, 1) := by decide +kernel
theorem dx_X0_measureLengths_0 : decode (go_cc mx_X0_measureLengths) 0 = .ok (.iconst 0, 1) := by decide +kernel
theorem dx_X0_measureLengths_1 : decode (go_cc mx_X0_measureLengths) 1 = .ok (.istore_n 1, 1) := by decide +kernel
theorem dx_X0_measureLengths_2 : decode (go_cc mx_X0_measureLengths) 2 = .ok (.iload_n 1, 1) := by decide +kernel
theorem dx_X0_measureLengths_3 : decode (go_cc mx_X0_measureLengths) 3 = .ok (.aload_n 0, 1) := by decide +kernel
theorem dx_X0_measureLengths_4 : decode (go_cc mx_X0_measureLengths) 4 = .ok (.invokevirtual 93, 3) := by decide +kernel
theorem dx_X0_measureLengths_7 : decode (go_cc mx_X0_measureLengths) 7 = .ok (.if_icmp .ge 34, 3) := by decide +kernel
theorem dx_X0_measureLengths_10 : decode (go_cc mx_X0_measureLengths) 10 = .ok (.aload_n 0, 1) := by decide +kernel
theorem dx_X0_measureLengths_11 : decode (go_cc mx_X0_measureLengths) 11 = .ok (.getfield 33, 3) := by decide +kernel
theorem dx_X0_measureLengths_14 : decode (go_cc mx_X0_measureLengths) 14 = .ok (.iload_n 1, 1) := by decide +kernel
theorem dx_X0_measureLengths_15 : decode (go_cc mx_X0_measureLengths) 15 = .ok (.iload_n 1, 1) := by decide +kernel
theorem dx_X0_measureLengths_16 : decode (go_cc mx_X0_measureLengths) 16 = .ok (.bipush 8, 2) := by decide +kernel
theorem dx_X0_measureLengths_18 : decode (go_cc mx_X0_measureLengths) 18 = .ok (.if_icmp .lt 13, 3) := by decide +kernel
theorem dx_X0_measureLengths_21 : decode (go_cc mx_X0_measureLengths) 21 = .ok (.iload_n 1, 1) := by decide +kernel
theorem dx_X0_measureLengths_22 : decode (go_cc mx_X0_measureLengths) 22 = .ok (.bipush 14, 2) := by decide +kernel
theorem dx_X0_measureLengths_24 : decode (go_cc mx_X0_measureLengths) 24 = .ok (.if_icmp .ge 7, 3) := by decide +kernel
theorem dx_X0_measureLengths_27 : decode (go_cc mx_X0_measureLengths) 27 = .ok (.iconst 1, 1) := by decide +kernel
theorem dx_X0_measureLengths_28 : decode (go_cc mx_X0_measureLengths) 28 = .ok (.goto 4, 3) := by decide +kernel
theorem dx_X0_measureLengths_31 : decode (go_cc mx_X0_measureLengths) 31 = .ok (.iconst (-1), 1) := by decide +kernel
theorem dx_X0_measureLengths_32 : decode (go_cc mx_X0_measureLengths) 32 = .ok (.invokestatic 52, 3) := by decide +kernel
theorem dx_X0_measureLengths_35 : decode (go_cc mx_X0_measureLengths) 35 = .ok (.iinc 1 1, 3) := by decide +kernel
theorem dx_X0_measureLengths_38 : decode (go_cc mx_X0_measureLengths) 38 = .ok (.goto (-36), 3) := by decide +kernel
theorem dx_X0_measureLengths_41 : decode (go_cc mx_X0_measureLengths) 41 = .ok (.aload_n 0, 1) := by decide +kernel
theorem dx_X0_measureLengths_42 : decode (go_cc mx_X0_measureLengths) 42 = .ok (.ldc2_w 97, 3) := by decide +kernel
theorem dx_X0_measureLengths_45 : decode (go_cc mx_X0_measureLengths) 45 = .ok (.putfield 99, 3) := by decide +kernel
theorem dx_X0_measureLengths_48 : decode (go_cc mx_X0_measureLengths) 48 = .ok (.iconst 1, 1) := by decide +kernel
theorem dx_X0_measureLengths_49 : decode (go_cc mx_X0_measureLengths) 49 = .ok (.istore_n 1, 1) := by decide +kernel
theorem dx_X0_measureLengths_50 : decode (go_cc mx_X0_measureLengths) 50 = .ok (.iconst 0, 1) := by decide +kernel
theorem dx_X0_measureLengths_51 : decode (go_cc mx_X0_measureLengths) 51 = .ok (.istore_n 2, 1) := by decide +kernel
theorem dx_X0_measureLengths_52 : decode (go_cc mx_X0_measureLengths) 52 = .ok (.iload_n 2, 1) := by decide +kernel
theorem dx_X0_measureLengths_53 : decode (go_cc mx_X0_measureLengths) 53 = .ok (.bipush 62, 2) := by decide +kernel
theorem dx_X0_measureLengths_55 : decode (go_cc mx_X0_measureLengths) 55 = .ok (.if_icmp .gt 35, 3) := by decide +kernel
theorem dx_X0_measureLengths_58 : decode (go_cc mx_X0_measureLengths) 58 = .ok (.iload_n 1, 1) := by decide +kernel
theorem dx_X0_measureLengths_59 : decode (go_cc mx_X0_measureLengths) 59 = .ok (.ifCond .eq 31, 3) := by decide +kernel
theorem dx_X0_measureLengths_62 : decode (go_cc mx_X0_measureLengths) 62 = .ok (.aload_n 0, 1) := by decide +kernel
theorem dx_X0_measureLengths_63 : decode (go_cc mx_X0_measureLengths) 63 = .ok (.invokevirtual 103, 3) := by decide +kernel
theorem dx_X0_measureLengths_66 : decode (go_cc mx_X0_measureLengths) 66 = .ok (.istore_n 3, 1) := by decide +kernel
theorem dx_X0_measureLengths_67 : decode (go_cc mx_X0_measureLengths) 67 = .ok (.aload_n 0, 1) := by decide +kernel
theorem dx_X0_measureLengths_68 : decode (go_cc mx_X0_measureLengths) 68 = .ok (.invokevirtual 107, 3) := by decide +kernel
theorem dx_X0_measureLengths_71 : decode (go_cc mx_X0_measureLengths) 71 = .ok (.ifCond .ne 7, 3) := by decide +kernel
theorem dx_X0_measureLengths_74 : decode (go_cc mx_X0_measureLengths) 74 = .ok (.iload_n 3, 1) := by decide +kernel
theorem dx_X0_measureLengths_75 : decode (go_cc mx_X0_measureLengths) 75 = .ok (.ifCond .eq 7, 3) := by decide +kernel
theorem dx_X0_measureLengths_78 : decode (go_cc mx_X0_measureLengths) 78 = .ok (.iconst 1, 1) := by decide +kernel
theorem dx_X0_measureLengths_79 : decode (go_cc mx_X0_measureLengths) 79 = .ok (.goto 4, 3) := by decide +kernel
theorem dx_X0_measureLengths_82 : decode (go_cc mx_X0_measureLengths) 82 = .ok (.iconst 0, 1) := by decide +kernel
theorem dx_X0_measureLengths_83 : decode (go_cc mx_X0_measureLengths) 83 = .ok (.istore_n 1, 1) := by decide +kernel
theorem dx_X0_measureLengths_84 : decode (go_cc mx_X0_measureLengths) 84 = .ok (.iinc 2 1, 3) := by decide +kernel
theorem dx_X0_measureLengths_87 : decode (go_cc mx_X0_measureLengths) 87 = .ok (.goto (-35), 3) := by decide +kernel
theorem dx_X0_measureLengths_90 : decode (go_cc mx_X0_measureLengths) 90 = .ok (.return_, 1) := by decide +kernel
theorem dx_X0_shortenByPairs_0 : decode (go_cc mx_X0_shortenByPairs) 0 = .ok (.iconst 0, 1) := by decide +kernel
theorem dx_X0_shortenByPairs_1 : decode (go_cc mx_X0_shortenByPairs) 1 = .ok (.istore_n 1, 1) := by decide +kernel
theorem dx_X0_shortenByPairs_2 : decode (go_cc mx_X0_shortenByPairs) 2 = .ok (.aload_n 0, 1) := by decide +kernel
theorem dx_X0_shortenByPairs_3 : decode (go_cc mx_X0_shortenByPairs) 3 = .ok (.getfield 42, 3) := by decide +kernel
theorem dx_X0_shortenByPairs_6 : decode (go_cc mx_X0_shortenByPairs) 6 = .ok (.iconst 1, 1) := by decide +kernel
theorem dx_X0_shortenByPairs_7 : decode (go_cc mx_X0_shortenByPairs) 7 = .ok (.isub, 1) := by decide +kernel
theorem dx_X0_shortenByPairs_8 : decode (go_cc mx_X0_shortenByPairs) 8 = .ok (.istore_n 2, 1) := by decide +kernel
theorem dx_X0_shortenByPairs_9 : decode (go_cc mx_X0_shortenByPairs) 9 = .ok (.iload_n 2, 1) := by decide +kernel
theorem dx_X0_shortenByPairs_10 : decode (go_cc mx_X0_shortenByPairs) 10 = .ok (.ifCond .lt 73, 3) := by decide +kernel
theorem dx_X0_shortenByPairs_13 : decode (go_cc mx_X0_shortenByPairs) 13 = .ok (.aload_n 0, 1) := by decide +kernel
theorem dx_X0_shortenByPairs_14 : decode (go_cc mx_X0_shortenByPairs) 14 = .ok (.getfield 9, 3) := by decide +kernel
theorem dx_X0_shortenByPairs_17 : decode (go_cc mx_X0_shortenByPairs) 17 = .ok (.iload_n 2, 1) := by decide +kernel
theorem dx_X0_shortenByPairs_18 : decode (go_cc mx_X0_shortenByPairs) 18 = .ok (.invokestatic 75, 3) := by decide +kernel
theorem dx_X0_shortenByPairs_21 : decode (go_cc mx_X0_shortenByPairs) 21 = .ok (.istore_n 3, 1) := by decide +kernel
theorem dx_X0_shortenByPairs_22 : decode (go_cc mx_X0_shortenByPairs) 22 = .ok (.aload_n 0, 1) := by decide +kernel
theorem dx_X0_shortenByPairs_23 : decode (go_cc mx_X0_shortenByPairs) 23 = .ok (.getfield 33, 3) := by decide +kernel
theorem dx_X0_shortenByPairs_26 : decode (go_cc mx_X0_shortenByPairs) 26 = .ok (.iload_n 3, 1) := by decide +kernel
theorem dx_X0_shortenByPairs_27 : decode (go_cc mx_X0_shortenByPairs) 27 = .ok (.invokestatic 110, 3) := by decide +kernel
theorem dx_X0_shortenByPairs_30 : decode (go_cc mx_X0_shortenByPairs) 30 = .ok (.invokestatic 75, 3) := by decide +kernel
theorem dx_X0_shortenByPairs_33 : decode (go_cc mx_X0_shortenByPairs) 33 = .ok (.aload_n 0, 1) := by decide +kernel
theorem dx_X0_shortenByPairs_34 : decode (go_cc mx_X0_shortenByPairs) 34 = .ok (.getfield 33, 3) := by decide +kernel
theorem dx_X0_shortenByPairs_37 : decode (go_cc mx_X0_shortenByPairs) 37 = .ok (.iload_n 3, 1) := by decide +kernel
theorem dx_X0_shortenByPairs_38 : decode (go_cc mx_X0_shortenByPairs) 38 = .ok (.invokestatic 113, 3) := by decide +kernel
theorem dx_X0_shortenByPairs_41 : decode (go_cc mx_X0_shortenByPairs) 41 = .ok (.invokestatic 75, 3) := by decide +kernel
theorem dx_X0_shortenByPairs_44 : decode (go_cc mx_X0_shortenByPairs) 44 = .ok (.iadd, 1) := by decide +kernel
theorem dx_X0_shortenByPairs_45 : decode (go_cc mx_X0_shortenByPairs) 45 = .ok (.istore 4, 2) := by decide +kernel
theorem dx_X0_shortenByPairs_47 : decode (go_cc mx_X0_shortenByPairs) 47 = .ok (.iload_n 3, 1) := by decide +kernel
theorem dx_X0_shortenByPairs_48 : decode (go_cc mx_X0_shortenByPairs) 48 = .ok (.aload_n 0, 1) := by decide +kernel
theorem dx_X0_shortenByPairs_49 : decode (go_cc mx_X0_shortenByPairs) 49 = .ok (.getfield 99, 3) := by decide +kernel
theorem dx_X0_shortenByPairs_52 : decode (go_cc mx_X0_shortenByPairs) 52 = .ok (.aload_n 0, 1) := by decide +kernel
theorem dx_X0_shortenByPairs_53 : decode (go_cc mx_X0_shortenByPairs) 53 = .ok (.getfield 99, 3) := by decide +kernel
theorem dx_X0_shortenByPairs_56 : decode (go_cc mx_X0_shortenByPairs) 56 = .ok (.invokestatic 116, 3) := by decide +kernel
theorem dx_X0_shortenByPairs_59 : decode (go_cc mx_X0_shortenByPairs) 59 = .ok (.ifCond .eq 18, 3) := by decide +kernel
theorem dx_X0_shortenByPairs_62 : decode (go_cc mx_X0_shortenByPairs) 62 = .ok (.aload_n 0, 1) := by decide +kernel
theorem dx_X0_shortenByPairs_63 : decode (go_cc mx_X0_shortenByPairs) 63 = .ok (.iload_n 3, 1) := by decide +kernel
theorem dx_X0_shortenByPairs_64 : decode (go_cc mx_X0_shortenByPairs) 64 = .ok (.invokestatic 120, 3) := by decide +kernel
theorem dx_X0_shortenByPairs_67 : decode (go_cc mx_X0_shortenByPairs) 67 = .ok (.iload 4, 2) := by decide +kernel
theorem dx_X0_shortenByPairs_69 : decode (go_cc mx_X0_shortenByPairs) 69 = .ok (.invokevirtual 123, 3) := by decide +kernel
theorem dx_X0_shortenByPairs_72 : decode (go_cc mx_X0_shortenByPairs) 72 = .ok (.ifCond .eq 5, 3) := by decide +kernel
theorem dx_X0_shortenByPairs_75 : decode (go_cc mx_X0_shortenByPairs) 75 = .ok (.iconst 1, 1) := by decide +kernel
theorem dx_X0_shortenByPairs_76 : decode (go_cc mx_X0_shortenByPairs) 76 = .ok (.istore_n 1, 1) := by decide +kernel
theorem dx_X0_shortenByPairs_77 : decode (go_cc mx_X0_shortenByPairs) 77 = .ok (.iinc 2 (-1), 3) := by decide +kernel
theorem dx_X0_shortenByPairs_80 : decode (go_cc mx_X0_shortenByPairs) 80 = .ok (.goto (-71), 3) := by decide +kernel
theorem dx_X0_shortenByPairs_83 : decode (go_cc mx_X0_shortenByPairs) 83 = .ok (.iload_n 1, 1) := by decide +kernel
theorem dx_X0_shortenByPairs_84 : decode (go_cc mx_X0_shortenByPairs) 84 = .ok (.ireturn, 1) := by decide +kernel
theorem dx_X0_shortenByUnits_0 : decode (go_cc mx_X0_shortenByUnits) 0 = .ok (.iconst 0, 1) := by decide +kernel
theorem dx_X0_shortenByUnits_1 : decode (go_cc mx_X0_shortenByUnits) 1 = .ok (.istore_n 1, 1) := by decide +kernel
theorem dx_X0_shortenByUnits_2 : decode (go_cc mx_X0_shortenByUnits) 2 = .ok (.iconst 0, 1) := by decide +kernel
theorem dx_X0_shortenByUnits_3 : decode (go_cc mx_X0_shortenByUnits) 3 = .ok (.istore_n 2, 1) := by decide +kernel
theorem dx_X0_shortenByUnits_4 : decode (go_cc mx_X0_shortenByUnits) 4 = .ok (.iload_n 2, 1) := by decide +kernel
theorem dx_X0_shortenByUnits_5 : decode (go_cc mx_X0_shortenByUnits) 5 = .ok (.bipush 8, 2) := by decide +kernel
theorem dx_X0_shortenByUnits_7 : decode (go_cc mx_X0_shortenByUnits) 7 = .ok (.if_icmp .ge 88, 3) := by decide +kernel
theorem dx_X0_shortenByUnits_10 : decode (go_cc mx_X0_shortenByUnits) 10 = .ok (.aload_n 0, 1) := by decide +kernel
theorem dx_X0_shortenByUnits_11 : decode (go_cc mx_X0_shortenByUnits) 11 = .ok (.getfield 24, 3) := by decide +kernel
theorem dx_X0_shortenByUnits_14 : decode (go_cc mx_X0_shortenByUnits) 14 = .ok (.iload_n 2, 1) := by decide +kernel
theorem dx_X0_shortenByUnits_15 : decode (go_cc mx_X0_shortenByUnits) 15 = .ok (.invokestatic 75, 3) := by decide +kernel
theorem dx_X0_shortenByUnits_18 : decode (go_cc mx_X0_shortenByUnits) 18 = .ok (.istore_n 3, 1) := by decide +kernel
theorem dx_X0_shortenByUnits_19 : decode (go_cc mx_X0_shortenByUnits) 19 = .ok (.iconst 0, 1) := by decide +kernel
theorem dx_X0_shortenByUnits_20 : decode (go_cc mx_X0_shortenByUnits) 20 = .ok (.istore 4, 2) := by decide +kernel
theorem dx_X0_shortenByUnits_22 : decode (go_cc mx_X0_shortenByUnits) 22 = .ok (.iload 4, 2) := by decide +kernel
theorem dx_X0_shortenByUnits_24 : decode (go_cc mx_X0_shortenByUnits) 24 = .ok (.bipush 14, 2) := by decide +kernel
theorem dx_X0_shortenByUnits_26 : decode (go_cc mx_X0_shortenByUnits) 26 = .ok (.if_icmp .ge 63, 3) := by decide +kernel
theorem dx_X0_shortenByUnits_29 : decode (go_cc mx_X0_shortenByUnits) 29 = .ok (.iload_n 3, 1) := by decide +kernel
theorem dx_X0_shortenByUnits_30 : decode (go_cc mx_X0_shortenByUnits) 30 = .ok (.iload 4, 2) := by decide +kernel
theorem dx_X0_shortenByUnits_32 : decode (go_cc mx_X0_shortenByUnits) 32 = .ok (.iushr, 1) := by decide +kernel
theorem dx_X0_shortenByUnits_33 : decode (go_cc mx_X0_shortenByUnits) 33 = .ok (.iconst 1, 1) := by decide +kernel
theorem dx_X0_shortenByUnits_34 : decode (go_cc mx_X0_shortenByUnits) 34 = .ok (.iand, 1) := by decide +kernel
theorem dx_X0_shortenByUnits_35 : decode (go_cc mx_X0_shortenByUnits) 35 = .ok (.ifCond .eq 21, 3) := by decide +kernel
theorem dx_X0_shortenByUnits_38 : decode (go_cc mx_X0_shortenByUnits) 38 = .ok (.aload_n 0, 1) := by decide +kernel
theorem dx_X0_shortenByUnits_39 : decode (go_cc mx_X0_shortenByUnits) 39 = .ok (.getfield 99, 3) := by decide +kernel
theorem dx_X0_shortenByUnits_42 : decode (go_cc mx_X0_shortenByUnits) 42 = .ok (.iload 4, 2) := by decide +kernel
theorem dx_X0_shortenByUnits_44 : decode (go_cc mx_X0_shortenByUnits) 44 = .ok (.lushr, 1) := by decide +kernel
theorem dx_X0_shortenByUnits_45 : decode (go_cc mx_X0_shortenByUnits) 45 = .ok (.lconst 1, 1) := by decide +kernel
theorem dx_X0_shortenByUnits_46 : decode (go_cc mx_X0_shortenByUnits) 46 = .ok (.land, 1) := by decide +kernel
theorem dx_X0_shortenByUnits_47 : decode (go_cc mx_X0_shortenByUnits) 47 = .ok (.lconst 0, 1) := by decide +kernel
theorem dx_X0_shortenByUnits_48 : decode (go_cc mx_X0_shortenByUnits) 48 = .ok (.lcmp, 1) := by decide +kernel
theorem dx_X0_shortenByUnits_49 : decode (go_cc mx_X0_shortenByUnits) 49 = .ok (.ifCond .eq 7, 3) := by decide +kernel
theorem dx_X0_shortenByUnits_52 : decode (go_cc mx_X0_shortenByUnits) 52 = .ok (.iconst 1, 1) := by decide +kernel
theorem dx_X0_shortenByUnits_53 : decode (go_cc mx_X0_shortenByUnits) 53 = .ok (.goto 4, 3) := by decide +kernel
theorem dx_X0_shortenByUnits_56 : decode (go_cc mx_X0_shortenByUnits) 56 = .ok (.iconst 0, 1) := by decide +kernel
theorem dx_X0_shortenByUnits_57 : decode (go_cc mx_X0_shortenByUnits) 57 = .ok (.istore 5, 2) := by decide +kernel
theorem dx_X0_shortenByUnits_59 : decode (go_cc mx_X0_shortenByUnits) 59 = .ok (.iload 5, 2) := by decide +kernel
theorem dx_X0_shortenByUnits_61 : decode (go_cc mx_X0_shortenByUnits) 61 = .ok (.ifCond .eq 22, 3) := by decide +kernel
theorem dx_X0_shortenByUnits_64 : decode (go_cc mx_X0_shortenByUnits) 64 = .ok (.aload_n 0, 1) := by decide +kernel
theorem dx_X0_shortenByUnits_65 : decode (go_cc mx_X0_shortenByUnits) 65 = .ok (.iload_n 2, 1) := by decide +kernel
theorem dx_X0_shortenByUnits_66 : decode (go_cc mx_X0_shortenByUnits) 66 = .ok (.aload_n 0, 1) := by decide +kernel
theorem dx_X0_shortenByUnits_67 : decode (go_cc mx_X0_shortenByUnits) 67 = .ok (.getfield 33, 3) := by decide +kernel
theorem dx_X0_shortenByUnits_70 : decode (go_cc mx_X0_shortenByUnits) 70 = .ok (.iload 4, 2) := by decide +kernel
theorem dx_X0_shortenByUnits_72 : decode (go_cc mx_X0_shortenByUnits) 72 = .ok (.invokestatic 75, 3) := by decide +kernel
theorem dx_X0_shortenByUnits_75 : decode (go_cc mx_X0_shortenByUnits) 75 = .ok (.invokevirtual 123, 3) := by decide +kernel
theorem dx_X0_shortenByUnits_78 : decode (go_cc mx_X0_shortenByUnits) 78 = .ok (.ifCond .eq 5, 3) := by decide +kernel
theorem dx_X0_shortenByUnits_81 : decode (go_cc mx_X0_shortenByUnits) 81 = .ok (.iconst 1, 1) := by decide +kernel
theorem dx_X0_shortenByUnits_82 : decode (go_cc mx_X0_shortenByUnits) 82 = .ok (.istore_n 1, 1) := by decide +kernel
theorem dx_X0_shortenByUnits_83 : decode (go_cc mx_X0_shortenByUnits) 83 = .ok (.iinc 4 1, 3) := by decide +kernel
theorem dx_X0_shortenByUnits_86 : decode (go_cc mx_X0_shortenByUnits) 86 = .ok (.goto (-64), 3) := by decide +kernel
theorem dx_X0_shortenByUnits_89 : decode (go_cc mx_X0_shortenByUnits) 89 = .ok (.iinc 2 1, 3) := by decide +kernel
theorem dx_X0_shortenByUnits_92 : decode (go_cc mx_X0_shortenByUnits) 92 = .ok (.goto (-88), 3) := by decide +kernel
theorem dx_X0_shortenByUnits_95 : decode (go_cc mx_X0_shortenByUnits) 95 = .ok (.iload_n 1, 1) := by decide +kernel
theorem dx_X0_shortenByUnits_96 : decode (go_cc mx_X0_shortenByUnits) 96 = .ok (.ireturn, 1) := by decide +kernel
theorem dx_X0_shorten_0 : decode (go_cc mx_X0_shorten) 0 = .ok (.aload_n 0, 1) := by decide +kernel
theorem dx_X0_shorten_1 : decode (go_cc mx_X0_shorten) 1 = .ok (.getfield 33, 3) := by decide +kernel
theorem dx_X0_shorten_4 : decode (go_cc mx_X0_shorten) 4 = .ok (.iload_n 1, 1) := by decide +kernel
theorem dx_X0_shorten_5 : decode (go_cc mx_X0_shorten) 5 = .ok (.invokestatic 75, 3) := by decide +kernel
theorem dx_X0_shorten_8 : decode (go_cc mx_X0_shorten) 8 = .ok (.istore_n 3, 1) := by decide +kernel
theorem dx_X0_shorten_9 : decode (go_cc mx_X0_shorten) 9 = .ok (.iload_n 3, 1) := by decide +kernel
theorem dx_X0_shorten_10 : decode (go_cc mx_X0_shorten) 10 = .ok (.iconst (-1), 1) := by decide +kernel
theorem dx_X0_shorten_11 : decode (go_cc mx_X0_shorten) 11 = .ok (.if_icmp .eq 10, 3) := by decide +kernel
theorem dx_X0_shorten_14 : decode (go_cc mx_X0_shorten) 14 = .ok (.iload_n 3, 1) := by decide +kernel
theorem dx_X0_shorten_15 : decode (go_cc mx_X0_shorten) 15 = .ok (.iload_n 2, 1) := by decide +kernel
theorem dx_X0_shorten_16 : decode (go_cc mx_X0_shorten) 16 = .ok (.if_icmp .gt 5, 3) := by decide +kernel
theorem dx_X0_shorten_19 : decode (go_cc mx_X0_shorten) 19 = .ok (.iconst 0, 1) := by decide +kernel
theorem dx_X0_shorten_20 : decode (go_cc mx_X0_shorten) 20 = .ok (.ireturn, 1) := by decide +kernel
theorem dx_X0_shorten_21 : decode (go_cc mx_X0_shorten) 21 = .ok (.aload_n 0, 1) := by decide +kernel
theorem dx_X0_shorten_22 : decode (go_cc mx_X0_shorten) 22 = .ok (.getfield 33, 3) := by decide +kernel
theorem dx_X0_shorten_25 : decode (go_cc mx_X0_shorten) 25 = .ok (.iload_n 1, 1) := by decide +kernel
theorem dx_X0_shorten_26 : decode (go_cc mx_X0_shorten) 26 = .ok (.iload_n 2, 1) := by decide +kernel
theorem dx_X0_shorten_27 : decode (go_cc mx_X0_shorten) 27 = .ok (.invokestatic 52, 3) := by decide +kernel
theorem dx_X0_shorten_30 : decode (go_cc mx_X0_shorten) 30 = .ok (.aload_n 0, 1) := by decide +kernel
theorem dx_X0_shorten_31 : decode (go_cc mx_X0_shorten) 31 = .ok (.dup, 1) := by decide +kernel
theorem dx_X0_shorten_32 : decode (go_cc mx_X0_shorten) 32 = .ok (.getfield 99, 3) := by decide +kernel
theorem dx_X0_shorten_35 : decode (go_cc mx_X0_shorten) 35 = .ok (.lconst 1, 1) := by decide +kernel
theorem dx_X0_shorten_36 : decode (go_cc mx_X0_shorten) 36 = .ok (.iload_n 1, 1) := by decide +kernel
theorem dx_X0_shorten_37 : decode (go_cc mx_X0_shorten) 37 = .ok (.lshl, 1) := by decide +kernel
theorem dx_X0_shorten_38 : decode (go_cc mx_X0_shorten) 38 = .ok (.lor, 1) := by decide +kernel
theorem dx_X0_shorten_39 : decode (go_cc mx_X0_shorten) 39 = .ok (.putfield 99, 3) := by decide +kernel
theorem dx_X0_shorten_42 : decode (go_cc mx_X0_shorten) 42 = .ok (.iconst 1, 1) := by decide +kernel
theorem dx_X0_shorten_43 : decode (go_cc mx_X0_shorten) 43 = .ok (.ireturn, 1) := by decide +kernel
theorem dx_X0_countWays_0 : decode (go_cc mx_X0_countWays) 0 = .ok (.iconst 0, 1) := by decide +kernel
theorem dx_X0_countWays_1 : decode (go_cc mx_X0_countWays) 1 = .ok (.istore_n 3, 1) := by decide +kernel
theorem dx_X0_countWays_2 : decode (go_cc mx_X0_countWays) 2 = .ok (.iload_n 3, 1) := by decide +kernel
theorem dx_X0_countWays_3 : decode (go_cc mx_X0_countWays) 3 = .ok (.aload_n 0, 1) := by decide +kernel
theorem dx_X0_countWays_4 : decode (go_cc mx_X0_countWays) 4 = .ok (.getfield 39, 3) := by decide +kernel
theorem dx_X0_countWays_7 : decode (go_cc mx_X0_countWays) 7 = .ok (.arraylength, 1) := by decide +kernel
theorem dx_X0_countWays_8 : decode (go_cc mx_X0_countWays) 8 = .ok (.if_icmp .ge 16, 3) := by decide +kernel
theorem dx_X0_countWays_11 : decode (go_cc mx_X0_countWays) 11 = .ok (.aload_n 0, 1) := by decide +kernel
theorem dx_X0_countWays_12 : decode (go_cc mx_X0_countWays) 12 = .ok (.getfield 39, 3) := by decide +kernel
theorem dx_X0_countWays_15 : decode (go_cc mx_X0_countWays) 15 = .ok (.iload_n 3, 1) := by decide +kernel
theorem dx_X0_countWays_16 : decode (go_cc mx_X0_countWays) 16 = .ok (.iconst 0, 1) := by decide +kernel
theorem dx_X0_countWays_17 : decode (go_cc mx_X0_countWays) 17 = .ok (.iastore, 1) := by decide +kernel
theorem dx_X0_countWays_18 : decode (go_cc mx_X0_countWays) 18 = .ok (.iinc 3 1, 3) := by decide +kernel
theorem dx_X0_countWays_21 : decode (go_cc mx_X0_countWays) 21 = .ok (.goto (-19), 3) := by decide +kernel
theorem dx_X0_countWays_24 : decode (go_cc mx_X0_countWays) 24 = .ok (.aload_n 0, 1) := by decide +kernel
theorem dx_X0_countWays_25 : decode (go_cc mx_X0_countWays) 25 = .ok (.getfield 24, 3) := by decide +kernel
theorem dx_X0_countWays_28 : decode (go_cc mx_X0_countWays) 28 = .ok (.aload_n 0, 1) := by decide +kernel
theorem dx_X0_countWays_29 : decode (go_cc mx_X0_countWays) 29 = .ok (.getfield 39, 3) := by decide +kernel
theorem dx_X0_countWays_32 : decode (go_cc mx_X0_countWays) 32 = .ok (.iload_n 1, 1) := by decide +kernel
theorem dx_X0_countWays_33 : decode (go_cc mx_X0_countWays) 33 = .ok (.iload_n 2, 1) := by decide +kernel
theorem dx_X0_countWays_34 : decode (go_cc mx_X0_countWays) 34 = .ok (.iconst 0, 1) := by decide +kernel
theorem dx_X0_countWays_35 : decode (go_cc mx_X0_countWays) 35 = .ok (.invokestatic 127, 3) := by decide +kernel
theorem dx_X0_countWays_38 : decode (go_cc mx_X0_countWays) 38 = .ok (.return_, 1) := by decide +kernel
theorem dx_X0_walk_0 : decode (go_cc mx_X0_walk) 0 = .ok (.iload 4, 2) := by decide +kernel
theorem dx_X0_walk_2 : decode (go_cc mx_X0_walk) 2 = .ok (.bipush 8, 2) := by decide +kernel
theorem dx_X0_walk_4 : decode (go_cc mx_X0_walk) 4 = .ok (.if_icmp .ge 19, 3) := by decide +kernel
theorem dx_X0_walk_7 : decode (go_cc mx_X0_walk) 7 = .ok (.iload_n 2, 1) := by decide +kernel
theorem dx_X0_walk_8 : decode (go_cc mx_X0_walk) 8 = .ok (.ifCond .lt 15, 3) := by decide +kernel
theorem dx_X0_walk_11 : decode (go_cc mx_X0_walk) 11 = .ok (.iload_n 2, 1) := by decide +kernel
theorem dx_X0_walk_12 : decode (go_cc mx_X0_walk) 12 = .ok (.aload_n 0, 1) := by decide +kernel
theorem dx_X0_walk_13 : decode (go_cc mx_X0_walk) 13 = .ok (.arraylength, 1) := by decide +kernel
theorem dx_X0_walk_14 : decode (go_cc mx_X0_walk) 14 = .ok (.if_icmp .ge 9, 3) := by decide +kernel
theorem dx_X0_walk_17 : decode (go_cc mx_X0_walk) 17 = .ok (.iload_n 2, 1) := by decide +kernel
theorem dx_X0_walk_18 : decode (go_cc mx_X0_walk) 18 = .ok (.aload_n 1, 1) := by decide +kernel
theorem dx_X0_walk_19 : decode (go_cc mx_X0_walk) 19 = .ok (.arraylength, 1) := by decide +kernel
theorem dx_X0_walk_20 : decode (go_cc mx_X0_walk) 20 = .ok (.if_icmp .lt 4, 3) := by decide +kernel
theorem dx_X0_walk_23 : decode (go_cc mx_X0_walk) 23 = .ok (.return_, 1) := by decide +kernel
theorem dx_X0_walk_24 : decode (go_cc mx_X0_walk) 24 = .ok (.aload_n 1, 1) := by decide +kernel
theorem dx_X0_walk_25 : decode (go_cc mx_X0_walk) 25 = .ok (.iload_n 2, 1) := by decide +kernel
theorem dx_X0_walk_26 : decode (go_cc mx_X0_walk) 26 = .ok (.dup2, 1) := by decide +kernel
theorem dx_X0_walk_27 : decode (go_cc mx_X0_walk) 27 = .ok (.iaload, 1) := by decide +kernel
theorem dx_X0_walk_28 : decode (go_cc mx_X0_walk) 28 = .ok (.iconst 1, 1) := by decide +kernel
theorem dx_X0_walk_29 : decode (go_cc mx_X0_walk) 29 = .ok (.iadd, 1) := by decide +kernel
theorem dx_X0_walk_30 : decode (go_cc mx_X0_walk) 30 = .ok (.iastore, 1) := by decide +kernel
theorem dx_X0_walk_31 : decode (go_cc mx_X0_walk) 31 = .ok (.iload_n 3, 1) := by decide +kernel
theorem dx_X0_walk_32 : decode (go_cc mx_X0_walk) 32 = .ok (.iconst 1, 1) := by decide +kernel
theorem dx_X0_walk_33 : decode (go_cc mx_X0_walk) 33 = .ok (.iload_n 2, 1) := by decide +kernel
theorem dx_X0_walk_34 : decode (go_cc mx_X0_walk) 34 = .ok (.ishl, 1) := by decide +kernel
theorem dx_X0_walk_35 : decode (go_cc mx_X0_walk) 35 = .ok (.ior, 1) := by decide +kernel
theorem dx_X0_walk_36 : decode (go_cc mx_X0_walk) 36 = .ok (.istore 5, 2) := by decide +kernel
theorem dx_X0_walk_38 : decode (go_cc mx_X0_walk) 38 = .ok (.aload_n 0, 1) := by decide +kernel
theorem dx_X0_walk_39 : decode (go_cc mx_X0_walk) 39 = .ok (.iload_n 2, 1) := by decide +kernel
theorem dx_X0_walk_40 : decode (go_cc mx_X0_walk) 40 = .ok (.iaload, 1) := by decide +kernel
theorem dx_X0_walk_41 : decode (go_cc mx_X0_walk) 41 = .ok (.iload 5, 2) := by decide +kernel
theorem dx_X0_walk_43 : decode (go_cc mx_X0_walk) 43 = .ok (.iconst (-1), 1) := by decide +kernel
theorem dx_X0_walk_44 : decode (go_cc mx_X0_walk) 44 = .ok (.ixor, 1) := by decide +kernel
theorem dx_X0_walk_45 : decode (go_cc mx_X0_walk) 45 = .ok (.iand, 1) := by decide +kernel
theorem dx_X0_walk_46 : decode (go_cc mx_X0_walk) 46 = .ok (.istore 6, 2) := by decide +kernel
theorem dx_X0_walk_48 : decode (go_cc mx_X0_walk) 48 = .ok (.iconst 0, 1) := by decide +kernel
theorem dx_X0_walk_49 : decode (go_cc mx_X0_walk) 49 = .ok (.istore 7, 2) := by decide +kernel
theorem dx_X0_walk_51 : decode (go_cc mx_X0_walk) 51 = .ok (.iload 7, 2) := by decide +kernel
theorem dx_X0_walk_53 : decode (go_cc mx_X0_walk) 53 = .ok (.bipush 8, 2) := by decide +kernel
theorem dx_X0_walk_55 : decode (go_cc mx_X0_walk) 55 = .ok (.if_icmp .ge 32, 3) := by decide +kernel
theorem dx_X0_walk_58 : decode (go_cc mx_X0_walk) 58 = .ok (.iload 6, 2) := by decide +kernel
theorem dx_X0_walk_60 : decode (go_cc mx_X0_walk) 60 = .ok (.iload 7, 2) := by decide +kernel
theorem dx_X0_walk_62 : decode (go_cc mx_X0_walk) 62 = .ok (.iushr, 1) := by decide +kernel
theorem dx_X0_walk_63 : decode (go_cc mx_X0_walk) 63 = .ok (.iconst 1, 1) := by decide +kernel
theorem dx_X0_walk_64 : decode (go_cc mx_X0_walk) 64 = .ok (.iand, 1) := by decide +kernel
theorem dx_X0_walk_65 : decode (go_cc mx_X0_walk) 65 = .ok (.ifCond .eq 16, 3) := by decide +kernel
theorem dx_X0_walk_68 : decode (go_cc mx_X0_walk) 68 = .ok (.aload_n 0, 1) := by decide +kernel
theorem dx_X0_walk_69 : decode (go_cc mx_X0_walk) 69 = .ok (.aload_n 1, 1) := by decide +kernel
theorem dx_X0_walk_70 : decode (go_cc mx_X0_walk) 70 = .ok (.iload 7, 2) := by decide +kernel
theorem dx_X0_walk_72 : decode (go_cc mx_X0_walk) 72 = .ok (.iload 5, 2) := by decide +kernel
theorem dx_X0_walk_74 : decode (go_cc mx_X0_walk) 74 = .ok (.iload 4, 2) := by decide +kernel
theorem dx_X0_walk_76 : decode (go_cc mx_X0_walk) 76 = .ok (.iconst 1, 1) := by decide +kernel
theorem dx_X0_walk_77 : decode (go_cc mx_X0_walk) 77 = .ok (.iadd, 1) := by decide +kernel
theorem dx_X0_walk_78 : decode (go_cc mx_X0_walk) 78 = .ok (.invokestatic 127, 3) := by decide +kernel
theorem dx_X0_walk_81 : decode (go_cc mx_X0_walk) 81 = .ok (.iinc 7 1, 3) := by decide +kernel
theorem dx_X0_walk_84 : decode (go_cc mx_X0_walk) 84 = .ok (.goto (-33), 3) := by decide +kernel
theorem dx_X0_walk_87 : decode (go_cc mx_X0_walk) 87 = .ok (.return_, 1) := by decide +kernel
theorem dx_X0_reachedFrom_0 : decode (go_cc mx_X0_reachedFrom) 0 = .ok (.iconst 1, 1) := by decide +kernel
theorem dx_X0_reachedFrom_1 : decode (go_cc mx_X0_reachedFrom) 1 = .ok (.iload_n 1, 1) := by decide +kernel
theorem dx_X0_reachedFrom_2 : decode (go_cc mx_X0_reachedFrom) 2 = .ok (.ishl, 1) := by decide +kernel
theorem dx_X0_reachedFrom_3 : decode (go_cc mx_X0_reachedFrom) 3 = .ok (.istore_n 2, 1) := by decide +kernel
theorem dx_X0_reachedFrom_4 : decode (go_cc mx_X0_reachedFrom) 4 = .ok (.iconst 0, 1) := by decide +kernel
theorem dx_X0_reachedFrom_5 : decode (go_cc mx_X0_reachedFrom) 5 = .ok (.istore_n 3, 1) := by decide +kernel
theorem dx_X0_reachedFrom_6 : decode (go_cc mx_X0_reachedFrom) 6 = .ok (.iload_n 3, 1) := by decide +kernel
theorem dx_X0_reachedFrom_7 : decode (go_cc mx_X0_reachedFrom) 7 = .ok (.bipush 8, 2) := by decide +kernel
theorem dx_X0_reachedFrom_9 : decode (go_cc mx_X0_reachedFrom) 9 = .ok (.if_icmp .ge 46, 3) := by decide +kernel
theorem dx_X0_reachedFrom_12 : decode (go_cc mx_X0_reachedFrom) 12 = .ok (.iconst 0, 1) := by decide +kernel
theorem dx_X0_reachedFrom_13 : decode (go_cc mx_X0_reachedFrom) 13 = .ok (.istore 4, 2) := by decide +kernel
theorem dx_X0_reachedFrom_15 : decode (go_cc mx_X0_reachedFrom) 15 = .ok (.iload 4, 2) := by decide +kernel
theorem dx_X0_reachedFrom_17 : decode (go_cc mx_X0_reachedFrom) 17 = .ok (.bipush 8, 2) := by decide +kernel
theorem dx_X0_reachedFrom_19 : decode (go_cc mx_X0_reachedFrom) 19 = .ok (.if_icmp .ge 30, 3) := by decide +kernel
theorem dx_X0_reachedFrom_22 : decode (go_cc mx_X0_reachedFrom) 22 = .ok (.iload_n 2, 1) := by decide +kernel
theorem dx_X0_reachedFrom_23 : decode (go_cc mx_X0_reachedFrom) 23 = .ok (.iload 4, 2) := by decide +kernel
theorem dx_X0_reachedFrom_25 : decode (go_cc mx_X0_reachedFrom) 25 = .ok (.iushr, 1) := by decide +kernel
theorem dx_X0_reachedFrom_26 : decode (go_cc mx_X0_reachedFrom) 26 = .ok (.iconst 1, 1) := by decide +kernel
theorem dx_X0_reachedFrom_27 : decode (go_cc mx_X0_reachedFrom) 27 = .ok (.iand, 1) := by decide +kernel
theorem dx_X0_reachedFrom_28 : decode (go_cc mx_X0_reachedFrom) 28 = .ok (.ifCond .eq 15, 3) := by decide +kernel
theorem dx_X0_reachedFrom_31 : decode (go_cc mx_X0_reachedFrom) 31 = .ok (.iload_n 2, 1) := by decide +kernel
theorem dx_X0_reachedFrom_32 : decode (go_cc mx_X0_reachedFrom) 32 = .ok (.aload_n 0, 1) := by decide +kernel
theorem dx_X0_reachedFrom_33 : decode (go_cc mx_X0_reachedFrom) 33 = .ok (.getfield 30, 3) := by decide +kernel
theorem dx_X0_reachedFrom_36 : decode (go_cc mx_X0_reachedFrom) 36 = .ok (.iload 4, 2) := by decide +kernel
theorem dx_X0_reachedFrom_38 : decode (go_cc mx_X0_reachedFrom) 38 = .ok (.invokestatic 75, 3) := by decide +kernel
theorem dx_X0_reachedFrom_41 : decode (go_cc mx_X0_reachedFrom) 41 = .ok (.ior, 1) := by decide +kernel
theorem dx_X0_reachedFrom_42 : decode (go_cc mx_X0_reachedFrom) 42 = .ok (.istore_n 2, 1) := by decide +kernel
theorem dx_X0_reachedFrom_43 : decode (go_cc mx_X0_reachedFrom) 43 = .ok (.iinc 4 1, 3) := by decide +kernel
theorem dx_X0_reachedFrom_46 : decode (go_cc mx_X0_reachedFrom) 46 = .ok (.goto (-31), 3) := by decide +kernel
theorem dx_X0_reachedFrom_49 : decode (go_cc mx_X0_reachedFrom) 49 = .ok (.iinc 3 1, 3) := by decide +kernel
theorem dx_X0_reachedFrom_52 : decode (go_cc mx_X0_reachedFrom) 52 = .ok (.goto (-46), 3) := by decide +kernel
theorem dx_X0_reachedFrom_55 : decode (go_cc mx_X0_reachedFrom) 55 = .ok (.iload_n 2, 1) := by decide +kernel
theorem dx_X0_reachedFrom_56 : decode (go_cc mx_X0_reachedFrom) 56 = .ok (.ireturn, 1) := by decide +kernel
theorem dx_X0_fits_0 : decode (go_cc mx_X0_fits) 0 = .ok (.lload_n 1, 1) := by decide +kernel
theorem dx_X0_fits_1 : decode (go_cc mx_X0_fits) 1 = .ok (.iload_n 0, 1) := by decide +kernel
theorem dx_X0_fits_2 : decode (go_cc mx_X0_fits) 2 = .ok (.invokestatic 110, 3) := by decide +kernel
theorem dx_X0_fits_5 : decode (go_cc mx_X0_fits) 5 = .ok (.lushr, 1) := by decide +kernel
theorem dx_X0_fits_6 : decode (go_cc mx_X0_fits) 6 = .ok (.lload_n 3, 1) := by decide +kernel
theorem dx_X0_fits_7 : decode (go_cc mx_X0_fits) 7 = .ok (.iload_n 0, 1) := by decide +kernel
theorem dx_X0_fits_8 : decode (go_cc mx_X0_fits) 8 = .ok (.invokestatic 113, 3) := by decide +kernel
theorem dx_X0_fits_11 : decode (go_cc mx_X0_fits) 11 = .ok (.lushr, 1) := by decide +kernel
theorem dx_X0_fits_12 : decode (go_cc mx_X0_fits) 12 = .ok (.land, 1) := by decide +kernel
theorem dx_X0_fits_13 : decode (go_cc mx_X0_fits) 13 = .ok (.lconst 1, 1) := by decide +kernel
theorem dx_X0_fits_14 : decode (go_cc mx_X0_fits) 14 = .ok (.land, 1) := by decide +kernel
theorem dx_X0_fits_15 : decode (go_cc mx_X0_fits) 15 = .ok (.lconst 0, 1) := by decide +kernel
theorem dx_X0_fits_16 : decode (go_cc mx_X0_fits) 16 = .ok (.lcmp, 1) := by decide +kernel
theorem dx_X0_fits_17 : decode (go_cc mx_X0_fits) 17 = .ok (.ifCond .eq 7, 3) := by decide +kernel
theorem dx_X0_fits_20 : decode (go_cc mx_X0_fits) 20 = .ok (.iconst 1, 1) := by decide +kernel
theorem dx_X0_fits_21 : decode (go_cc mx_X0_fits) 21 = .ok (.goto 4, 3) := by decide +kernel
theorem dx_X0_fits_24 : decode (go_cc mx_X0_fits) 24 = .ok (.iconst 0, 1) := by decide +kernel
theorem dx_X0_fits_25 : decode (go_cc mx_X0_fits) 25 = .ok (.ireturn, 1) := by decide +kernel
theorem dx_X0_joinAll_0 : decode (go_cc mx_X0_joinAll) 0 = .ok (.lload_n 1, 1) := by decide +kernel
theorem dx_X0_joinAll_1 : decode (go_cc mx_X0_joinAll) 1 = .ok (.lconst 0, 1) := by decide +kernel
theorem dx_X0_joinAll_2 : decode (go_cc mx_X0_joinAll) 2 = .ok (.lcmp, 1) := by decide +kernel
theorem dx_X0_joinAll_3 : decode (go_cc mx_X0_joinAll) 3 = .ok (.ifCond .eq 9, 3) := by decide +kernel
theorem dx_X0_joinAll_6 : decode (go_cc mx_X0_joinAll) 6 = .ok (.lload_n 3, 1) := by decide +kernel
theorem dx_X0_joinAll_7 : decode (go_cc mx_X0_joinAll) 7 = .ok (.lconst 0, 1) := by decide +kernel
theorem dx_X0_joinAll_8 : decode (go_cc mx_X0_joinAll) 8 = .ok (.lcmp, 1) := by decide +kernel
theorem dx_X0_joinAll_9 : decode (go_cc mx_X0_joinAll) 9 = .ok (.ifCond .ne 5, 3) := by decide +kernel
theorem dx_X0_joinAll_12 : decode (go_cc mx_X0_joinAll) 12 = .ok (.lconst 0, 1) := by decide +kernel
theorem dx_X0_joinAll_13 : decode (go_cc mx_X0_joinAll) 13 = .ok (.lreturn, 1) := by decide +kernel
theorem dx_X0_joinAll_14 : decode (go_cc mx_X0_joinAll) 14 = .ok (.lconst 0, 1) := by decide +kernel
theorem dx_X0_joinAll_15 : decode (go_cc mx_X0_joinAll) 15 = .ok (.lstore 5, 2) := by decide +kernel
theorem dx_X0_joinAll_17 : decode (go_cc mx_X0_joinAll) 17 = .ok (.iconst 0, 1) := by decide +kernel
theorem dx_X0_joinAll_18 : decode (go_cc mx_X0_joinAll) 18 = .ok (.istore 7, 2) := by decide +kernel
theorem dx_X0_joinAll_20 : decode (go_cc mx_X0_joinAll) 20 = .ok (.iload 7, 2) := by decide +kernel
theorem dx_X0_joinAll_22 : decode (go_cc mx_X0_joinAll) 22 = .ok (.aload_n 0, 1) := by decide +kernel
theorem dx_X0_joinAll_23 : decode (go_cc mx_X0_joinAll) 23 = .ok (.getfield 42, 3) := by decide +kernel
theorem dx_X0_joinAll_26 : decode (go_cc mx_X0_joinAll) 26 = .ok (.if_icmp .ge 42, 3) := by decide +kernel
theorem dx_X0_joinAll_29 : decode (go_cc mx_X0_joinAll) 29 = .ok (.aload_n 0, 1) := by decide +kernel
theorem dx_X0_joinAll_30 : decode (go_cc mx_X0_joinAll) 30 = .ok (.getfield 9, 3) := by decide +kernel
theorem dx_X0_joinAll_33 : decode (go_cc mx_X0_joinAll) 33 = .ok (.iload 7, 2) := by decide +kernel
theorem dx_X0_joinAll_35 : decode (go_cc mx_X0_joinAll) 35 = .ok (.invokestatic 75, 3) := by decide +kernel
theorem dx_X0_joinAll_38 : decode (go_cc mx_X0_joinAll) 38 = .ok (.istore 8, 2) := by decide +kernel
theorem dx_X0_joinAll_40 : decode (go_cc mx_X0_joinAll) 40 = .ok (.iload 8, 2) := by decide +kernel
theorem dx_X0_joinAll_42 : decode (go_cc mx_X0_joinAll) 42 = .ok (.lload_n 1, 1) := by decide +kernel
theorem dx_X0_joinAll_43 : decode (go_cc mx_X0_joinAll) 43 = .ok (.lload_n 3, 1) := by decide +kernel
theorem dx_X0_joinAll_44 : decode (go_cc mx_X0_joinAll) 44 = .ok (.invokestatic 116, 3) := by decide +kernel
theorem dx_X0_joinAll_47 : decode (go_cc mx_X0_joinAll) 47 = .ok (.ifCond .eq 15, 3) := by decide +kernel
theorem dx_X0_joinAll_50 : decode (go_cc mx_X0_joinAll) 50 = .ok (.lload 5, 2) := by decide +kernel
theorem dx_X0_joinAll_52 : decode (go_cc mx_X0_joinAll) 52 = .ok (.lconst 1, 1) := by decide +kernel
theorem dx_X0_joinAll_53 : decode (go_cc mx_X0_joinAll) 53 = .ok (.iload 8, 2) := by decide +kernel
theorem dx_X0_joinAll_55 : decode (go_cc mx_X0_joinAll) 55 = .ok (.invokestatic 120, 3) := by decide +kernel
theorem dx_X0_joinAll_58 : decode (go_cc mx_X0_joinAll) 58 = .ok (.lshl, 1) := by decide +kernel
theorem dx_X0_joinAll_59 : decode (go_cc mx_X0_joinAll) 59 = .ok (.lor, 1) := by decide +kernel
theorem dx_X0_joinAll_60 : decode (go_cc mx_X0_joinAll) 60 = .ok (.lstore 5, 2) := by decide +kernel
theorem dx_X0_joinAll_62 : decode (go_cc mx_X0_joinAll) 62 = .ok (.iinc 7 1, 3) := by decide +kernel
theorem dx_X0_joinAll_65 : decode (go_cc mx_X0_joinAll) 65 = .ok (.goto (-45), 3) := by decide +kernel
theorem dx_X0_joinAll_68 : decode (go_cc mx_X0_joinAll) 68 = .ok (.lload 5, 2) := by decide +kernel
theorem dx_X0_joinAll_70 : decode (go_cc mx_X0_joinAll) 70 = .ok (.lreturn, 1) := by decide +kernel
theorem dx_X0_liftAll_0 : decode (go_cc mx_X0_liftAll) 0 = .ok (.lload_n 1, 1) := by decide +kernel
theorem dx_X0_liftAll_1 : decode (go_cc mx_X0_liftAll) 1 = .ok (.lstore_n 3, 1) := by decide +kernel
theorem dx_X0_liftAll_2 : decode (go_cc mx_X0_liftAll) 2 = .ok (.iconst 0, 1) := by decide +kernel
theorem dx_X0_liftAll_3 : decode (go_cc mx_X0_liftAll) 3 = .ok (.istore 5, 2) := by decide +kernel
theorem dx_X0_liftAll_5 : decode (go_cc mx_X0_liftAll) 5 = .ok (.iload 5, 2) := by decide +kernel
theorem dx_X0_liftAll_7 : decode (go_cc mx_X0_liftAll) 7 = .ok (.bipush 8, 2) := by decide +kernel
theorem dx_X0_liftAll_9 : decode (go_cc mx_X0_liftAll) 9 = .ok (.if_icmp .ge 33, 3) := by decide +kernel
theorem dx_X0_liftAll_12 : decode (go_cc mx_X0_liftAll) 12 = .ok (.aload_n 0, 1) := by decide +kernel
theorem dx_X0_liftAll_13 : decode (go_cc mx_X0_liftAll) 13 = .ok (.getfield 27, 3) := by decide +kernel
theorem dx_X0_liftAll_16 : decode (go_cc mx_X0_liftAll) 16 = .ok (.iload 5, 2) := by decide +kernel
theorem dx_X0_liftAll_18 : decode (go_cc mx_X0_liftAll) 18 = .ok (.invokestatic 75, 3) := by decide +kernel
theorem dx_X0_liftAll_21 : decode (go_cc mx_X0_liftAll) 21 = .ok (.i2l, 1) := by decide +kernel
theorem dx_X0_liftAll_22 : decode (go_cc mx_X0_liftAll) 22 = .ok (.lload_n 1, 1) := by decide +kernel
theorem dx_X0_liftAll_23 : decode (go_cc mx_X0_liftAll) 23 = .ok (.land, 1) := by decide +kernel
theorem dx_X0_liftAll_24 : decode (go_cc mx_X0_liftAll) 24 = .ok (.lconst 0, 1) := by decide +kernel
theorem dx_X0_liftAll_25 : decode (go_cc mx_X0_liftAll) 25 = .ok (.lcmp, 1) := by decide +kernel
theorem dx_X0_liftAll_26 : decode (go_cc mx_X0_liftAll) 26 = .ok (.ifCond .eq 10, 3) := by decide +kernel
theorem dx_X0_liftAll_29 : decode (go_cc mx_X0_liftAll) 29 = .ok (.lload_n 3, 1) := by decide +kernel
theorem dx_X0_liftAll_30 : decode (go_cc mx_X0_liftAll) 30 = .ok (.lconst 1, 1) := by decide +kernel
theorem dx_X0_liftAll_31 : decode (go_cc mx_X0_liftAll) 31 = .ok (.iload 5, 2) := by decide +kernel
theorem dx_X0_liftAll_33 : decode (go_cc mx_X0_liftAll) 33 = .ok (.lshl, 1) := by decide +kernel
theorem dx_X0_liftAll_34 : decode (go_cc mx_X0_liftAll) 34 = .ok (.lor, 1) := by decide +kernel
theorem dx_X0_liftAll_35 : decode (go_cc mx_X0_liftAll) 35 = .ok (.lstore_n 3, 1) := by decide +kernel
theorem dx_X0_liftAll_36 : decode (go_cc mx_X0_liftAll) 36 = .ok (.iinc 5 1, 3) := by decide +kernel
theorem dx_X0_liftAll_39 : decode (go_cc mx_X0_liftAll) 39 = .ok (.goto (-34), 3) := by decide +kernel
theorem dx_X0_liftAll_42 : decode (go_cc mx_X0_liftAll) 42 = .ok (.lload_n 3, 1) := by decide +kernel
theorem dx_X0_liftAll_43 : decode (go_cc mx_X0_liftAll) 43 = .ok (.lreturn, 1) := by decide +kernel
theorem dx_X0_openAll_0 : decode (go_cc mx_X0_openAll) 0 = .ok (.lload_n 1, 1) := by decide +kernel
theorem dx_X0_openAll_1 : decode (go_cc mx_X0_openAll) 1 = .ok (.lstore_n 3, 1) := by decide +kernel
theorem dx_X0_openAll_2 : decode (go_cc mx_X0_openAll) 2 = .ok (.iconst 0, 1) := by decide +kernel
theorem dx_X0_openAll_3 : decode (go_cc mx_X0_openAll) 3 = .ok (.istore 5, 2) := by decide +kernel
theorem dx_X0_openAll_5 : decode (go_cc mx_X0_openAll) 5 = .ok (.iload 5, 2) := by decide +kernel
theorem dx_X0_openAll_7 : decode (go_cc mx_X0_openAll) 7 = .ok (.bipush 62, 2) := by decide +kernel
theorem dx_X0_openAll_9 : decode (go_cc mx_X0_openAll) 9 = .ok (.if_icmp .gt 37, 3) := by decide +kernel
theorem dx_X0_openAll_12 : decode (go_cc mx_X0_openAll) 12 = .ok (.lload_n 3, 1) := by decide +kernel
theorem dx_X0_openAll_13 : decode (go_cc mx_X0_openAll) 13 = .ok (.lstore 6, 2) := by decide +kernel
theorem dx_X0_openAll_15 : decode (go_cc mx_X0_openAll) 15 = .ok (.aload_n 0, 1) := by decide +kernel
theorem dx_X0_openAll_16 : decode (go_cc mx_X0_openAll) 16 = .ok (.lload_n 3, 1) := by decide +kernel
theorem dx_X0_openAll_17 : decode (go_cc mx_X0_openAll) 17 = .ok (.aload_n 0, 1) := by decide +kernel
theorem dx_X0_openAll_18 : decode (go_cc mx_X0_openAll) 18 = .ok (.lload_n 3, 1) := by decide +kernel
theorem dx_X0_openAll_19 : decode (go_cc mx_X0_openAll) 19 = .ok (.aload_n 0, 1) := by decide +kernel
theorem dx_X0_openAll_20 : decode (go_cc mx_X0_openAll) 20 = .ok (.getfield 99, 3) := by decide +kernel
theorem dx_X0_openAll_23 : decode (go_cc mx_X0_openAll) 23 = .ok (.invokevirtual 131, 3) := by decide +kernel
theorem dx_X0_openAll_26 : decode (go_cc mx_X0_openAll) 26 = .ok (.lor, 1) := by decide +kernel
theorem dx_X0_openAll_27 : decode (go_cc mx_X0_openAll) 27 = .ok (.invokevirtual 135, 3) := by decide +kernel
theorem dx_X0_openAll_30 : decode (go_cc mx_X0_openAll) 30 = .ok (.lstore_n 3, 1) := by decide +kernel
theorem dx_X0_openAll_31 : decode (go_cc mx_X0_openAll) 31 = .ok (.lload_n 3, 1) := by decide +kernel
theorem dx_X0_openAll_32 : decode (go_cc mx_X0_openAll) 32 = .ok (.lload 6, 2) := by decide +kernel
theorem dx_X0_openAll_34 : decode (go_cc mx_X0_openAll) 34 = .ok (.lcmp, 1) := by decide +kernel
theorem dx_X0_openAll_35 : decode (go_cc mx_X0_openAll) 35 = .ok (.ifCond .ne 5, 3) := by decide +kernel
theorem dx_X0_openAll_38 : decode (go_cc mx_X0_openAll) 38 = .ok (.lload_n 3, 1) := by decide +kernel
theorem dx_X0_openAll_39 : decode (go_cc mx_X0_openAll) 39 = .ok (.lreturn, 1) := by decide +kernel
theorem dx_X0_openAll_40 : decode (go_cc mx_X0_openAll) 40 = .ok (.iinc 5 1, 3) := by decide +kernel
theorem dx_X0_openAll_43 : decode (go_cc mx_X0_openAll) 43 = .ok (.goto (-38), 3) := by decide +kernel
theorem dx_X0_openAll_46 : decode (go_cc mx_X0_openAll) 46 = .ok (.lload_n 3, 1) := by decide +kernel
theorem dx_X0_openAll_47 : decode (go_cc mx_X0_openAll) 47 = .ok (.lreturn, 1) := by decide +kernel
theorem dx_X1_init_0 : decode (go_cc mx_X1_init) 0 = .ok (.aload_n 0, 1) := by decide +kernel
theorem dx_X1_init_1 : decode (go_cc mx_X1_init) 1 = .ok (.invokespecial 3, 3) := by decide +kernel
theorem dx_X1_init_4 : decode (go_cc mx_X1_init) 4 = .ok (.aload_n 0, 1) := by decide +kernel
theorem dx_X1_init_5 : decode (go_cc mx_X1_init) 5 = .ok (.iload_n 1, 1) := by decide +kernel
theorem dx_X1_init_6 : decode (go_cc mx_X1_init) 6 = .ok (.putfield 9, 3) := by decide +kernel
theorem dx_X1_init_9 : decode (go_cc mx_X1_init) 9 = .ok (.aload_n 0, 1) := by decide +kernel
theorem dx_X1_init_10 : decode (go_cc mx_X1_init) 10 = .ok (.bipush 14, 2) := by decide +kernel
theorem dx_X1_init_12 : decode (go_cc mx_X1_init) 12 = .ok (.newarray .int, 2) := by decide +kernel
theorem dx_X1_init_14 : decode (go_cc mx_X1_init) 14 = .ok (.putfield 15, 3) := by decide +kernel
theorem dx_X1_init_17 : decode (go_cc mx_X1_init) 17 = .ok (.aload_n 0, 1) := by decide +kernel
theorem dx_X1_init_18 : decode (go_cc mx_X1_init) 18 = .ok (.iload_n 1, 1) := by decide +kernel
theorem dx_X1_init_19 : decode (go_cc mx_X1_init) 19 = .ok (.ifCond .eq 8, 3) := by decide +kernel
theorem dx_X1_init_22 : decode (go_cc mx_X1_init) 22 = .ok (.bipush 14, 2) := by decide +kernel
theorem dx_X1_init_24 : decode (go_cc mx_X1_init) 24 = .ok (.goto 5, 3) := by decide +kernel
theorem dx_X1_init_27 : decode (go_cc mx_X1_init) 27 = .ok (.bipush 105, 2) := by decide +kernel
theorem dx_X1_init_29 : decode (go_cc mx_X1_init) 29 = .ok (.newarray .long, 2) := by decide +kernel
theorem dx_X1_init_31 : decode (go_cc mx_X1_init) 31 = .ok (.putfield 19, 3) := by decide +kernel
theorem dx_X1_init_34 : decode (go_cc mx_X1_init) 34 = .ok (.aload_n 0, 1) := by decide +kernel
theorem dx_X1_init_35 : decode (go_cc mx_X1_init) 35 = .ok (.bipush 15, 2) := by decide +kernel
theorem dx_X1_init_37 : decode (go_cc mx_X1_init) 37 = .ok (.newarray .int, 2) := by decide +kernel
theorem dx_X1_init_39 : decode (go_cc mx_X1_init) 39 = .ok (.putfield 23, 3) := by decide +kernel
theorem dx_X1_init_42 : decode (go_cc mx_X1_init) 42 = .ok (.aload_n 0, 1) := by decide +kernel
theorem dx_X1_init_43 : decode (go_cc mx_X1_init) 43 = .ok (.bipush 15, 2) := by decide +kernel
theorem dx_X1_init_45 : decode (go_cc mx_X1_init) 45 = .ok (.newarray .long, 2) := by decide +kernel
theorem dx_X1_init_47 : decode (go_cc mx_X1_init) 47 = .ok (.putfield 26, 3) := by decide +kernel
theorem dx_X1_init_50 : decode (go_cc mx_X1_init) 50 = .ok (.return_, 1) := by decide +kernel
theorem dx_X1_readWord_0 : decode (go_cc mx_X1_readWord) 0 = .ok (.iconst 0, 1) := by decide +kernel
theorem dx_X1_readWord_1 : decode (go_cc mx_X1_readWord) 1 = .ok (.istore_n 3, 1) := by decide +kernel
theorem dx_X1_readWord_2 : decode (go_cc mx_X1_readWord) 2 = .ok (.iload_n 3, 1) := by decide +kernel
theorem dx_X1_readWord_3 : decode (go_cc mx_X1_readWord) 3 = .ok (.aload_n 1, 1) := by decide +kernel
theorem dx_X1_readWord_4 : decode (go_cc mx_X1_readWord) 4 = .ok (.getfield 29, 3) := by decide +kernel
theorem dx_X1_readWord_7 : decode (go_cc mx_X1_readWord) 7 = .ok (.if_icmp .ge 39, 3) := by decide +kernel
theorem dx_X1_readWord_10 : decode (go_cc mx_X1_readWord) 10 = .ok (.aload_n 0, 1) := by decide +kernel
theorem dx_X1_readWord_11 : decode (go_cc mx_X1_readWord) 11 = .ok (.getfield 15, 3) := by decide +kernel
theorem dx_X1_readWord_14 : decode (go_cc mx_X1_readWord) 14 = .ok (.iload_n 3, 1) := by decide +kernel
theorem dx_X1_readWord_15 : decode (go_cc mx_X1_readWord) 15 = .ok (.iconst 1, 1) := by decide +kernel
theorem dx_X1_readWord_16 : decode (go_cc mx_X1_readWord) 16 = .ok (.aload_n 1, 1) := by decide +kernel
theorem dx_X1_readWord_17 : decode (go_cc mx_X1_readWord) 17 = .ok (.iload_n 2, 1) := by decide +kernel
theorem dx_X1_readWord_18 : decode (go_cc mx_X1_readWord) 18 = .ok (.ifCond .eq 14, 3) := by decide +kernel
theorem dx_X1_readWord_21 : decode (go_cc mx_X1_readWord) 21 = .ok (.aload_n 1, 1) := by decide +kernel
theorem dx_X1_readWord_22 : decode (go_cc mx_X1_readWord) 22 = .ok (.getfield 29, 3) := by decide +kernel
theorem dx_X1_readWord_25 : decode (go_cc mx_X1_readWord) 25 = .ok (.iconst 1, 1) := by decide +kernel
theorem dx_X1_readWord_26 : decode (go_cc mx_X1_readWord) 26 = .ok (.isub, 1) := by decide +kernel
theorem dx_X1_readWord_27 : decode (go_cc mx_X1_readWord) 27 = .ok (.iload_n 3, 1) := by decide +kernel
theorem dx_X1_readWord_28 : decode (go_cc mx_X1_readWord) 28 = .ok (.isub, 1) := by decide +kernel
theorem dx_X1_readWord_29 : decode (go_cc mx_X1_readWord) 29 = .ok (.goto 4, 3) := by decide +kernel
theorem dx_X1_readWord_32 : decode (go_cc mx_X1_readWord) 32 = .ok (.iload_n 3, 1) := by decide +kernel
theorem dx_X1_readWord_33 : decode (go_cc mx_X1_readWord) 33 = .ok (.invokevirtual 35, 3) := by decide +kernel
theorem dx_X1_readWord_36 : decode (go_cc mx_X1_readWord) 36 = .ok (.ishl, 1) := by decide +kernel
theorem dx_X1_readWord_37 : decode (go_cc mx_X1_readWord) 37 = .ok (.invokestatic 39, 3) := by decide +kernel
theorem dx_X1_readWord_40 : decode (go_cc mx_X1_readWord) 40 = .ok (.iinc 3 1, 3) := by decide +kernel
theorem dx_X1_readWord_43 : decode (go_cc mx_X1_readWord) 43 = .ok (.goto (-41), 3) := by decide +kernel
theorem dx_X1_readWord_46 : decode (go_cc mx_X1_readWord) 46 = .ok (.return_, 1) := by decide +kernel
theorem dx_X1_readAnything_0 : decode (go_cc mx_X1_readAnything) 0 = .ok (.iconst 0, 1) := by decide +kernel
theorem dx_X1_readAnything_1 : decode (go_cc mx_X1_readAnything) 1 = .ok (.istore_n 1, 1) := by decide +kernel
theorem dx_X1_readAnything_2 : decode (go_cc mx_X1_readAnything) 2 = .ok (.iload_n 1, 1) := by decide +kernel
theorem dx_X1_readAnything_3 : decode (go_cc mx_X1_readAnything) 3 = .ok (.aload_n 0, 1) := by decide +kernel
theorem dx_X1_readAnything_4 : decode (go_cc mx_X1_readAnything) 4 = .ok (.getfield 15, 3) := by decide +kernel
theorem dx_X1_readAnything_7 : decode (go_cc mx_X1_readAnything) 7 = .ok (.arraylength, 1) := by decide +kernel
theorem dx_X1_readAnything_8 : decode (go_cc mx_X1_readAnything) 8 = .ok (.if_icmp .ge 18, 3) := by decide +kernel
theorem dx_X1_readAnything_11 : decode (go_cc mx_X1_readAnything) 11 = .ok (.aload_n 0, 1) := by decide +kernel
theorem dx_X1_readAnything_12 : decode (go_cc mx_X1_readAnything) 12 = .ok (.getfield 15, 3) := by decide +kernel
theorem dx_X1_readAnything_15 : decode (go_cc mx_X1_readAnything) 15 = .ok (.iload_n 1, 1) := by decide +kernel
theorem dx_X1_readAnything_16 : decode (go_cc mx_X1_readAnything) 16 = .ok (.sipush 16128, 3) := by decide +kernel
theorem dx_X1_readAnything_19 : decode (go_cc mx_X1_readAnything) 19 = .ok (.iastore, 1) := by decide +kernel
theorem dx_X1_readAnything_20 : decode (go_cc mx_X1_readAnything) 20 = .ok (.iinc 1 1, 3) := by decide +kernel
theorem dx_X1_readAnything_23 : decode (go_cc mx_X1_readAnything) 23 = .ok (.goto (-21), 3) := by decide +kernel
theorem dx_X1_readAnything_26 : decode (go_cc mx_X1_readAnything) 26 = .ok (.return_, 1) := by decide +kernel
theorem dx_X1_fill_0 : decode (go_cc mx_X1_fill) 0 = .ok (.aload_n 0, 1) := by decide +kernel
theorem dx_X1_fill_1 : decode (go_cc mx_X1_fill) 1 = .ok (.iload_n 2, 1) := by decide +kernel
theorem dx_X1_fill_2 : decode (go_cc mx_X1_fill) 2 = .ok (.putfield 43, 3) := by decide +kernel
theorem dx_X1_fill_5 : decode (go_cc mx_X1_fill) 5 = .ok (.iconst 1, 1) := by decide +kernel
theorem dx_X1_fill_6 : decode (go_cc mx_X1_fill) 6 = .ok (.istore_n 3, 1) := by decide +kernel
theorem dx_X1_fill_7 : decode (go_cc mx_X1_fill) 7 = .ok (.iload_n 3, 1) := by decide +kernel
theorem dx_X1_fill_8 : decode (go_cc mx_X1_fill) 8 = .ok (.iload_n 2, 1) := by decide +kernel
theorem dx_X1_fill_9 : decode (go_cc mx_X1_fill) 9 = .ok (.if_icmp .gt 100, 3) := by decide +kernel
theorem dx_X1_fill_12 : decode (go_cc mx_X1_fill) 12 = .ok (.aload_n 0, 1) := by decide +kernel
theorem dx_X1_fill_13 : decode (go_cc mx_X1_fill) 13 = .ok (.getfield 9, 3) := by decide +kernel
theorem dx_X1_fill_16 : decode (go_cc mx_X1_fill) 16 = .ok (.ifCond .eq 7, 3) := by decide +kernel
theorem dx_X1_fill_19 : decode (go_cc mx_X1_fill) 19 = .ok (.iconst 1, 1) := by decide +kernel
theorem dx_X1_fill_20 : decode (go_cc mx_X1_fill) 20 = .ok (.goto 8, 3) := by decide +kernel
theorem dx_X1_fill_23 : decode (go_cc mx_X1_fill) 23 = .ok (.iload_n 2, 1) := by decide +kernel
theorem dx_X1_fill_24 : decode (go_cc mx_X1_fill) 24 = .ok (.iload_n 3, 1) := by decide +kernel
theorem dx_X1_fill_25 : decode (go_cc mx_X1_fill) 25 = .ok (.isub, 1) := by decide +kernel
theorem dx_X1_fill_26 : decode (go_cc mx_X1_fill) 26 = .ok (.iconst 1, 1) := by decide +kernel
theorem dx_X1_fill_27 : decode (go_cc mx_X1_fill) 27 = .ok (.iadd, 1) := by decide +kernel
theorem dx_X1_fill_28 : decode (go_cc mx_X1_fill) 28 = .ok (.istore 4, 2) := by decide +kernel
theorem dx_X1_fill_30 : decode (go_cc mx_X1_fill) 30 = .ok (.iconst 0, 1) := by decide +kernel
theorem dx_X1_fill_31 : decode (go_cc mx_X1_fill) 31 = .ok (.istore 5, 2) := by decide +kernel
theorem dx_X1_fill_33 : decode (go_cc mx_X1_fill) 33 = .ok (.iload 5, 2) := by decide +kernel
theorem dx_X1_fill_35 : decode (go_cc mx_X1_fill) 35 = .ok (.iload 4, 2) := by decide +kernel
theorem dx_X1_fill_37 : decode (go_cc mx_X1_fill) 37 = .ok (.if_icmp .ge 66, 3) := by decide +kernel
theorem dx_X1_fill_40 : decode (go_cc mx_X1_fill) 40 = .ok (.iload_n 3, 1) := by decide +kernel
theorem dx_X1_fill_41 : decode (go_cc mx_X1_fill) 41 = .ok (.iconst 1, 1) := by decide +kernel
theorem dx_X1_fill_42 : decode (go_cc mx_X1_fill) 42 = .ok (.if_icmp .ne 16, 3) := by decide +kernel
theorem dx_X1_fill_45 : decode (go_cc mx_X1_fill) 45 = .ok (.aload_n 0, 1) := by decide +kernel
theorem dx_X1_fill_46 : decode (go_cc mx_X1_fill) 46 = .ok (.getfield 15, 3) := by decide +kernel
theorem dx_X1_fill_49 : decode (go_cc mx_X1_fill) 49 = .ok (.iload 5, 2) := by decide +kernel
theorem dx_X1_fill_51 : decode (go_cc mx_X1_fill) 51 = .ok (.invokestatic 46, 3) := by decide +kernel
theorem dx_X1_fill_54 : decode (go_cc mx_X1_fill) 54 = .ok (.i2l, 1) := by decide +kernel
theorem dx_X1_fill_55 : decode (go_cc mx_X1_fill) 55 = .ok (.goto 14, 3) := by decide +kernel
theorem dx_X1_fill_58 : decode (go_cc mx_X1_fill) 58 = .ok (.aload_n 0, 1) := by decide +kernel
theorem dx_X1_fill_59 : decode (go_cc mx_X1_fill) 59 = .ok (.aload_n 1, 1) := by decide +kernel
theorem dx_X1_fill_60 : decode (go_cc mx_X1_fill) 60 = .ok (.iload 5, 2) := by decide +kernel
theorem dx_X1_fill_62 : decode (go_cc mx_X1_fill) 62 = .ok (.iload 5, 2) := by decide +kernel
theorem dx_X1_fill_64 : decode (go_cc mx_X1_fill) 64 = .ok (.iload_n 3, 1) := by decide +kernel
theorem dx_X1_fill_65 : decode (go_cc mx_X1_fill) 65 = .ok (.iadd, 1) := by decide +kernel
theorem dx_X1_fill_66 : decode (go_cc mx_X1_fill) 66 = .ok (.invokevirtual 50, 3) := by decide +kernel
theorem dx_X1_fill_69 : decode (go_cc mx_X1_fill) 69 = .ok (.lstore 6, 2) := by decide +kernel
theorem dx_X1_fill_71 : decode (go_cc mx_X1_fill) 71 = .ok (.aload_n 0, 1) := by decide +kernel
theorem dx_X1_fill_72 : decode (go_cc mx_X1_fill) 72 = .ok (.getfield 19, 3) := by decide +kernel
theorem dx_X1_fill_75 : decode (go_cc mx_X1_fill) 75 = .ok (.iload 5, 2) := by decide +kernel
theorem dx_X1_fill_77 : decode (go_cc mx_X1_fill) 77 = .ok (.iload 5, 2) := by decide +kernel
theorem dx_X1_fill_79 : decode (go_cc mx_X1_fill) 79 = .ok (.iload_n 3, 1) := by decide +kernel
theorem dx_X1_fill_80 : decode (go_cc mx_X1_fill) 80 = .ok (.iadd, 1) := by decide +kernel
theorem dx_X1_fill_81 : decode (go_cc mx_X1_fill) 81 = .ok (.aload_n 0, 1) := by decide +kernel
theorem dx_X1_fill_82 : decode (go_cc mx_X1_fill) 82 = .ok (.getfield 9, 3) := by decide +kernel
theorem dx_X1_fill_85 : decode (go_cc mx_X1_fill) 85 = .ok (.invokestatic 54, 3) := by decide +kernel
theorem dx_X1_fill_88 : decode (go_cc mx_X1_fill) 88 = .ok (.aload_n 1, 1) := by decide +kernel
theorem dx_X1_fill_89 : decode (go_cc mx_X1_fill) 89 = .ok (.lload 6, 2) := by decide +kernel
theorem dx_X1_fill_91 : decode (go_cc mx_X1_fill) 91 = .ok (.invokevirtual 58, 3) := by decide +kernel
theorem dx_X1_fill_94 : decode (go_cc mx_X1_fill) 94 = .ok (.invokestatic 64, 3) := by decide +kernel
theorem dx_X1_fill_97 : decode (go_cc mx_X1_fill) 97 = .ok (.iinc 5 1, 3) := by decide +kernel
theorem dx_X1_fill_100 : decode (go_cc mx_X1_fill) 100 = .ok (.goto (-67), 3) := by decide +kernel
theorem dx_X1_fill_103 : decode (go_cc mx_X1_fill) 103 = .ok (.iinc 3 1, 3) := by decide +kernel
theorem dx_X1_fill_106 : decode (go_cc mx_X1_fill) 106 = .ok (.goto (-99), 3) := by decide +kernel
theorem dx_X1_fill_109 : decode (go_cc mx_X1_fill) 109 = .ok (.return_, 1) := by decide +kernel
theorem dx_X1_joinCuts_0 : decode (go_cc mx_X1_joinCuts) 0 = .ok (.lconst 0, 1) := by decide +kernel
theorem dx_X1_joinCuts_1 : decode (go_cc mx_X1_joinCuts) 1 = .ok (.lstore 4, 2) := by decide +kernel
theorem dx_X1_joinCuts_3 : decode (go_cc mx_X1_joinCuts) 3 = .ok (.iload_n 2, 1) := by decide +kernel
theorem dx_X1_joinCuts_4 : decode (go_cc mx_X1_joinCuts) 4 = .ok (.iconst 1, 1) := by decide +kernel
theorem dx_X1_joinCuts_5 : decode (go_cc mx_X1_joinCuts) 5 = .ok (.iadd, 1) := by decide +kernel
theorem dx_X1_joinCuts_6 : decode (go_cc mx_X1_joinCuts) 6 = .ok (.istore 6, 2) := by decide +kernel
theorem dx_X1_joinCuts_8 : decode (go_cc mx_X1_joinCuts) 8 = .ok (.iload 6, 2) := by decide +kernel
theorem dx_X1_joinCuts_10 : decode (go_cc mx_X1_joinCuts) 10 = .ok (.iload_n 3, 1) := by decide +kernel
theorem dx_X1_joinCuts_11 : decode (go_cc mx_X1_joinCuts) 11 = .ok (.if_icmp .ge 32, 3) := by decide +kernel
theorem dx_X1_joinCuts_14 : decode (go_cc mx_X1_joinCuts) 14 = .ok (.lload 4, 2) := by decide +kernel
theorem dx_X1_joinCuts_16 : decode (go_cc mx_X1_joinCuts) 16 = .ok (.aload_n 1, 1) := by decide +kernel
theorem dx_X1_joinCuts_17 : decode (go_cc mx_X1_joinCuts) 17 = .ok (.aload_n 0, 1) := by decide +kernel
theorem dx_X1_joinCuts_18 : decode (go_cc mx_X1_joinCuts) 18 = .ok (.iload_n 2, 1) := by decide +kernel
theorem dx_X1_joinCuts_19 : decode (go_cc mx_X1_joinCuts) 19 = .ok (.iload 6, 2) := by decide +kernel
theorem dx_X1_joinCuts_21 : decode (go_cc mx_X1_joinCuts) 21 = .ok (.invokevirtual 68, 3) := by decide +kernel
theorem dx_X1_joinCuts_24 : decode (go_cc mx_X1_joinCuts) 24 = .ok (.aload_n 0, 1) := by decide +kernel
theorem dx_X1_joinCuts_25 : decode (go_cc mx_X1_joinCuts) 25 = .ok (.iload 6, 2) := by decide +kernel
theorem dx_X1_joinCuts_27 : decode (go_cc mx_X1_joinCuts) 27 = .ok (.iload_n 3, 1) := by decide +kernel
theorem dx_X1_joinCuts_28 : decode (go_cc mx_X1_joinCuts) 28 = .ok (.invokevirtual 68, 3) := by decide +kernel
theorem dx_X1_joinCuts_31 : decode (go_cc mx_X1_joinCuts) 31 = .ok (.invokevirtual 72, 3) := by decide +kernel
theorem dx_X1_joinCuts_34 : decode (go_cc mx_X1_joinCuts) 34 = .ok (.lor, 1) := by decide +kernel
theorem dx_X1_joinCuts_35 : decode (go_cc mx_X1_joinCuts) 35 = .ok (.lstore 4, 2) := by decide +kernel
theorem dx_X1_joinCuts_37 : decode (go_cc mx_X1_joinCuts) 37 = .ok (.iinc 6 1, 3) := by decide +kernel
theorem dx_X1_joinCuts_40 : decode (go_cc mx_X1_joinCuts) 40 = .ok (.goto (-32), 3) := by decide +kernel
theorem dx_X1_joinCuts_43 : decode (go_cc mx_X1_joinCuts) 43 = .ok (.lload 4, 2) := by decide +kernel
theorem dx_X1_joinCuts_45 : decode (go_cc mx_X1_joinCuts) 45 = .ok (.lreturn, 1) := by decide +kernel
theorem dx_X1_hasSpan_0 : decode (go_cc mx_X1_hasSpan) 0 = .ok (.iload_n 1, 1) := by decide +kernel
theorem dx_X1_hasSpan_1 : decode (go_cc mx_X1_hasSpan) 1 = .ok (.ifCond .lt 20, 3) := by decide +kernel
theorem dx_X1_hasSpan_4 : decode (go_cc mx_X1_hasSpan) 4 = .ok (.iload_n 1, 1) := by decide +kernel
theorem dx_X1_hasSpan_5 : decode (go_cc mx_X1_hasSpan) 5 = .ok (.iload_n 2, 1) := by decide +kernel
theorem dx_X1_hasSpan_6 : decode (go_cc mx_X1_hasSpan) 6 = .ok (.if_icmp .ge 15, 3) := by decide +kernel
theorem dx_X1_hasSpan_9 : decode (go_cc mx_X1_hasSpan) 9 = .ok (.iload_n 2, 1) := by decide +kernel
theorem dx_X1_hasSpan_10 : decode (go_cc mx_X1_hasSpan) 10 = .ok (.aload_n 0, 1) := by decide +kernel
theorem dx_X1_hasSpan_11 : decode (go_cc mx_X1_hasSpan) 11 = .ok (.getfield 43, 3) := by decide +kernel
theorem dx_X1_hasSpan_14 : decode (go_cc mx_X1_hasSpan) 14 = .ok (.if_icmp .gt 7, 3) := by decide +kernel
theorem dx_X1_hasSpan_17 : decode (go_cc mx_X1_hasSpan) 17 = .ok (.iconst 1, 1) := by decide +kernel
theorem dx_X1_hasSpan_18 : decode (go_cc mx_X1_hasSpan) 18 = .ok (.goto 4, 3) := by decide +kernel
theorem dx_X1_hasSpan_21 : decode (go_cc mx_X1_hasSpan) 21 = .ok (.iconst 0, 1) := by decide +kernel
theorem dx_X1_hasSpan_22 : decode (go_cc mx_X1_hasSpan) 22 = .ok (.ireturn, 1) := by decide +kernel
theorem dx_X1_cellAt_0 : decode (go_cc mx_X1_cellAt) 0 = .ok (.aload_n 0, 1) := by decide +kernel
theorem dx_X1_cellAt_1 : decode (go_cc mx_X1_cellAt) 1 = .ok (.iload_n 1, 1) := by decide +kernel
theorem dx_X1_cellAt_2 : decode (go_cc mx_X1_cellAt) 2 = .ok (.iload_n 2, 1) := by decide +kernel
theorem dx_X1_cellAt_3 : decode (go_cc mx_X1_cellAt) 3 = .ok (.invokevirtual 76, 3) := by decide +kernel
theorem dx_X1_cellAt_6 : decode (go_cc mx_X1_cellAt) 6 = .ok (.ifCond .eq 22, 3) := by decide +kernel
theorem dx_X1_cellAt_9 : decode (go_cc mx_X1_cellAt) 9 = .ok (.aload_n 0, 1) := by decide +kernel
theorem dx_X1_cellAt_10 : decode (go_cc mx_X1_cellAt) 10 = .ok (.getfield 19, 3) := by decide +kernel
theorem dx_X1_cellAt_13 : decode (go_cc mx_X1_cellAt) 13 = .ok (.iload_n 1, 1) := by decide +kernel
theorem dx_X1_cellAt_14 : decode (go_cc mx_X1_cellAt) 14 = .ok (.iload_n 2, 1) := by decide +kernel
theorem dx_X1_cellAt_15 : decode (go_cc mx_X1_cellAt) 15 = .ok (.aload_n 0, 1) := by decide +kernel
theorem dx_X1_cellAt_16 : decode (go_cc mx_X1_cellAt) 16 = .ok (.getfield 9, 3) := by decide +kernel
theorem dx_X1_cellAt_19 : decode (go_cc mx_X1_cellAt) 19 = .ok (.invokestatic 54, 3) := by decide +kernel
theorem dx_X1_cellAt_22 : decode (go_cc mx_X1_cellAt) 22 = .ok (.invokestatic 80, 3) := by decide +kernel
theorem dx_X1_cellAt_25 : decode (go_cc mx_X1_cellAt) 25 = .ok (.goto 4, 3) := by decide +kernel
theorem dx_X1_cellAt_28 : decode (go_cc mx_X1_cellAt) 28 = .ok (.lconst 0, 1) := by decide +kernel
theorem dx_X1_cellAt_29 : decode (go_cc mx_X1_cellAt) 29 = .ok (.lreturn, 1) := by decide +kernel
theorem dx_X1_derives_0 : decode (go_cc mx_X1_derives) 0 = .ok (.aload_n 0, 1) := by decide +kernel
theorem dx_X1_derives_1 : decode (go_cc mx_X1_derives) 1 = .ok (.iload_n 2, 1) := by decide +kernel
theorem dx_X1_derives_2 : decode (go_cc mx_X1_derives) 2 = .ok (.iload_n 3, 1) := by decide +kernel
theorem dx_X1_derives_3 : decode (go_cc mx_X1_derives) 3 = .ok (.invokevirtual 68, 3) := by decide +kernel
theorem dx_X1_derives_6 : decode (go_cc mx_X1_derives) 6 = .ok (.iload_n 1, 1) := by decide +kernel
theorem dx_X1_derives_7 : decode (go_cc mx_X1_derives) 7 = .ok (.lushr, 1) := by decide +kernel
theorem dx_X1_derives_8 : decode (go_cc mx_X1_derives) 8 = .ok (.lconst 1, 1) := by decide +kernel
theorem dx_X1_derives_9 : decode (go_cc mx_X1_derives) 9 = .ok (.land, 1) := by decide +kernel
theorem dx_X1_derives_10 : decode (go_cc mx_X1_derives) 10 = .ok (.lconst 0, 1) := by decide +kernel
theorem dx_X1_derives_11 : decode (go_cc mx_X1_derives) 11 = .ok (.lcmp, 1) := by decide +kernel
theorem dx_X1_derives_12 : decode (go_cc mx_X1_derives) 12 = .ok (.ifCond .eq 7, 3) := by decide +kernel
theorem dx_X1_derives_15 : decode (go_cc mx_X1_derives) 15 = .ok (.iconst 1, 1) := by decide +kernel
theorem dx_X1_derives_16 : decode (go_cc mx_X1_derives) 16 = .ok (.goto 4, 3) := by decide +kernel
theorem dx_X1_derives_19 : decode (go_cc mx_X1_derives) 19 = .ok (.iconst 0, 1) := by decide +kernel
theorem dx_X1_derives_20 : decode (go_cc mx_X1_derives) 20 = .ok (.ireturn, 1) := by decide +kernel
theorem dx_X1_endsFrom_0 : decode (go_cc mx_X1_endsFrom) 0 = .ok (.iconst 0, 1) := by decide +kernel
theorem dx_X1_endsFrom_1 : decode (go_cc mx_X1_endsFrom) 1 = .ok (.istore_n 3, 1) := by decide +kernel
theorem dx_X1_endsFrom_2 : decode (go_cc mx_X1_endsFrom) 2 = .ok (.iload_n 2, 1) := by decide +kernel
theorem dx_X1_endsFrom_3 : decode (go_cc mx_X1_endsFrom) 3 = .ok (.iconst 1, 1) := by decide +kernel
theorem dx_X1_endsFrom_4 : decode (go_cc mx_X1_endsFrom) 4 = .ok (.iadd, 1) := by decide +kernel
theorem dx_X1_endsFrom_5 : decode (go_cc mx_X1_endsFrom) 5 = .ok (.istore 4, 2) := by decide +kernel
theorem dx_X1_endsFrom_7 : decode (go_cc mx_X1_endsFrom) 7 = .ok (.iload 4, 2) := by decide +kernel
theorem dx_X1_endsFrom_9 : decode (go_cc mx_X1_endsFrom) 9 = .ok (.aload_n 0, 1) := by decide +kernel
theorem dx_X1_endsFrom_10 : decode (go_cc mx_X1_endsFrom) 10 = .ok (.getfield 43, 3) := by decide +kernel
theorem dx_X1_endsFrom_13 : decode (go_cc mx_X1_endsFrom) 13 = .ok (.if_icmp .gt 27, 3) := by decide +kernel
theorem dx_X1_endsFrom_16 : decode (go_cc mx_X1_endsFrom) 16 = .ok (.aload_n 0, 1) := by decide +kernel
theorem dx_X1_endsFrom_17 : decode (go_cc mx_X1_endsFrom) 17 = .ok (.iload_n 1, 1) := by decide +kernel
theorem dx_X1_endsFrom_18 : decode (go_cc mx_X1_endsFrom) 18 = .ok (.iload_n 2, 1) := by decide +kernel
theorem dx_X1_endsFrom_19 : decode (go_cc mx_X1_endsFrom) 19 = .ok (.iload 4, 2) := by decide +kernel
theorem dx_X1_endsFrom_21 : decode (go_cc mx_X1_endsFrom) 21 = .ok (.invokevirtual 84, 3) := by decide +kernel
theorem dx_X1_endsFrom_24 : decode (go_cc mx_X1_endsFrom) 24 = .ok (.ifCond .eq 10, 3) := by decide +kernel
theorem dx_X1_endsFrom_27 : decode (go_cc mx_X1_endsFrom) 27 = .ok (.iload_n 3, 1) := by decide +kernel
theorem dx_X1_endsFrom_28 : decode (go_cc mx_X1_endsFrom) 28 = .ok (.iconst 1, 1) := by decide +kernel
theorem dx_X1_endsFrom_29 : decode (go_cc mx_X1_endsFrom) 29 = .ok (.iload 4, 2) := by decide +kernel
theorem dx_X1_endsFrom_31 : decode (go_cc mx_X1_endsFrom) 31 = .ok (.ishl, 1) := by decide +kernel
theorem dx_X1_endsFrom_32 : decode (go_cc mx_X1_endsFrom) 32 = .ok (.ior, 1) := by decide +kernel
theorem dx_X1_endsFrom_33 : decode (go_cc mx_X1_endsFrom) 33 = .ok (.istore_n 3, 1) := by decide +kernel
theorem dx_X1_endsFrom_34 : decode (go_cc mx_X1_endsFrom) 34 = .ok (.iinc 4 1, 3) := by decide +kernel
theorem dx_X1_endsFrom_37 : decode (go_cc mx_X1_endsFrom) 37 = .ok (.goto (-30), 3) := by decide +kernel
theorem dx_X1_endsFrom_40 : decode (go_cc mx_X1_endsFrom) 40 = .ok (.iload_n 3, 1) := by decide +kernel
theorem dx_X1_endsFrom_41 : decode (go_cc mx_X1_endsFrom) 41 = .ok (.ireturn, 1) := by decide +kernel
theorem dx_X1_countPieces_0 : decode (go_cc mx_X1_countPieces) 0 = .ok (.aload_n 0, 1) := by decide +kernel
theorem dx_X1_countPieces_1 : decode (go_cc mx_X1_countPieces) 1 = .ok (.getfield 23, 3) := by decide +kernel
theorem dx_X1_countPieces_4 : decode (go_cc mx_X1_countPieces) 4 = .ok (.aload_n 0, 1) := by decide +kernel
theorem dx_X1_countPieces_5 : decode (go_cc mx_X1_countPieces) 5 = .ok (.getfield 43, 3) := by decide +kernel
theorem dx_X1_countPieces_8 : decode (go_cc mx_X1_countPieces) 8 = .ok (.iconst 0, 1) := by decide +kernel
theorem dx_X1_countPieces_9 : decode (go_cc mx_X1_countPieces) 9 = .ok (.invokestatic 39, 3) := by decide +kernel
theorem dx_X1_countPieces_12 : decode (go_cc mx_X1_countPieces) 12 = .ok (.aload_n 0, 1) := by decide +kernel
theorem dx_X1_countPieces_13 : decode (go_cc mx_X1_countPieces) 13 = .ok (.getfield 43, 3) := by decide +kernel
theorem dx_X1_countPieces_16 : decode (go_cc mx_X1_countPieces) 16 = .ok (.iconst 1, 1) := by decide +kernel
theorem dx_X1_countPieces_17 : decode (go_cc mx_X1_countPieces) 17 = .ok (.isub, 1) := by decide +kernel
theorem dx_X1_countPieces_18 : decode (go_cc mx_X1_countPieces) 18 = .ok (.istore_n 2, 1) := by decide +kernel
theorem dx_X1_countPieces_19 : decode (go_cc mx_X1_countPieces) 19 = .ok (.iload_n 2, 1) := by decide +kernel
theorem dx_X1_countPieces_20 : decode (go_cc mx_X1_countPieces) 20 = .ok (.ifCond .lt 86, 3) := by decide +kernel
theorem dx_X1_countPieces_23 : decode (go_cc mx_X1_countPieces) 23 = .ok (.iconst (-1), 1) := by decide +kernel
theorem dx_X1_countPieces_24 : decode (go_cc mx_X1_countPieces) 24 = .ok (.istore_n 3, 1) := by decide +kernel
theorem dx_X1_countPieces_25 : decode (go_cc mx_X1_countPieces) 25 = .ok (.iload_n 2, 1) := by decide +kernel
theorem dx_X1_countPieces_26 : decode (go_cc mx_X1_countPieces) 26 = .ok (.iconst 1, 1) := by decide +kernel
theorem dx_X1_countPieces_27 : decode (go_cc mx_X1_countPieces) 27 = .ok (.iadd, 1) := by decide +kernel
theorem dx_X1_countPieces_28 : decode (go_cc mx_X1_countPieces) 28 = .ok (.istore 4, 2) := by decide +kernel
theorem dx_X1_countPieces_30 : decode (go_cc mx_X1_countPieces) 30 = .ok (.iload 4, 2) := by decide +kernel
theorem dx_X1_countPieces_32 : decode (go_cc mx_X1_countPieces) 32 = .ok (.aload_n 0, 1) := by decide +kernel
theorem dx_X1_countPieces_33 : decode (go_cc mx_X1_countPieces) 33 = .ok (.getfield 43, 3) := by decide +kernel
theorem dx_X1_countPieces_36 : decode (go_cc mx_X1_countPieces) 36 = .ok (.if_icmp .gt 55, 3) := by decide +kernel
theorem dx_X1_countPieces_39 : decode (go_cc mx_X1_countPieces) 39 = .ok (.aload_n 0, 1) := by decide +kernel
theorem dx_X1_countPieces_40 : decode (go_cc mx_X1_countPieces) 40 = .ok (.getfield 23, 3) := by decide +kernel
theorem dx_X1_countPieces_43 : decode (go_cc mx_X1_countPieces) 43 = .ok (.iload 4, 2) := by decide +kernel
theorem dx_X1_countPieces_45 : decode (go_cc mx_X1_countPieces) 45 = .ok (.invokestatic 46, 3) := by decide +kernel
theorem dx_X1_countPieces_48 : decode (go_cc mx_X1_countPieces) 48 = .ok (.istore 5, 2) := by decide +kernel
theorem dx_X1_countPieces_50 : decode (go_cc mx_X1_countPieces) 50 = .ok (.iload 5, 2) := by decide +kernel
theorem dx_X1_countPieces_52 : decode (go_cc mx_X1_countPieces) 52 = .ok (.iconst (-1), 1) := by decide +kernel
theorem dx_X1_countPieces_53 : decode (go_cc mx_X1_countPieces) 53 = .ok (.if_icmp .eq 32, 3) := by decide +kernel
theorem dx_X1_countPieces_56 : decode (go_cc mx_X1_countPieces) 56 = .ok (.aload_n 0, 1) := by decide +kernel
theorem dx_X1_countPieces_57 : decode (go_cc mx_X1_countPieces) 57 = .ok (.iload_n 1, 1) := by decide +kernel
theorem dx_X1_countPieces_58 : decode (go_cc mx_X1_countPieces) 58 = .ok (.iload_n 2, 1) := by decide +kernel
theorem dx_X1_countPieces_59 : decode (go_cc mx_X1_countPieces) 59 = .ok (.iload 4, 2) := by decide +kernel
theorem dx_X1_countPieces_61 : decode (go_cc mx_X1_countPieces) 61 = .ok (.invokevirtual 84, 3) := by decide +kernel
theorem dx_X1_countPieces_64 : decode (go_cc mx_X1_countPieces) 64 = .ok (.ifCond .eq 21, 3) := by decide +kernel
theorem dx_X1_countPieces_67 : decode (go_cc mx_X1_countPieces) 67 = .ok (.iload_n 3, 1) := by decide +kernel
theorem dx_X1_countPieces_68 : decode (go_cc mx_X1_countPieces) 68 = .ok (.iconst (-1), 1) := by decide +kernel
theorem dx_X1_countPieces_69 : decode (go_cc mx_X1_countPieces) 69 = .ok (.if_icmp .eq 11, 3) := by decide +kernel
theorem dx_X1_countPieces_72 : decode (go_cc mx_X1_countPieces) 72 = .ok (.iload 5, 2) := by decide +kernel
theorem dx_X1_countPieces_74 : decode (go_cc mx_X1_countPieces) 74 = .ok (.iconst 1, 1) := by decide +kernel
theorem dx_X1_countPieces_75 : decode (go_cc mx_X1_countPieces) 75 = .ok (.iadd, 1) := by decide +kernel
theorem dx_X1_countPieces_76 : decode (go_cc mx_X1_countPieces) 76 = .ok (.iload_n 3, 1) := by decide +kernel
theorem dx_X1_countPieces_77 : decode (go_cc mx_X1_countPieces) 77 = .ok (.if_icmp .ge 8, 3) := by decide +kernel
theorem dx_X1_countPieces_80 : decode (go_cc mx_X1_countPieces) 80 = .ok (.iload 5, 2) := by decide +kernel
theorem dx_X1_countPieces_82 : decode (go_cc mx_X1_countPieces) 82 = .ok (.iconst 1, 1) := by decide +kernel
theorem dx_X1_countPieces_83 : decode (go_cc mx_X1_countPieces) 83 = .ok (.iadd, 1) := by decide +kernel
theorem dx_X1_countPieces_84 : decode (go_cc mx_X1_countPieces) 84 = .ok (.istore_n 3, 1) := by decide +kernel
theorem dx_X1_countPieces_85 : decode (go_cc mx_X1_countPieces) 85 = .ok (.iinc 4 1, 3) := by decide +kernel
theorem dx_X1_countPieces_88 : decode (go_cc mx_X1_countPieces) 88 = .ok (.goto (-58), 3) := by decide +kernel
theorem dx_X1_countPieces_91 : decode (go_cc mx_X1_countPieces) 91 = .ok (.aload_n 0, 1) := by decide +kernel
theorem dx_X1_countPieces_92 : decode (go_cc mx_X1_countPieces) 92 = .ok (.getfield 23, 3) := by decide +kernel
theorem dx_X1_countPieces_95 : decode (go_cc mx_X1_countPieces) 95 = .ok (.iload_n 2, 1) := by decide +kernel
theorem dx_X1_countPieces_96 : decode (go_cc mx_X1_countPieces) 96 = .ok (.iload_n 3, 1) := by decide +kernel
theorem dx_X1_countPieces_97 : decode (go_cc mx_X1_countPieces) 97 = .ok (.invokestatic 39, 3) := by decide +kernel
theorem dx_X1_countPieces_100 : decode (go_cc mx_X1_countPieces) 100 = .ok (.iinc 2 (-1), 3) := by decide +kernel
theorem dx_X1_countPieces_103 : decode (go_cc mx_X1_countPieces) 103 = .ok (.goto (-84), 3) := by decide +kernel
theorem dx_X1_countPieces_106 : decode (go_cc mx_X1_countPieces) 106 = .ok (.aload_n 0, 1) := by decide +kernel
theorem dx_X1_countPieces_107 : decode (go_cc mx_X1_countPieces) 107 = .ok (.getfield 43, 3) := by decide +kernel
theorem dx_X1_countPieces_110 : decode (go_cc mx_X1_countPieces) 110 = .ok (.ifCond .ne 7, 3) := by decide +kernel
theorem dx_X1_countPieces_113 : decode (go_cc mx_X1_countPieces) 113 = .ok (.iconst (-1), 1) := by decide +kernel
theorem dx_X1_countPieces_114 : decode (go_cc mx_X1_countPieces) 114 = .ok (.goto 11, 3) := by decide +kernel
theorem dx_X1_countPieces_117 : decode (go_cc mx_X1_countPieces) 117 = .ok (.aload_n 0, 1) := by decide +kernel
theorem dx_X1_countPieces_118 : decode (go_cc mx_X1_countPieces) 118 = .ok (.getfield 23, 3) := by decide +kernel
theorem dx_X1_countPieces_121 : decode (go_cc mx_X1_countPieces) 121 = .ok (.iconst 0, 1) := by decide +kernel
theorem dx_X1_countPieces_122 : decode (go_cc mx_X1_countPieces) 122 = .ok (.invokestatic 46, 3) := by decide +kernel
theorem dx_X1_countPieces_125 : decode (go_cc mx_X1_countPieces) 125 = .ok (.ireturn, 1) := by decide +kernel
theorem dx_X1_endOfPiece_0 : decode (go_cc mx_X1_endOfPiece) 0 = .ok (.iconst 0, 1) := by decide +kernel
theorem dx_X1_endOfPiece_1 : decode (go_cc mx_X1_endOfPiece) 1 = .ok (.istore_n 3, 1) := by decide +kernel
theorem dx_X1_endOfPiece_2 : decode (go_cc mx_X1_endOfPiece) 2 = .ok (.iconst 0, 1) := by decide +kernel
theorem dx_X1_endOfPiece_3 : decode (go_cc mx_X1_endOfPiece) 3 = .ok (.istore 4, 2) := by decide +kernel
theorem dx_X1_endOfPiece_5 : decode (go_cc mx_X1_endOfPiece) 5 = .ok (.iload 4, 2) := by decide +kernel
theorem dx_X1_endOfPiece_7 : decode (go_cc mx_X1_endOfPiece) 7 = .ok (.iload_n 2, 1) := by decide +kernel
theorem dx_X1_endOfPiece_8 : decode (go_cc mx_X1_endOfPiece) 8 = .ok (.if_icmp .gt 16, 3) := by decide +kernel
theorem dx_X1_endOfPiece_11 : decode (go_cc mx_X1_endOfPiece) 11 = .ok (.aload_n 0, 1) := by decide +kernel
theorem dx_X1_endOfPiece_12 : decode (go_cc mx_X1_endOfPiece) 12 = .ok (.iload_n 1, 1) := by decide +kernel
theorem dx_X1_endOfPiece_13 : decode (go_cc mx_X1_endOfPiece) 13 = .ok (.iload_n 3, 1) := by decide +kernel
theorem dx_X1_endOfPiece_14 : decode (go_cc mx_X1_endOfPiece) 14 = .ok (.invokevirtual 88, 3) := by decide +kernel
theorem dx_X1_endOfPiece_17 : decode (go_cc mx_X1_endOfPiece) 17 = .ok (.istore_n 3, 1) := by decide +kernel
theorem dx_X1_endOfPiece_18 : decode (go_cc mx_X1_endOfPiece) 18 = .ok (.iinc 4 1, 3) := by decide +kernel
theorem dx_X1_endOfPiece_21 : decode (go_cc mx_X1_endOfPiece) 21 = .ok (.goto (-16), 3) := by decide +kernel
theorem dx_X1_endOfPiece_24 : decode (go_cc mx_X1_endOfPiece) 24 = .ok (.iload_n 3, 1) := by decide +kernel
theorem dx_X1_endOfPiece_25 : decode (go_cc mx_X1_endOfPiece) 25 = .ok (.ireturn, 1) := by decide +kernel
theorem dx_X1_nextEnd_0 : decode (go_cc mx_X1_nextEnd) 0 = .ok (.iload_n 2, 1) := by decide +kernel
theorem dx_X1_nextEnd_1 : decode (go_cc mx_X1_nextEnd) 1 = .ok (.iconst 1, 1) := by decide +kernel
theorem dx_X1_nextEnd_2 : decode (go_cc mx_X1_nextEnd) 2 = .ok (.iadd, 1) := by decide +kernel
theorem dx_X1_nextEnd_3 : decode (go_cc mx_X1_nextEnd) 3 = .ok (.istore_n 3, 1) := by decide +kernel
theorem dx_X1_nextEnd_4 : decode (go_cc mx_X1_nextEnd) 4 = .ok (.iload_n 3, 1) := by decide +kernel
theorem dx_X1_nextEnd_5 : decode (go_cc mx_X1_nextEnd) 5 = .ok (.aload_n 0, 1) := by decide +kernel
theorem dx_X1_nextEnd_6 : decode (go_cc mx_X1_nextEnd) 6 = .ok (.getfield 43, 3) := by decide +kernel
theorem dx_X1_nextEnd_9 : decode (go_cc mx_X1_nextEnd) 9 = .ok (.if_icmp .gt 42, 3) := by decide +kernel
theorem dx_X1_nextEnd_12 : decode (go_cc mx_X1_nextEnd) 12 = .ok (.aload_n 0, 1) := by decide +kernel
theorem dx_X1_nextEnd_13 : decode (go_cc mx_X1_nextEnd) 13 = .ok (.iload_n 1, 1) := by decide +kernel
theorem dx_X1_nextEnd_14 : decode (go_cc mx_X1_nextEnd) 14 = .ok (.iload_n 2, 1) := by decide +kernel
theorem dx_X1_nextEnd_15 : decode (go_cc mx_X1_nextEnd) 15 = .ok (.iload_n 3, 1) := by decide +kernel
theorem dx_X1_nextEnd_16 : decode (go_cc mx_X1_nextEnd) 16 = .ok (.invokevirtual 84, 3) := by decide +kernel
theorem dx_X1_nextEnd_19 : decode (go_cc mx_X1_nextEnd) 19 = .ok (.ifCond .eq 26, 3) := by decide +kernel
theorem dx_X1_nextEnd_22 : decode (go_cc mx_X1_nextEnd) 22 = .ok (.aload_n 0, 1) := by decide +kernel
theorem dx_X1_nextEnd_23 : decode (go_cc mx_X1_nextEnd) 23 = .ok (.getfield 23, 3) := by decide +kernel
theorem dx_X1_nextEnd_26 : decode (go_cc mx_X1_nextEnd) 26 = .ok (.iload_n 3, 1) := by decide +kernel
theorem dx_X1_nextEnd_27 : decode (go_cc mx_X1_nextEnd) 27 = .ok (.invokestatic 46, 3) := by decide +kernel
theorem dx_X1_nextEnd_30 : decode (go_cc mx_X1_nextEnd) 30 = .ok (.aload_n 0, 1) := by decide +kernel
theorem dx_X1_nextEnd_31 : decode (go_cc mx_X1_nextEnd) 31 = .ok (.getfield 23, 3) := by decide +kernel
theorem dx_X1_nextEnd_34 : decode (go_cc mx_X1_nextEnd) 34 = .ok (.iload_n 2, 1) := by decide +kernel
theorem dx_X1_nextEnd_35 : decode (go_cc mx_X1_nextEnd) 35 = .ok (.invokestatic 46, 3) := by decide +kernel
theorem dx_X1_nextEnd_38 : decode (go_cc mx_X1_nextEnd) 38 = .ok (.iconst 1, 1) := by decide +kernel
theorem dx_X1_nextEnd_39 : decode (go_cc mx_X1_nextEnd) 39 = .ok (.isub, 1) := by decide +kernel
theorem dx_X1_nextEnd_40 : decode (go_cc mx_X1_nextEnd) 40 = .ok (.if_icmp .ne 5, 3) := by decide +kernel
theorem dx_X1_nextEnd_43 : decode (go_cc mx_X1_nextEnd) 43 = .ok (.iload_n 3, 1) := by decide +kernel
theorem dx_X1_nextEnd_44 : decode (go_cc mx_X1_nextEnd) 44 = .ok (.ireturn, 1) := by decide +kernel
theorem dx_X1_nextEnd_45 : decode (go_cc mx_X1_nextEnd) 45 = .ok (.iinc 3 1, 3) := by decide +kernel
theorem dx_X1_nextEnd_48 : decode (go_cc mx_X1_nextEnd) 48 = .ok (.goto (-44), 3) := by decide +kernel
theorem dx_X1_nextEnd_51 : decode (go_cc mx_X1_nextEnd) 51 = .ok (.aload_n 0, 1) := by decide +kernel
theorem dx_X1_nextEnd_52 : decode (go_cc mx_X1_nextEnd) 52 = .ok (.getfield 43, 3) := by decide +kernel
theorem dx_X1_nextEnd_55 : decode (go_cc mx_X1_nextEnd) 55 = .ok (.ireturn, 1) := by decide +kernel
theorem dx_X1_beginnersOf_0 : decode (go_cc mx_X1_beginnersOf) 0 = .ok (.aload_n 0, 1) := by decide +kernel
theorem dx_X1_beginnersOf_1 : decode (go_cc mx_X1_beginnersOf) 1 = .ok (.getfield 26, 3) := by decide +kernel
theorem dx_X1_beginnersOf_4 : decode (go_cc mx_X1_beginnersOf) 4 = .ok (.iload_n 2, 1) := by decide +kernel
theorem dx_X1_beginnersOf_5 : decode (go_cc mx_X1_beginnersOf) 5 = .ok (.aload_n 1, 1) := by decide +kernel
theorem dx_X1_beginnersOf_6 : decode (go_cc mx_X1_beginnersOf) 6 = .ok (.lload_n 3, 1) := by decide +kernel
theorem dx_X1_beginnersOf_7 : decode (go_cc mx_X1_beginnersOf) 7 = .ok (.invokevirtual 92, 3) := by decide +kernel
theorem dx_X1_beginnersOf_10 : decode (go_cc mx_X1_beginnersOf) 10 = .ok (.invokestatic 64, 3) := by decide +kernel
theorem dx_X1_beginnersOf_13 : decode (go_cc mx_X1_beginnersOf) 13 = .ok (.iload_n 2, 1) := by decide +kernel
theorem dx_X1_beginnersOf_14 : decode (go_cc mx_X1_beginnersOf) 14 = .ok (.iconst 1, 1) := by decide +kernel
theorem dx_X1_beginnersOf_15 : decode (go_cc mx_X1_beginnersOf) 15 = .ok (.isub, 1) := by decide +kernel
theorem dx_X1_beginnersOf_16 : decode (go_cc mx_X1_beginnersOf) 16 = .ok (.istore 5, 2) := by decide +kernel
theorem dx_X1_beginnersOf_18 : decode (go_cc mx_X1_beginnersOf) 18 = .ok (.iload 5, 2) := by decide +kernel
theorem dx_X1_beginnersOf_20 : decode (go_cc mx_X1_beginnersOf) 20 = .ok (.ifCond .lt 71, 3) := by decide +kernel
theorem dx_X1_beginnersOf_23 : decode (go_cc mx_X1_beginnersOf) 23 = .ok (.lconst 0, 1) := by decide +kernel
theorem dx_X1_beginnersOf_24 : decode (go_cc mx_X1_beginnersOf) 24 = .ok (.lstore 6, 2) := by decide +kernel
theorem dx_X1_beginnersOf_26 : decode (go_cc mx_X1_beginnersOf) 26 = .ok (.iload 5, 2) := by decide +kernel
theorem dx_X1_beginnersOf_28 : decode (go_cc mx_X1_beginnersOf) 28 = .ok (.iconst 1, 1) := by decide +kernel
theorem dx_X1_beginnersOf_29 : decode (go_cc mx_X1_beginnersOf) 29 = .ok (.iadd, 1) := by decide +kernel
theorem dx_X1_beginnersOf_30 : decode (go_cc mx_X1_beginnersOf) 30 = .ok (.istore 8, 2) := by decide +kernel
theorem dx_X1_beginnersOf_32 : decode (go_cc mx_X1_beginnersOf) 32 = .ok (.iload 8, 2) := by decide +kernel
theorem dx_X1_beginnersOf_34 : decode (go_cc mx_X1_beginnersOf) 34 = .ok (.iload_n 2, 1) := by decide +kernel
theorem dx_X1_beginnersOf_35 : decode (go_cc mx_X1_beginnersOf) 35 = .ok (.if_icmp .gt 35, 3) := by decide +kernel
theorem dx_X1_beginnersOf_38 : decode (go_cc mx_X1_beginnersOf) 38 = .ok (.lload 6, 2) := by decide +kernel
theorem dx_X1_beginnersOf_40 : decode (go_cc mx_X1_beginnersOf) 40 = .ok (.aload_n 1, 1) := by decide +kernel
theorem dx_X1_beginnersOf_41 : decode (go_cc mx_X1_beginnersOf) 41 = .ok (.aload_n 0, 1) := by decide +kernel
theorem dx_X1_beginnersOf_42 : decode (go_cc mx_X1_beginnersOf) 42 = .ok (.iload 5, 2) := by decide +kernel
theorem dx_X1_beginnersOf_44 : decode (go_cc mx_X1_beginnersOf) 44 = .ok (.iload 8, 2) := by decide +kernel
theorem dx_X1_beginnersOf_46 : decode (go_cc mx_X1_beginnersOf) 46 = .ok (.invokevirtual 68, 3) := by decide +kernel
theorem dx_X1_beginnersOf_49 : decode (go_cc mx_X1_beginnersOf) 49 = .ok (.aload_n 0, 1) := by decide +kernel
theorem dx_X1_beginnersOf_50 : decode (go_cc mx_X1_beginnersOf) 50 = .ok (.getfield 26, 3) := by decide +kernel
theorem dx_X1_beginnersOf_53 : decode (go_cc mx_X1_beginnersOf) 53 = .ok (.iload 8, 2) := by decide +kernel
theorem dx_X1_beginnersOf_55 : decode (go_cc mx_X1_beginnersOf) 55 = .ok (.invokestatic 80, 3) := by decide +kernel
theorem dx_X1_beginnersOf_58 : decode (go_cc mx_X1_beginnersOf) 58 = .ok (.invokevirtual 72, 3) := by decide +kernel
theorem dx_X1_beginnersOf_61 : decode (go_cc mx_X1_beginnersOf) 61 = .ok (.lor, 1) := by decide +kernel
theorem dx_X1_beginnersOf_62 : decode (go_cc mx_X1_beginnersOf) 62 = .ok (.lstore 6, 2) := by decide +kernel
theorem dx_X1_beginnersOf_64 : decode (go_cc mx_X1_beginnersOf) 64 = .ok (.iinc 8 1, 3) := by decide +kernel
theorem dx_X1_beginnersOf_67 : decode (go_cc mx_X1_beginnersOf) 67 = .ok (.goto (-35), 3) := by decide +kernel
theorem dx_X1_beginnersOf_70 : decode (go_cc mx_X1_beginnersOf) 70 = .ok (.aload_n 0, 1) := by decide +kernel
theorem dx_X1_beginnersOf_71 : decode (go_cc mx_X1_beginnersOf) 71 = .ok (.getfield 26, 3) := by decide +kernel
theorem dx_X1_beginnersOf_74 : decode (go_cc mx_X1_beginnersOf) 74 = .ok (.iload 5, 2) := by decide +kernel
theorem dx_X1_beginnersOf_76 : decode (go_cc mx_X1_beginnersOf) 76 = .ok (.aload_n 1, 1) := by decide +kernel
theorem dx_X1_beginnersOf_77 : decode (go_cc mx_X1_beginnersOf) 77 = .ok (.lload 6, 2) := by decide +kernel
theorem dx_X1_beginnersOf_79 : decode (go_cc mx_X1_beginnersOf) 79 = .ok (.invokevirtual 92, 3) := by decide +kernel
theorem dx_X1_beginnersOf_82 : decode (go_cc mx_X1_beginnersOf) 82 = .ok (.invokestatic 64, 3) := by decide +kernel
theorem dx_X1_beginnersOf_85 : decode (go_cc mx_X1_beginnersOf) 85 = .ok (.iinc 5 (-1), 3) := by decide +kernel
theorem dx_X1_beginnersOf_88 : decode (go_cc mx_X1_beginnersOf) 88 = .ok (.goto (-70), 3) := by decide +kernel
theorem dx_X1_beginnersOf_91 : decode (go_cc mx_X1_beginnersOf) 91 = .ok (.aload_n 0, 1) := by decide +kernel
theorem dx_X1_beginnersOf_92 : decode (go_cc mx_X1_beginnersOf) 92 = .ok (.getfield 26, 3) := by decide +kernel
theorem dx_X1_beginnersOf_95 : decode (go_cc mx_X1_beginnersOf) 95 = .ok (.iconst 0, 1) := by decide +kernel
theorem dx_X1_beginnersOf_96 : decode (go_cc mx_X1_beginnersOf) 96 = .ok (.invokestatic 80, 3) := by decide +kernel
theorem dx_X1_beginnersOf_99 : decode (go_cc mx_X1_beginnersOf) 99 = .ok (.lreturn, 1) := by decide +kernel
theorem dx_X2_init_0 : decode (go_cc mx_X2_init) 0 = .ok (.aload_n 0, 1) := by decide +kernel
theorem dx_X2_init_1 : decode (go_cc mx_X2_init) 1 = .ok (.aload_n 1, 1) := by decide +kernel
theorem dx_X2_init_2 : decode (go_cc mx_X2_init) 2 = .ok (.aload_n 2, 1) := by decide +kernel
theorem dx_X2_init_3 : decode (go_cc mx_X2_init) 3 = .ok (.iload_n 3, 1) := by decide +kernel
theorem dx_X2_init_4 : decode (go_cc mx_X2_init) 4 = .ok (.lconst 0, 1) := by decide +kernel
theorem dx_X2_init_5 : decode (go_cc mx_X2_init) 5 = .ok (.invokespecial 3, 3) := by decide +kernel
theorem dx_X2_init_8 : decode (go_cc mx_X2_init) 8 = .ok (.aload_n 0, 1) := by decide +kernel
theorem dx_X2_init_9 : decode (go_cc mx_X2_init) 9 = .ok (.iload_n 3, 1) := by decide +kernel
theorem dx_X2_init_10 : decode (go_cc mx_X2_init) 10 = .ok (.ifCond .eq 8, 3) := by decide +kernel
theorem dx_X2_init_13 : decode (go_cc mx_X2_init) 13 = .ok (.bipush 14, 2) := by decide +kernel
theorem dx_X2_init_15 : decode (go_cc mx_X2_init) 15 = .ok (.goto 5, 3) := by decide +kernel
theorem dx_X2_init_18 : decode (go_cc mx_X2_init) 18 = .ok (.bipush 105, 2) := by decide +kernel
theorem dx_X2_init_20 : decode (go_cc mx_X2_init) 20 = .ok (.bipush 8, 2) := by decide +kernel
theorem dx_X2_init_22 : decode (go_cc mx_X2_init) 22 = .ok (.imul, 1) := by decide +kernel
theorem dx_X2_init_23 : decode (go_cc mx_X2_init) 23 = .ok (.newarray .long, 2) := by decide +kernel
theorem dx_X2_init_25 : decode (go_cc mx_X2_init) 25 = .ok (.putfield 9, 3) := by decide +kernel
theorem dx_X2_init_28 : decode (go_cc mx_X2_init) 28 = .ok (.return_, 1) := by decide +kernel
theorem dx_X2_ofLetter_0 : decode (go_cc mx_X2_ofLetter) 0 = .ok (.lconst 1, 1) := by decide +kernel
theorem dx_X2_ofLetter_1 : decode (go_cc mx_X2_ofLetter) 1 = .ok (.lreturn, 1) := by decide +kernel
theorem dx_X2_ofTwo_0 : decode (go_cc mx_X2_ofTwo) 0 = .ok (.lload_n 1, 1) := by decide +kernel
theorem dx_X2_ofTwo_1 : decode (go_cc mx_X2_ofTwo) 1 = .ok (.lload_n 3, 1) := by decide +kernel
theorem dx_X2_ofTwo_2 : decode (go_cc mx_X2_ofTwo) 2 = .ok (.invokestatic 15, 3) := by decide +kernel
theorem dx_X2_ofTwo_5 : decode (go_cc mx_X2_ofTwo) 5 = .ok (.lreturn, 1) := by decide +kernel
theorem dx_X2_merge_0 : decode (go_cc mx_X2_merge) 0 = .ok (.lload_n 1, 1) := by decide +kernel
theorem dx_X2_merge_1 : decode (go_cc mx_X2_merge) 1 = .ok (.lload_n 3, 1) := by decide +kernel
theorem dx_X2_merge_2 : decode (go_cc mx_X2_merge) 2 = .ok (.invokestatic 19, 3) := by decide +kernel
theorem dx_X2_merge_5 : decode (go_cc mx_X2_merge) 5 = .ok (.lreturn, 1) := by decide +kernel
theorem dx_X2_takeUnits_0 : decode (go_cc mx_X2_takeUnits) 0 = .ok (.iload_n 1, 1) := by decide +kernel
theorem dx_X2_takeUnits_1 : decode (go_cc mx_X2_takeUnits) 1 = .ok (.bipush 8, 2) := by decide +kernel
theorem dx_X2_takeUnits_3 : decode (go_cc mx_X2_takeUnits) 3 = .ok (.imul, 1) := by decide +kernel
theorem dx_X2_takeUnits_4 : decode (go_cc mx_X2_takeUnits) 4 = .ok (.istore_n 2, 1) := by decide +kernel
theorem dx_X2_takeUnits_5 : decode (go_cc mx_X2_takeUnits) 5 = .ok (.iconst 0, 1) := by decide +kernel
theorem dx_X2_takeUnits_6 : decode (go_cc mx_X2_takeUnits) 6 = .ok (.istore_n 3, 1) := by decide +kernel
theorem dx_X2_takeUnits_7 : decode (go_cc mx_X2_takeUnits) 7 = .ok (.iload_n 3, 1) := by decide +kernel
theorem dx_X2_takeUnits_8 : decode (go_cc mx_X2_takeUnits) 8 = .ok (.bipush 8, 2) := by decide +kernel
theorem dx_X2_takeUnits_10 : decode (go_cc mx_X2_takeUnits) 10 = .ok (.if_icmp .ge 35, 3) := by decide +kernel
theorem dx_X2_takeUnits_13 : decode (go_cc mx_X2_takeUnits) 13 = .ok (.aload_n 0, 1) := by decide +kernel
theorem dx_X2_takeUnits_14 : decode (go_cc mx_X2_takeUnits) 14 = .ok (.getfield 9, 3) := by decide +kernel
theorem dx_X2_takeUnits_17 : decode (go_cc mx_X2_takeUnits) 17 = .ok (.iload_n 2, 1) := by decide +kernel
theorem dx_X2_takeUnits_18 : decode (go_cc mx_X2_takeUnits) 18 = .ok (.iload_n 3, 1) := by decide +kernel
theorem dx_X2_takeUnits_19 : decode (go_cc mx_X2_takeUnits) 19 = .ok (.iadd, 1) := by decide +kernel
theorem dx_X2_takeUnits_20 : decode (go_cc mx_X2_takeUnits) 20 = .ok (.aload_n 0, 1) := by decide +kernel
theorem dx_X2_takeUnits_21 : decode (go_cc mx_X2_takeUnits) 21 = .ok (.getfield 22, 3) := by decide +kernel
theorem dx_X2_takeUnits_24 : decode (go_cc mx_X2_takeUnits) 24 = .ok (.iload_n 3, 1) := by decide +kernel
theorem dx_X2_takeUnits_25 : decode (go_cc mx_X2_takeUnits) 25 = .ok (.invokestatic 25, 3) := by decide +kernel
theorem dx_X2_takeUnits_28 : decode (go_cc mx_X2_takeUnits) 28 = .ok (.aload_n 0, 1) := by decide +kernel
theorem dx_X2_takeUnits_29 : decode (go_cc mx_X2_takeUnits) 29 = .ok (.iload_n 3, 1) := by decide +kernel
theorem dx_X2_takeUnits_30 : decode (go_cc mx_X2_takeUnits) 30 = .ok (.invokevirtual 29, 3) := by decide +kernel
theorem dx_X2_takeUnits_33 : decode (go_cc mx_X2_takeUnits) 33 = .ok (.invokestatic 19, 3) := by decide +kernel
theorem dx_X2_takeUnits_36 : decode (go_cc mx_X2_takeUnits) 36 = .ok (.invokestatic 33, 3) := by decide +kernel
theorem dx_X2_takeUnits_39 : decode (go_cc mx_X2_takeUnits) 39 = .ok (.iinc 3 1, 3) := by decide +kernel
theorem dx_X2_takeUnits_42 : decode (go_cc mx_X2_takeUnits) 42 = .ok (.goto (-35), 3) := by decide +kernel
theorem dx_X2_takeUnits_45 : decode (go_cc mx_X2_takeUnits) 45 = .ok (.iconst 0, 1) := by decide +kernel
theorem dx_X2_takeUnits_46 : decode (go_cc mx_X2_takeUnits) 46 = .ok (.istore_n 3, 1) := by decide +kernel
theorem dx_X2_takeUnits_47 : decode (go_cc mx_X2_takeUnits) 47 = .ok (.iload_n 3, 1) := by decide +kernel
theorem dx_X2_takeUnits_48 : decode (go_cc mx_X2_takeUnits) 48 = .ok (.bipush 8, 2) := by decide +kernel
theorem dx_X2_takeUnits_50 : decode (go_cc mx_X2_takeUnits) 50 = .ok (.if_icmp .ge 77, 3) := by decide +kernel
theorem dx_X2_takeUnits_53 : decode (go_cc mx_X2_takeUnits) 53 = .ok (.lconst 0, 1) := by decide +kernel
theorem dx_X2_takeUnits_54 : decode (go_cc mx_X2_takeUnits) 54 = .ok (.lstore 4, 2) := by decide +kernel
theorem dx_X2_takeUnits_56 : decode (go_cc mx_X2_takeUnits) 56 = .ok (.iconst 0, 1) := by decide +kernel
theorem dx_X2_takeUnits_57 : decode (go_cc mx_X2_takeUnits) 57 = .ok (.istore 6, 2) := by decide +kernel
theorem dx_X2_takeUnits_59 : decode (go_cc mx_X2_takeUnits) 59 = .ok (.iload 6, 2) := by decide +kernel
theorem dx_X2_takeUnits_61 : decode (go_cc mx_X2_takeUnits) 61 = .ok (.bipush 8, 2) := by decide +kernel
theorem dx_X2_takeUnits_63 : decode (go_cc mx_X2_takeUnits) 63 = .ok (.if_icmp .ge 48, 3) := by decide +kernel
theorem dx_X2_takeUnits_66 : decode (go_cc mx_X2_takeUnits) 66 = .ok (.lload 4, 2) := by decide +kernel
theorem dx_X2_takeUnits_68 : decode (go_cc mx_X2_takeUnits) 68 = .ok (.aload_n 0, 1) := by decide +kernel
theorem dx_X2_takeUnits_69 : decode (go_cc mx_X2_takeUnits) 69 = .ok (.getfield 37, 3) := by decide +kernel
theorem dx_X2_takeUnits_72 : decode (go_cc mx_X2_takeUnits) 72 = .ok (.getfield 41, 3) := by decide +kernel
theorem dx_X2_takeUnits_75 : decode (go_cc mx_X2_takeUnits) 75 = .ok (.iload_n 3, 1) := by decide +kernel
theorem dx_X2_takeUnits_76 : decode (go_cc mx_X2_takeUnits) 76 = .ok (.bipush 8, 2) := by decide +kernel
theorem dx_X2_takeUnits_78 : decode (go_cc mx_X2_takeUnits) 78 = .ok (.imul, 1) := by decide +kernel
theorem dx_X2_takeUnits_79 : decode (go_cc mx_X2_takeUnits) 79 = .ok (.iload 6, 2) := by decide +kernel
theorem dx_X2_takeUnits_81 : decode (go_cc mx_X2_takeUnits) 81 = .ok (.iadd, 1) := by decide +kernel
theorem dx_X2_takeUnits_82 : decode (go_cc mx_X2_takeUnits) 82 = .ok (.invokestatic 47, 3) := by decide +kernel
theorem dx_X2_takeUnits_85 : decode (go_cc mx_X2_takeUnits) 85 = .ok (.i2l, 1) := by decide +kernel
theorem dx_X2_takeUnits_86 : decode (go_cc mx_X2_takeUnits) 86 = .ok (.aload_n 0, 1) := by decide +kernel
theorem dx_X2_takeUnits_87 : decode (go_cc mx_X2_takeUnits) 87 = .ok (.getfield 9, 3) := by decide +kernel
theorem dx_X2_takeUnits_90 : decode (go_cc mx_X2_takeUnits) 90 = .ok (.iload_n 2, 1) := by decide +kernel
theorem dx_X2_takeUnits_91 : decode (go_cc mx_X2_takeUnits) 91 = .ok (.iload 6, 2) := by decide +kernel
theorem dx_X2_takeUnits_93 : decode (go_cc mx_X2_takeUnits) 93 = .ok (.iadd, 1) := by decide +kernel
theorem dx_X2_takeUnits_94 : decode (go_cc mx_X2_takeUnits) 94 = .ok (.invokestatic 25, 3) := by decide +kernel
theorem dx_X2_takeUnits_97 : decode (go_cc mx_X2_takeUnits) 97 = .ok (.invokestatic 15, 3) := by decide +kernel
theorem dx_X2_takeUnits_100 : decode (go_cc mx_X2_takeUnits) 100 = .ok (.invokestatic 19, 3) := by decide +kernel
theorem dx_X2_takeUnits_103 : decode (go_cc mx_X2_takeUnits) 103 = .ok (.lstore 4, 2) := by decide +kernel
theorem dx_X2_takeUnits_105 : decode (go_cc mx_X2_takeUnits) 105 = .ok (.iinc 6 1, 3) := by decide +kernel
theorem dx_X2_takeUnits_108 : decode (go_cc mx_X2_takeUnits) 108 = .ok (.goto (-49), 3) := by decide +kernel
theorem dx_X2_takeUnits_111 : decode (go_cc mx_X2_takeUnits) 111 = .ok (.aload_n 0, 1) := by decide +kernel
theorem dx_X2_takeUnits_112 : decode (go_cc mx_X2_takeUnits) 112 = .ok (.getfield 22, 3) := by decide +kernel
theorem dx_X2_takeUnits_115 : decode (go_cc mx_X2_takeUnits) 115 = .ok (.iload_n 3, 1) := by decide +kernel
theorem dx_X2_takeUnits_116 : decode (go_cc mx_X2_takeUnits) 116 = .ok (.lload 4, 2) := by decide +kernel
theorem dx_X2_takeUnits_118 : decode (go_cc mx_X2_takeUnits) 118 = .ok (.invokestatic 33, 3) := by decide +kernel
theorem dx_X2_takeUnits_121 : decode (go_cc mx_X2_takeUnits) 121 = .ok (.iinc 3 1, 3) := by decide +kernel
theorem dx_X2_takeUnits_124 : decode (go_cc mx_X2_takeUnits) 124 = .ok (.goto (-77), 3) := by decide +kernel
theorem dx_X2_takeUnits_127 : decode (go_cc mx_X2_takeUnits) 127 = .ok (.return_, 1) := by decide +kernel
theorem dx_X2_unitsToLetters_0 : decode (go_cc mx_X2_unitsToLetters) 0 = .ok (.aload_n 0, 1) := by decide +kernel
theorem dx_X2_unitsToLetters_1 : decode (go_cc mx_X2_unitsToLetters) 1 = .ok (.getfield 37, 3) := by decide +kernel
theorem dx_X2_unitsToLetters_4 : decode (go_cc mx_X2_unitsToLetters) 4 = .ok (.getfield 51, 3) := by decide +kernel
theorem dx_X2_unitsToLetters_7 : decode (go_cc mx_X2_unitsToLetters) 7 = .ok (.iload_n 1, 1) := by decide +kernel
theorem dx_X2_unitsToLetters_8 : decode (go_cc mx_X2_unitsToLetters) 8 = .ok (.invokestatic 47, 3) := by decide +kernel
theorem dx_X2_unitsToLetters_11 : decode (go_cc mx_X2_unitsToLetters) 11 = .ok (.istore_n 2, 1) := by decide +kernel
theorem dx_X2_unitsToLetters_12 : decode (go_cc mx_X2_unitsToLetters) 12 = .ok (.lconst 0, 1) := by decide +kernel
theorem dx_X2_unitsToLetters_13 : decode (go_cc mx_X2_unitsToLetters) 13 = .ok (.lstore_n 3, 1) := by decide +kernel
theorem dx_X2_unitsToLetters_14 : decode (go_cc mx_X2_unitsToLetters) 14 = .ok (.bipush 8, 2) := by decide +kernel
theorem dx_X2_unitsToLetters_16 : decode (go_cc mx_X2_unitsToLetters) 16 = .ok (.istore 5, 2) := by decide +kernel
theorem dx_X2_unitsToLetters_18 : decode (go_cc mx_X2_unitsToLetters) 18 = .ok (.iload 5, 2) := by decide +kernel
theorem dx_X2_unitsToLetters_20 : decode (go_cc mx_X2_unitsToLetters) 20 = .ok (.bipush 14, 2) := by decide +kernel
theorem dx_X2_unitsToLetters_22 : decode (go_cc mx_X2_unitsToLetters) 22 = .ok (.if_icmp .ge 30, 3) := by decide +kernel
theorem dx_X2_unitsToLetters_25 : decode (go_cc mx_X2_unitsToLetters) 25 = .ok (.iload_n 2, 1) := by decide +kernel
theorem dx_X2_unitsToLetters_26 : decode (go_cc mx_X2_unitsToLetters) 26 = .ok (.iload 5, 2) := by decide +kernel
theorem dx_X2_unitsToLetters_28 : decode (go_cc mx_X2_unitsToLetters) 28 = .ok (.iushr, 1) := by decide +kernel
theorem dx_X2_unitsToLetters_29 : decode (go_cc mx_X2_unitsToLetters) 29 = .ok (.iconst 1, 1) := by decide +kernel
theorem dx_X2_unitsToLetters_30 : decode (go_cc mx_X2_unitsToLetters) 30 = .ok (.iand, 1) := by decide +kernel
theorem dx_X2_unitsToLetters_31 : decode (go_cc mx_X2_unitsToLetters) 31 = .ok (.ifCond .eq 15, 3) := by decide +kernel
theorem dx_X2_unitsToLetters_34 : decode (go_cc mx_X2_unitsToLetters) 34 = .ok (.lload_n 3, 1) := by decide +kernel
theorem dx_X2_unitsToLetters_35 : decode (go_cc mx_X2_unitsToLetters) 35 = .ok (.aload_n 0, 1) := by decide +kernel
theorem dx_X2_unitsToLetters_36 : decode (go_cc mx_X2_unitsToLetters) 36 = .ok (.getfield 22, 3) := by decide +kernel
theorem dx_X2_unitsToLetters_39 : decode (go_cc mx_X2_unitsToLetters) 39 = .ok (.iload 5, 2) := by decide +kernel
theorem dx_X2_unitsToLetters_41 : decode (go_cc mx_X2_unitsToLetters) 41 = .ok (.invokestatic 25, 3) := by decide +kernel
theorem dx_X2_unitsToLetters_44 : decode (go_cc mx_X2_unitsToLetters) 44 = .ok (.ladd, 1) := by decide +kernel
theorem dx_X2_unitsToLetters_45 : decode (go_cc mx_X2_unitsToLetters) 45 = .ok (.lstore_n 3, 1) := by decide +kernel
theorem dx_X2_unitsToLetters_46 : decode (go_cc mx_X2_unitsToLetters) 46 = .ok (.iinc 5 1, 3) := by decide +kernel
theorem dx_X2_unitsToLetters_49 : decode (go_cc mx_X2_unitsToLetters) 49 = .ok (.goto (-31), 3) := by decide +kernel
theorem dx_X2_unitsToLetters_52 : decode (go_cc mx_X2_unitsToLetters) 52 = .ok (.lload_n 3, 1) := by decide +kernel
theorem dx_X2_unitsToLetters_53 : decode (go_cc mx_X2_unitsToLetters) 53 = .ok (.lreturn, 1) := by decide +kernel
theorem dx_X2_treesWithout_0 : decode (go_cc mx_X2_treesWithout) 0 = .ok (.aload_n 0, 1) := by decide +kernel
theorem dx_X2_treesWithout_1 : decode (go_cc mx_X2_treesWithout) 1 = .ok (.getfield 37, 3) := by decide +kernel
theorem dx_X2_treesWithout_4 : decode (go_cc mx_X2_treesWithout) 4 = .ok (.iload_n 2, 1) := by decide +kernel
theorem dx_X2_treesWithout_5 : decode (go_cc mx_X2_treesWithout) 5 = .ok (.iload_n 1, 1) := by decide +kernel
theorem dx_X2_treesWithout_6 : decode (go_cc mx_X2_treesWithout) 6 = .ok (.invokevirtual 54, 3) := by decide +kernel
theorem dx_X2_treesWithout_9 : decode (go_cc mx_X2_treesWithout) 9 = .ok (.iload_n 3, 1) := by decide +kernel
theorem dx_X2_treesWithout_10 : decode (go_cc mx_X2_treesWithout) 10 = .ok (.iload 4, 2) := by decide +kernel
theorem dx_X2_treesWithout_12 : decode (go_cc mx_X2_treesWithout) 12 = .ok (.aload_n 0, 1) := by decide +kernel
theorem dx_X2_treesWithout_13 : decode (go_cc mx_X2_treesWithout) 13 = .ok (.getfield 58, 3) := by decide +kernel
theorem dx_X2_treesWithout_16 : decode (go_cc mx_X2_treesWithout) 16 = .ok (.invokestatic 62, 3) := by decide +kernel
theorem dx_X2_treesWithout_19 : decode (go_cc mx_X2_treesWithout) 19 = .ok (.bipush 8, 2) := by decide +kernel
theorem dx_X2_treesWithout_21 : decode (go_cc mx_X2_treesWithout) 21 = .ok (.imul, 1) := by decide +kernel
theorem dx_X2_treesWithout_22 : decode (go_cc mx_X2_treesWithout) 22 = .ok (.istore 5, 2) := by decide +kernel
theorem dx_X2_treesWithout_24 : decode (go_cc mx_X2_treesWithout) 24 = .ok (.lconst 0, 1) := by decide +kernel
theorem dx_X2_treesWithout_25 : decode (go_cc mx_X2_treesWithout) 25 = .ok (.lstore 6, 2) := by decide +kernel
theorem dx_X2_treesWithout_27 : decode (go_cc mx_X2_treesWithout) 27 = .ok (.iconst 0, 1) := by decide +kernel
theorem dx_X2_treesWithout_28 : decode (go_cc mx_X2_treesWithout) 28 = .ok (.istore 8, 2) := by decide +kernel
theorem dx_X2_treesWithout_30 : decode (go_cc mx_X2_treesWithout) 30 = .ok (.iload 8, 2) := by decide +kernel
theorem dx_X2_treesWithout_32 : decode (go_cc mx_X2_treesWithout) 32 = .ok (.bipush 8, 2) := by decide +kernel
theorem dx_X2_treesWithout_34 : decode (go_cc mx_X2_treesWithout) 34 = .ok (.if_icmp .ge 44, 3) := by decide +kernel
theorem dx_X2_treesWithout_37 : decode (go_cc mx_X2_treesWithout) 37 = .ok (.lload 6, 2) := by decide +kernel
theorem dx_X2_treesWithout_39 : decode (go_cc mx_X2_treesWithout) 39 = .ok (.aload_n 0, 1) := by decide +kernel
theorem dx_X2_treesWithout_40 : decode (go_cc mx_X2_treesWithout) 40 = .ok (.getfield 37, 3) := by decide +kernel
theorem dx_X2_treesWithout_43 : decode (go_cc mx_X2_treesWithout) 43 = .ok (.getfield 66, 3) := by decide +kernel
theorem dx_X2_treesWithout_46 : decode (go_cc mx_X2_treesWithout) 46 = .ok (.iload 8, 2) := by decide +kernel
theorem dx_X2_treesWithout_48 : decode (go_cc mx_X2_treesWithout) 48 = .ok (.invokestatic 47, 3) := by decide +kernel
theorem dx_X2_treesWithout_51 : decode (go_cc mx_X2_treesWithout) 51 = .ok (.i2l, 1) := by decide +kernel
theorem dx_X2_treesWithout_52 : decode (go_cc mx_X2_treesWithout) 52 = .ok (.aload_n 0, 1) := by decide +kernel
theorem dx_X2_treesWithout_53 : decode (go_cc mx_X2_treesWithout) 53 = .ok (.getfield 9, 3) := by decide +kernel
theorem dx_X2_treesWithout_56 : decode (go_cc mx_X2_treesWithout) 56 = .ok (.iload 5, 2) := by decide +kernel
theorem dx_X2_treesWithout_58 : decode (go_cc mx_X2_treesWithout) 58 = .ok (.iload 8, 2) := by decide +kernel
theorem dx_X2_treesWithout_60 : decode (go_cc mx_X2_treesWithout) 60 = .ok (.iadd, 1) := by decide +kernel
theorem dx_X2_treesWithout_61 : decode (go_cc mx_X2_treesWithout) 61 = .ok (.invokestatic 25, 3) := by decide +kernel
theorem dx_X2_treesWithout_64 : decode (go_cc mx_X2_treesWithout) 64 = .ok (.invokestatic 15, 3) := by decide +kernel
theorem dx_X2_treesWithout_67 : decode (go_cc mx_X2_treesWithout) 67 = .ok (.invokestatic 19, 3) := by decide +kernel
theorem dx_X2_treesWithout_70 : decode (go_cc mx_X2_treesWithout) 70 = .ok (.lstore 6, 2) := by decide +kernel
theorem dx_X2_treesWithout_72 : decode (go_cc mx_X2_treesWithout) 72 = .ok (.iinc 8 1, 3) := by decide +kernel
theorem dx_X2_treesWithout_75 : decode (go_cc mx_X2_treesWithout) 75 = .ok (.goto (-45), 3) := by decide +kernel
theorem dx_X2_treesWithout_78 : decode (go_cc mx_X2_treesWithout) 78 = .ok (.lload 6, 2) := by decide +kernel
theorem dx_X2_treesWithout_80 : decode (go_cc mx_X2_treesWithout) 80 = .ok (.lreturn, 1) := by decide +kernel
theorem dx_X2_doubtfulAt_0 : decode (go_cc mx_X2_doubtfulAt) 0 = .ok (.iconst (-1), 1) := by decide +kernel
theorem dx_X2_doubtfulAt_1 : decode (go_cc mx_X2_doubtfulAt) 1 = .ok (.istore_n 3, 1) := by decide +kernel
theorem dx_X2_doubtfulAt_2 : decode (go_cc mx_X2_doubtfulAt) 2 = .ok (.bipush 7, 2) := by decide +kernel
theorem dx_X2_doubtfulAt_4 : decode (go_cc mx_X2_doubtfulAt) 4 = .ok (.istore 4, 2) := by decide +kernel
theorem dx_X2_doubtfulAt_6 : decode (go_cc mx_X2_doubtfulAt) 6 = .ok (.iload 4, 2) := by decide +kernel
theorem dx_X2_doubtfulAt_8 : decode (go_cc mx_X2_doubtfulAt) 8 = .ok (.ifCond .lt 43, 3) := by decide +kernel
theorem dx_X2_doubtfulAt_11 : decode (go_cc mx_X2_doubtfulAt) 11 = .ok (.aload_n 0, 1) := by decide +kernel
theorem dx_X2_doubtfulAt_12 : decode (go_cc mx_X2_doubtfulAt) 12 = .ok (.iload 4, 2) := by decide +kernel
theorem dx_X2_doubtfulAt_14 : decode (go_cc mx_X2_doubtfulAt) 14 = .ok (.iload_n 1, 1) := by decide +kernel
theorem dx_X2_doubtfulAt_15 : decode (go_cc mx_X2_doubtfulAt) 15 = .ok (.iload_n 2, 1) := by decide +kernel
theorem dx_X2_doubtfulAt_16 : decode (go_cc mx_X2_doubtfulAt) 16 = .ok (.invokevirtual 69, 3) := by decide +kernel
theorem dx_X2_doubtfulAt_19 : decode (go_cc mx_X2_doubtfulAt) 19 = .ok (.lstore 5, 2) := by decide +kernel
theorem dx_X2_doubtfulAt_21 : decode (go_cc mx_X2_doubtfulAt) 21 = .ok (.lload 5, 2) := by decide +kernel
theorem dx_X2_doubtfulAt_23 : decode (go_cc mx_X2_doubtfulAt) 23 = .ok (.lconst 0, 1) := by decide +kernel
theorem dx_X2_doubtfulAt_24 : decode (go_cc mx_X2_doubtfulAt) 24 = .ok (.lcmp, 1) := by decide +kernel
theorem dx_X2_doubtfulAt_25 : decode (go_cc mx_X2_doubtfulAt) 25 = .ok (.ifCond .ge 6, 3) := by decide +kernel
theorem dx_X2_doubtfulAt_28 : decode (go_cc mx_X2_doubtfulAt) 28 = .ok (.bipush (-7), 2) := by decide +kernel
theorem dx_X2_doubtfulAt_30 : decode (go_cc mx_X2_doubtfulAt) 30 = .ok (.ireturn, 1) := by decide +kernel
theorem dx_X2_doubtfulAt_31 : decode (go_cc mx_X2_doubtfulAt) 31 = .ok (.lload 5, 2) := by decide +kernel
theorem dx_X2_doubtfulAt_33 : decode (go_cc mx_X2_doubtfulAt) 33 = .ok (.lconst 1, 1) := by decide +kernel
theorem dx_X2_doubtfulAt_34 : decode (go_cc mx_X2_doubtfulAt) 34 = .ok (.lcmp, 1) := by decide +kernel
theorem dx_X2_doubtfulAt_35 : decode (go_cc mx_X2_doubtfulAt) 35 = .ok (.ifCond .le 8, 3) := by decide +kernel
theorem dx_X2_doubtfulAt_38 : decode (go_cc mx_X2_doubtfulAt) 38 = .ok (.iload 4, 2) := by decide +kernel
theorem dx_X2_doubtfulAt_40 : decode (go_cc mx_X2_doubtfulAt) 40 = .ok (.goto 4, 3) := by decide +kernel
theorem dx_X2_doubtfulAt_43 : decode (go_cc mx_X2_doubtfulAt) 43 = .ok (.iload_n 3, 1) := by decide +kernel
theorem dx_X2_doubtfulAt_44 : decode (go_cc mx_X2_doubtfulAt) 44 = .ok (.istore_n 3, 1) := by decide +kernel
theorem dx_X2_doubtfulAt_45 : decode (go_cc mx_X2_doubtfulAt) 45 = .ok (.iinc 4 (-1), 3) := by decide +kernel
theorem dx_X2_doubtfulAt_48 : decode (go_cc mx_X2_doubtfulAt) 48 = .ok (.goto (-42), 3) := by decide +kernel
theorem dx_X2_doubtfulAt_51 : decode (go_cc mx_X2_doubtfulAt) 51 = .ok (.iload_n 3, 1) := by decide +kernel
theorem dx_X2_doubtfulAt_52 : decode (go_cc mx_X2_doubtfulAt) 52 = .ok (.ireturn, 1) := by decide +kernel
theorem dx_X2_plus_0 : decode (go_cc mx_X2_plus) 0 = .ok (.lload_n 0, 1) := by decide +kernel
theorem dx_X2_plus_1 : decode (go_cc mx_X2_plus) 1 = .ok (.lconst 0, 1) := by decide +kernel
theorem dx_X2_plus_2 : decode (go_cc mx_X2_plus) 2 = .ok (.lcmp, 1) := by decide +kernel
theorem dx_X2_plus_3 : decode (go_cc mx_X2_plus) 3 = .ok (.ifCond .lt 9, 3) := by decide +kernel
theorem dx_X2_plus_6 : decode (go_cc mx_X2_plus) 6 = .ok (.lload_n 2, 1) := by decide +kernel
theorem dx_X2_plus_7 : decode (go_cc mx_X2_plus) 7 = .ok (.lconst 0, 1) := by decide +kernel
theorem dx_X2_plus_8 : decode (go_cc mx_X2_plus) 8 = .ok (.lcmp, 1) := by decide +kernel
theorem dx_X2_plus_9 : decode (go_cc mx_X2_plus) 9 = .ok (.ifCond .ge 7, 3) := by decide +kernel
theorem dx_X2_plus_12 : decode (go_cc mx_X2_plus) 12 = .ok (.ldc2_w 73, 3) := by decide +kernel
theorem dx_X2_plus_15 : decode (go_cc mx_X2_plus) 15 = .ok (.lreturn, 1) := by decide +kernel
theorem dx_X2_plus_16 : decode (go_cc mx_X2_plus) 16 = .ok (.lload_n 0, 1) := by decide +kernel
theorem dx_X2_plus_17 : decode (go_cc mx_X2_plus) 17 = .ok (.ldc2_w 75, 3) := by decide +kernel
theorem dx_X2_plus_20 : decode (go_cc mx_X2_plus) 20 = .ok (.lload_n 2, 1) := by decide +kernel
theorem dx_X2_plus_21 : decode (go_cc mx_X2_plus) 21 = .ok (.lsub, 1) := by decide +kernel
theorem dx_X2_plus_22 : decode (go_cc mx_X2_plus) 22 = .ok (.lcmp, 1) := by decide +kernel
theorem dx_X2_plus_23 : decode (go_cc mx_X2_plus) 23 = .ok (.ifCond .le 9, 3) := by decide +kernel
theorem dx_X2_plus_26 : decode (go_cc mx_X2_plus) 26 = .ok (.ldc2_w 73, 3) := by decide +kernel
theorem dx_X2_plus_29 : decode (go_cc mx_X2_plus) 29 = .ok (.goto 6, 3) := by decide +kernel
theorem dx_X2_plus_32 : decode (go_cc mx_X2_plus) 32 = .ok (.lload_n 0, 1) := by decide +kernel
theorem dx_X2_plus_33 : decode (go_cc mx_X2_plus) 33 = .ok (.lload_n 2, 1) := by decide +kernel
theorem dx_X2_plus_34 : decode (go_cc mx_X2_plus) 34 = .ok (.ladd, 1) := by decide +kernel
theorem dx_X2_plus_35 : decode (go_cc mx_X2_plus) 35 = .ok (.lreturn, 1) := by decide +kernel
theorem dx_X2_times_0 : decode (go_cc mx_X2_times) 0 = .ok (.lload_n 0, 1) := by decide +kernel
theorem dx_X2_times_1 : decode (go_cc mx_X2_times) 1 = .ok (.lconst 0, 1) := by decide +kernel
theorem dx_X2_times_2 : decode (go_cc mx_X2_times) 2 = .ok (.lcmp, 1) := by decide +kernel
theorem dx_X2_times_3 : decode (go_cc mx_X2_times) 3 = .ok (.ifCond .eq 9, 3) := by decide +kernel
theorem dx_X2_times_6 : decode (go_cc mx_X2_times) 6 = .ok (.lload_n 2, 1) := by decide +kernel
theorem dx_X2_times_7 : decode (go_cc mx_X2_times) 7 = .ok (.lconst 0, 1) := by decide +kernel
theorem dx_X2_times_8 : decode (go_cc mx_X2_times) 8 = .ok (.lcmp, 1) := by decide +kernel
theorem dx_X2_times_9 : decode (go_cc mx_X2_times) 9 = .ok (.ifCond .ne 5, 3) := by decide +kernel
theorem dx_X2_times_12 : decode (go_cc mx_X2_times) 12 = .ok (.lconst 0, 1) := by decide +kernel
theorem dx_X2_times_13 : decode (go_cc mx_X2_times) 13 = .ok (.lreturn, 1) := by decide +kernel
theorem dx_X2_times_14 : decode (go_cc mx_X2_times) 14 = .ok (.lload_n 0, 1) := by decide +kernel
theorem dx_X2_times_15 : decode (go_cc mx_X2_times) 15 = .ok (.lconst 0, 1) := by decide +kernel
theorem dx_X2_times_16 : decode (go_cc mx_X2_times) 16 = .ok (.lcmp, 1) := by decide +kernel
theorem dx_X2_times_17 : decode (go_cc mx_X2_times) 17 = .ok (.ifCond .lt 9, 3) := by decide +kernel
theorem dx_X2_times_20 : decode (go_cc mx_X2_times) 20 = .ok (.lload_n 2, 1) := by decide +kernel
theorem dx_X2_times_21 : decode (go_cc mx_X2_times) 21 = .ok (.lconst 0, 1) := by decide +kernel
theorem dx_X2_times_22 : decode (go_cc mx_X2_times) 22 = .ok (.lcmp, 1) := by decide +kernel
theorem dx_X2_times_23 : decode (go_cc mx_X2_times) 23 = .ok (.ifCond .ge 7, 3) := by decide +kernel
theorem dx_X2_times_26 : decode (go_cc mx_X2_times) 26 = .ok (.ldc2_w 73, 3) := by decide +kernel
theorem dx_X2_times_29 : decode (go_cc mx_X2_times) 29 = .ok (.lreturn, 1) := by decide +kernel
theorem dx_X2_times_30 : decode (go_cc mx_X2_times) 30 = .ok (.lload_n 0, 1) := by decide +kernel
theorem dx_X2_times_31 : decode (go_cc mx_X2_times) 31 = .ok (.ldc2_w 75, 3) := by decide +kernel
theorem dx_X2_times_34 : decode (go_cc mx_X2_times) 34 = .ok (.lload_n 2, 1) := by decide +kernel
theorem dx_X2_times_35 : decode (go_cc mx_X2_times) 35 = .ok (.ldiv, 1) := by decide +kernel
theorem dx_X2_times_36 : decode (go_cc mx_X2_times) 36 = .ok (.lcmp, 1) := by decide +kernel
theorem dx_X2_times_37 : decode (go_cc mx_X2_times) 37 = .ok (.ifCond .le 9, 3) := by decide +kernel
theorem dx_X2_times_40 : decode (go_cc mx_X2_times) 40 = .ok (.ldc2_w 73, 3) := by decide +kernel
theorem dx_X2_times_43 : decode (go_cc mx_X2_times) 43 = .ok (.goto 6, 3) := by decide +kernel
theorem dx_X2_times_46 : decode (go_cc mx_X2_times) 46 = .ok (.lload_n 0, 1) := by decide +kernel
theorem dx_X2_times_47 : decode (go_cc mx_X2_times) 47 = .ok (.lload_n 2, 1) := by decide +kernel
theorem dx_X2_times_48 : decode (go_cc mx_X2_times) 48 = .ok (.lmul, 1) := by decide +kernel
theorem dx_X2_times_49 : decode (go_cc mx_X2_times) 49 = .ok (.lreturn, 1) := by decide +kernel
theorem dx_X3_init_0 : decode (go_cc mx_X3_init) 0 = .ok (.aload_n 0, 1) := by decide +kernel
theorem dx_X3_init_1 : decode (go_cc mx_X3_init) 1 = .ok (.invokespecial 3, 3) := by decide +kernel
theorem dx_X3_init_4 : decode (go_cc mx_X3_init) 4 = .ok (.aload_n 0, 1) := by decide +kernel
theorem dx_X3_init_5 : decode (go_cc mx_X3_init) 5 = .ok (.aload_n 1, 1) := by decide +kernel
theorem dx_X3_init_6 : decode (go_cc mx_X3_init) 6 = .ok (.putfield 9, 3) := by decide +kernel
theorem dx_X3_init_9 : decode (go_cc mx_X3_init) 9 = .ok (.aload_n 0, 1) := by decide +kernel
theorem dx_X3_init_10 : decode (go_cc mx_X3_init) 10 = .ok (.aload_n 2, 1) := by decide +kernel
theorem dx_X3_init_11 : decode (go_cc mx_X3_init) 11 = .ok (.putfield 15, 3) := by decide +kernel
theorem dx_X3_init_14 : decode (go_cc mx_X3_init) 14 = .ok (.aload_n 0, 1) := by decide +kernel
theorem dx_X3_init_15 : decode (go_cc mx_X3_init) 15 = .ok (.aload_n 3, 1) := by decide +kernel
theorem dx_X3_init_16 : decode (go_cc mx_X3_init) 16 = .ok (.putfield 19, 3) := by decide +kernel
theorem dx_X3_init_19 : decode (go_cc mx_X3_init) 19 = .ok (.aload_n 0, 1) := by decide +kernel
theorem dx_X3_init_20 : decode (go_cc mx_X3_init) 20 = .ok (.sipush 1080, 3) := by decide +kernel
theorem dx_X3_init_23 : decode (go_cc mx_X3_init) 23 = .ok (.newarray .int, 2) := by decide +kernel
theorem dx_X3_init_25 : decode (go_cc mx_X3_init) 25 = .ok (.putfield 23, 3) := by decide +kernel
theorem dx_X3_init_28 : decode (go_cc mx_X3_init) 28 = .ok (.aload_n 0, 1) := by decide +kernel
theorem dx_X3_init_29 : decode (go_cc mx_X3_init) 29 = .ok (.bipush 95, 2) := by decide +kernel
theorem dx_X3_init_31 : decode (go_cc mx_X3_init) 31 = .ok (.newarray .int, 2) := by decide +kernel
theorem dx_X3_init_33 : decode (go_cc mx_X3_init) 33 = .ok (.putfield 27, 3) := by decide +kernel
theorem dx_X3_init_36 : decode (go_cc mx_X3_init) 36 = .ok (.aload_n 0, 1) := by decide +kernel
theorem dx_X3_init_37 : decode (go_cc mx_X3_init) 37 = .ok (.bipush 19, 2) := by decide +kernel
theorem dx_X3_init_39 : decode (go_cc mx_X3_init) 39 = .ok (.newarray .long, 2) := by decide +kernel
theorem dx_X3_init_41 : decode (go_cc mx_X3_init) 41 = .ok (.putfield 30, 3) := by decide +kernel
theorem dx_X3_init_44 : decode (go_cc mx_X3_init) 44 = .ok (.aload_n 0, 1) := by decide +kernel
theorem dx_X3_init_45 : decode (go_cc mx_X3_init) 45 = .ok (.bipush 6, 2) := by decide +kernel
theorem dx_X3_init_47 : decode (go_cc mx_X3_init) 47 = .ok (.newarray .int, 2) := by decide +kernel
theorem dx_X3_init_49 : decode (go_cc mx_X3_init) 49 = .ok (.putfield 34, 3) := by decide +kernel
theorem dx_X3_init_52 : decode (go_cc mx_X3_init) 52 = .ok (.aload_n 0, 1) := by decide +kernel
theorem dx_X3_init_53 : decode (go_cc mx_X3_init) 53 = .ok (.bipush 19, 2) := by decide +kernel
theorem dx_X3_init_55 : decode (go_cc mx_X3_init) 55 = .ok (.newarray .int, 2) := by decide +kernel
theorem dx_X3_init_57 : decode (go_cc mx_X3_init) 57 = .ok (.putfield 37, 3) := by decide +kernel
theorem dx_X3_init_60 : decode (go_cc mx_X3_init) 60 = .ok (.return_, 1) := by decide +kernel
theorem dx_X3_list_0 : decode (go_cc mx_X3_list) 0 = .ok (.aload_n 0, 1) := by decide +kernel
theorem dx_X3_list_1 : decode (go_cc mx_X3_list) 1 = .ok (.iconst 0, 1) := by decide +kernel
theorem dx_X3_list_2 : decode (go_cc mx_X3_list) 2 = .ok (.putfield 40, 3) := by decide +kernel
theorem dx_X3_list_5 : decode (go_cc mx_X3_list) 5 = .ok (.aload_n 0, 1) := by decide +kernel
theorem dx_X3_list_6 : decode (go_cc mx_X3_list) 6 = .ok (.iconst 0, 1) := by decide +kernel
theorem dx_X3_list_7 : decode (go_cc mx_X3_list) 7 = .ok (.putfield 44, 3) := by decide +kernel
theorem dx_X3_list_10 : decode (go_cc mx_X3_list) 10 = .ok (.aload_n 0, 1) := by decide +kernel
theorem dx_X3_list_11 : decode (go_cc mx_X3_list) 11 = .ok (.iload_n 1, 1) := by decide +kernel
theorem dx_X3_list_12 : decode (go_cc mx_X3_list) 12 = .ok (.i2l, 1) := by decide +kernel
theorem dx_X3_list_13 : decode (go_cc mx_X3_list) 13 = .ok (.putfield 47, 3) := by decide +kernel
theorem dx_X3_list_16 : decode (go_cc mx_X3_list) 16 = .ok (.aload_n 0, 1) := by decide +kernel
theorem dx_X3_list_17 : decode (go_cc mx_X3_list) 17 = .ok (.aload_n 0, 1) := by decide +kernel
theorem dx_X3_list_18 : decode (go_cc mx_X3_list) 18 = .ok (.getfield 9, 3) := by decide +kernel
theorem dx_X3_list_21 : decode (go_cc mx_X3_list) 21 = .ok (.getfield 51, 3) := by decide +kernel
theorem dx_X3_list_24 : decode (go_cc mx_X3_list) 24 = .ok (.iconst 0, 1) := by decide +kernel
theorem dx_X3_list_25 : decode (go_cc mx_X3_list) 25 = .ok (.aload_n 0, 1) := by decide +kernel
theorem dx_X3_list_26 : decode (go_cc mx_X3_list) 26 = .ok (.getfield 9, 3) := by decide +kernel
theorem dx_X3_list_29 : decode (go_cc mx_X3_list) 29 = .ok (.getfield 56, 3) := by decide +kernel
theorem dx_X3_list_32 : decode (go_cc mx_X3_list) 32 = .ok (.iconst 0, 1) := by decide +kernel
theorem dx_X3_list_33 : decode (go_cc mx_X3_list) 33 = .ok (.iconst (-1), 1) := by decide +kernel
theorem dx_X3_list_34 : decode (go_cc mx_X3_list) 34 = .ok (.invokevirtual 59, 3) := by decide +kernel
theorem dx_X3_list_37 : decode (go_cc mx_X3_list) 37 = .ok (.iconst 0, 1) := by decide +kernel
theorem dx_X3_list_38 : decode (go_cc mx_X3_list) 38 = .ok (.istore_n 2, 1) := by decide +kernel
theorem dx_X3_list_39 : decode (go_cc mx_X3_list) 39 = .ok (.iload_n 2, 1) := by decide +kernel
theorem dx_X3_list_40 : decode (go_cc mx_X3_list) 40 = .ok (.sipush 216, 3) := by decide +kernel
theorem dx_X3_list_43 : decode (go_cc mx_X3_list) 43 = .ok (.if_icmp .ge 51, 3) := by decide +kernel
theorem dx_X3_list_46 : decode (go_cc mx_X3_list) 46 = .ok (.aload_n 0, 1) := by decide +kernel
theorem dx_X3_list_47 : decode (go_cc mx_X3_list) 47 = .ok (.getfield 44, 3) := by decide +kernel
theorem dx_X3_list_50 : decode (go_cc mx_X3_list) 50 = .ok (.ifCond .le 44, 3) := by decide +kernel
theorem dx_X3_list_53 : decode (go_cc mx_X3_list) 53 = .ok (.aload_n 0, 1) := by decide +kernel
theorem dx_X3_list_54 : decode (go_cc mx_X3_list) 54 = .ok (.invokevirtual 63, 3) := by decide +kernel
theorem dx_X3_list_57 : decode (go_cc mx_X3_list) 57 = .ok (.aload_n 0, 1) := by decide +kernel
theorem dx_X3_list_58 : decode (go_cc mx_X3_list) 58 = .ok (.invokevirtual 66, 3) := by decide +kernel
theorem dx_X3_list_61 : decode (go_cc mx_X3_list) 61 = .ok (.istore_n 3, 1) := by decide +kernel
theorem dx_X3_list_62 : decode (go_cc mx_X3_list) 62 = .ok (.aload_n 0, 1) := by decide +kernel
theorem dx_X3_list_63 : decode (go_cc mx_X3_list) 63 = .ok (.iload_n 3, 1) := by decide +kernel
theorem dx_X3_list_64 : decode (go_cc mx_X3_list) 64 = .ok (.invokevirtual 70, 3) := by decide +kernel
theorem dx_X3_list_67 : decode (go_cc mx_X3_list) 67 = .ok (.istore 4, 2) := by decide +kernel
theorem dx_X3_list_69 : decode (go_cc mx_X3_list) 69 = .ok (.aload_n 0, 1) := by decide +kernel
theorem dx_X3_list_70 : decode (go_cc mx_X3_list) 70 = .ok (.iload_n 3, 1) := by decide +kernel
theorem dx_X3_list_71 : decode (go_cc mx_X3_list) 71 = .ok (.invokevirtual 74, 3) := by decide +kernel
theorem dx_X3_list_74 : decode (go_cc mx_X3_list) 74 = .ok (.aload_n 0, 1) := by decide +kernel
theorem dx_X3_list_75 : decode (go_cc mx_X3_list) 75 = .ok (.aload_n 0, 1) := by decide +kernel
theorem dx_X3_list_76 : decode (go_cc mx_X3_list) 76 = .ok (.getfield 9, 3) := by decide +kernel
theorem dx_X3_list_79 : decode (go_cc mx_X3_list) 79 = .ok (.iload_n 3, 1) := by decide +kernel
theorem dx_X3_list_80 : decode (go_cc mx_X3_list) 80 = .ok (.invokevirtual 78, 3) := by decide +kernel
theorem dx_X3_list_83 : decode (go_cc mx_X3_list) 83 = .ok (.iload 4, 2) := by decide +kernel
theorem dx_X3_list_85 : decode (go_cc mx_X3_list) 85 = .ok (.invokevirtual 81, 3) := by decide +kernel
theorem dx_X3_list_88 : decode (go_cc mx_X3_list) 88 = .ok (.iinc 2 1, 3) := by decide +kernel
theorem dx_X3_list_91 : decode (go_cc mx_X3_list) 91 = .ok (.goto (-52), 3) := by decide +kernel
theorem dx_X3_list_94 : decode (go_cc mx_X3_list) 94 = .ok (.return_, 1) := by decide +kernel
theorem dx_X3_tell_0 : decode (go_cc mx_X3_tell) 0 = .ok (.iload_n 1, 1) := by decide +kernel
theorem dx_X3_tell_1 : decode (go_cc mx_X3_tell) 1 = .ok (.ifCond .lt 24, 3) := by decide +kernel
theorem dx_X3_tell_4 : decode (go_cc mx_X3_tell) 4 = .ok (.iload_n 1, 1) := by decide +kernel
theorem dx_X3_tell_5 : decode (go_cc mx_X3_tell) 5 = .ok (.aload_n 0, 1) := by decide +kernel
theorem dx_X3_tell_6 : decode (go_cc mx_X3_tell) 6 = .ok (.getfield 40, 3) := by decide +kernel
theorem dx_X3_tell_9 : decode (go_cc mx_X3_tell) 9 = .ok (.if_icmp .ge 16, 3) := by decide +kernel
theorem dx_X3_tell_12 : decode (go_cc mx_X3_tell) 12 = .ok (.iload_n 2, 1) := by decide +kernel
theorem dx_X3_tell_13 : decode (go_cc mx_X3_tell) 13 = .ok (.ifCond .lt 12, 3) := by decide +kernel
theorem dx_X3_tell_16 : decode (go_cc mx_X3_tell) 16 = .ok (.iload_n 2, 1) := by decide +kernel
theorem dx_X3_tell_17 : decode (go_cc mx_X3_tell) 17 = .ok (.iconst 5, 1) := by decide +kernel
theorem dx_X3_tell_18 : decode (go_cc mx_X3_tell) 18 = .ok (.if_icmp .ge 7, 3) := by decide +kernel
theorem dx_X3_tell_21 : decode (go_cc mx_X3_tell) 21 = .ok (.iconst 1, 1) := by decide +kernel
theorem dx_X3_tell_22 : decode (go_cc mx_X3_tell) 22 = .ok (.goto 4, 3) := by decide +kernel
theorem dx_X3_tell_25 : decode (go_cc mx_X3_tell) 25 = .ok (.iconst 0, 1) := by decide +kernel
theorem dx_X3_tell_26 : decode (go_cc mx_X3_tell) 26 = .ok (.istore_n 3, 1) := by decide +kernel
theorem dx_X3_tell_27 : decode (go_cc mx_X3_tell) 27 = .ok (.iload_n 3, 1) := by decide +kernel
theorem dx_X3_tell_28 : decode (go_cc mx_X3_tell) 28 = .ok (.ifCond .eq 18, 3) := by decide +kernel
theorem dx_X3_tell_31 : decode (go_cc mx_X3_tell) 31 = .ok (.aload_n 0, 1) := by decide +kernel
theorem dx_X3_tell_32 : decode (go_cc mx_X3_tell) 32 = .ok (.getfield 23, 3) := by decide +kernel
theorem dx_X3_tell_35 : decode (go_cc mx_X3_tell) 35 = .ok (.iload_n 1, 1) := by decide +kernel
theorem dx_X3_tell_36 : decode (go_cc mx_X3_tell) 36 = .ok (.iconst 5, 1) := by decide +kernel
theorem dx_X3_tell_37 : decode (go_cc mx_X3_tell) 37 = .ok (.imul, 1) := by decide +kernel
theorem dx_X3_tell_38 : decode (go_cc mx_X3_tell) 38 = .ok (.iload_n 2, 1) := by decide +kernel
theorem dx_X3_tell_39 : decode (go_cc mx_X3_tell) 39 = .ok (.iadd, 1) := by decide +kernel
theorem dx_X3_tell_40 : decode (go_cc mx_X3_tell) 40 = .ok (.invokestatic 85, 3) := by decide +kernel
theorem dx_X3_tell_43 : decode (go_cc mx_X3_tell) 43 = .ok (.goto 5, 3) := by decide +kernel
theorem dx_X3_tell_46 : decode (go_cc mx_X3_tell) 46 = .ok (.bipush (-2), 2) := by decide +kernel
theorem dx_X3_tell_48 : decode (go_cc mx_X3_tell) 48 = .ok (.ireturn, 1) := by decide +kernel
theorem dx_X3_putWaiting_0 : decode (go_cc mx_X3_putWaiting) 0 = .ok (.aload_n 0, 1) := by decide +kernel
theorem dx_X3_putWaiting_1 : decode (go_cc mx_X3_putWaiting) 1 = .ok (.getfield 44, 3) := by decide +kernel
theorem dx_X3_putWaiting_4 : decode (go_cc mx_X3_putWaiting) 4 = .ok (.iconst 5, 1) := by decide +kernel
theorem dx_X3_putWaiting_5 : decode (go_cc mx_X3_putWaiting) 5 = .ok (.imul, 1) := by decide +kernel
theorem dx_X3_putWaiting_6 : decode (go_cc mx_X3_putWaiting) 6 = .ok (.istore 6, 2) := by decide +kernel
theorem dx_X3_putWaiting_8 : decode (go_cc mx_X3_putWaiting) 8 = .ok (.aload_n 0, 1) := by decide +kernel
theorem dx_X3_putWaiting_9 : decode (go_cc mx_X3_putWaiting) 9 = .ok (.getfield 27, 3) := by decide +kernel
theorem dx_X3_putWaiting_12 : decode (go_cc mx_X3_putWaiting) 12 = .ok (.iload 6, 2) := by decide +kernel
theorem dx_X3_putWaiting_14 : decode (go_cc mx_X3_putWaiting) 14 = .ok (.iload_n 1, 1) := by decide +kernel
theorem dx_X3_putWaiting_15 : decode (go_cc mx_X3_putWaiting) 15 = .ok (.invokestatic 89, 3) := by decide +kernel
theorem dx_X3_putWaiting_18 : decode (go_cc mx_X3_putWaiting) 18 = .ok (.aload_n 0, 1) := by decide +kernel
theorem dx_X3_putWaiting_19 : decode (go_cc mx_X3_putWaiting) 19 = .ok (.getfield 27, 3) := by decide +kernel
theorem dx_X3_putWaiting_22 : decode (go_cc mx_X3_putWaiting) 22 = .ok (.iload 6, 2) := by decide +kernel
theorem dx_X3_putWaiting_24 : decode (go_cc mx_X3_putWaiting) 24 = .ok (.iconst 1, 1) := by decide +kernel
theorem dx_X3_putWaiting_25 : decode (go_cc mx_X3_putWaiting) 25 = .ok (.iadd, 1) := by decide +kernel
theorem dx_X3_putWaiting_26 : decode (go_cc mx_X3_putWaiting) 26 = .ok (.iload_n 2, 1) := by decide +kernel
theorem dx_X3_putWaiting_27 : decode (go_cc mx_X3_putWaiting) 27 = .ok (.invokestatic 89, 3) := by decide +kernel
theorem dx_X3_putWaiting_30 : decode (go_cc mx_X3_putWaiting) 30 = .ok (.aload_n 0, 1) := by decide +kernel
theorem dx_X3_putWaiting_31 : decode (go_cc mx_X3_putWaiting) 31 = .ok (.getfield 27, 3) := by decide +kernel
theorem dx_X3_putWaiting_34 : decode (go_cc mx_X3_putWaiting) 34 = .ok (.iload 6, 2) := by decide +kernel
theorem dx_X3_putWaiting_36 : decode (go_cc mx_X3_putWaiting) 36 = .ok (.iconst 2, 1) := by decide +kernel
theorem dx_X3_putWaiting_37 : decode (go_cc mx_X3_putWaiting) 37 = .ok (.iadd, 1) := by decide +kernel
theorem dx_X3_putWaiting_38 : decode (go_cc mx_X3_putWaiting) 38 = .ok (.iload_n 3, 1) := by decide +kernel
theorem dx_X3_putWaiting_39 : decode (go_cc mx_X3_putWaiting) 39 = .ok (.invokestatic 89, 3) := by decide +kernel
theorem dx_X3_putWaiting_42 : decode (go_cc mx_X3_putWaiting) 42 = .ok (.aload_n 0, 1) := by decide +kernel
theorem dx_X3_putWaiting_43 : decode (go_cc mx_X3_putWaiting) 43 = .ok (.getfield 27, 3) := by decide +kernel
theorem dx_X3_putWaiting_46 : decode (go_cc mx_X3_putWaiting) 46 = .ok (.iload 6, 2) := by decide +kernel
theorem dx_X3_putWaiting_48 : decode (go_cc mx_X3_putWaiting) 48 = .ok (.iconst 3, 1) := by decide +kernel
theorem dx_X3_putWaiting_49 : decode (go_cc mx_X3_putWaiting) 49 = .ok (.iadd, 1) := by decide +kernel
theorem dx_X3_putWaiting_50 : decode (go_cc mx_X3_putWaiting) 50 = .ok (.iload 4, 2) := by decide +kernel
theorem dx_X3_putWaiting_52 : decode (go_cc mx_X3_putWaiting) 52 = .ok (.invokestatic 89, 3) := by decide +kernel
theorem dx_X3_putWaiting_55 : decode (go_cc mx_X3_putWaiting) 55 = .ok (.aload_n 0, 1) := by decide +kernel
theorem dx_X3_putWaiting_56 : decode (go_cc mx_X3_putWaiting) 56 = .ok (.getfield 27, 3) := by decide +kernel
theorem dx_X3_putWaiting_59 : decode (go_cc mx_X3_putWaiting) 59 = .ok (.iload 6, 2) := by decide +kernel
theorem dx_X3_putWaiting_61 : decode (go_cc mx_X3_putWaiting) 61 = .ok (.iconst 4, 1) := by decide +kernel
theorem dx_X3_putWaiting_62 : decode (go_cc mx_X3_putWaiting) 62 = .ok (.iadd, 1) := by decide +kernel
theorem dx_X3_putWaiting_63 : decode (go_cc mx_X3_putWaiting) 63 = .ok (.iload 5, 2) := by decide +kernel
theorem dx_X3_putWaiting_65 : decode (go_cc mx_X3_putWaiting) 65 = .ok (.invokestatic 89, 3) := by decide +kernel
theorem dx_X3_putWaiting_68 : decode (go_cc mx_X3_putWaiting) 68 = .ok (.aload_n 0, 1) := by decide +kernel
theorem dx_X3_putWaiting_69 : decode (go_cc mx_X3_putWaiting) 69 = .ok (.getfield 30, 3) := by decide +kernel
theorem dx_X3_putWaiting_72 : decode (go_cc mx_X3_putWaiting) 72 = .ok (.aload_n 0, 1) := by decide +kernel
theorem dx_X3_putWaiting_73 : decode (go_cc mx_X3_putWaiting) 73 = .ok (.getfield 44, 3) := by decide +kernel
theorem dx_X3_putWaiting_76 : decode (go_cc mx_X3_putWaiting) 76 = .ok (.aload_n 0, 1) := by decide +kernel
theorem dx_X3_putWaiting_77 : decode (go_cc mx_X3_putWaiting) 77 = .ok (.getfield 47, 3) := by decide +kernel
theorem dx_X3_putWaiting_80 : decode (go_cc mx_X3_putWaiting) 80 = .ok (.invokestatic 93, 3) := by decide +kernel
theorem dx_X3_putWaiting_83 : decode (go_cc mx_X3_putWaiting) 83 = .ok (.aload_n 0, 1) := by decide +kernel
theorem dx_X3_putWaiting_84 : decode (go_cc mx_X3_putWaiting) 84 = .ok (.dup, 1) := by decide +kernel
theorem dx_X3_putWaiting_85 : decode (go_cc mx_X3_putWaiting) 85 = .ok (.getfield 44, 3) := by decide +kernel
theorem dx_X3_putWaiting_88 : decode (go_cc mx_X3_putWaiting) 88 = .ok (.iconst 1, 1) := by decide +kernel
theorem dx_X3_putWaiting_89 : decode (go_cc mx_X3_putWaiting) 89 = .ok (.iadd, 1) := by decide +kernel
theorem dx_X3_putWaiting_90 : decode (go_cc mx_X3_putWaiting) 90 = .ok (.putfield 44, 3) := by decide +kernel
theorem dx_X3_putWaiting_93 : decode (go_cc mx_X3_putWaiting) 93 = .ok (.return_, 1) := by decide +kernel
theorem dx_X3_takeWaiting_0 : decode (go_cc mx_X3_takeWaiting) 0 = .ok (.aload_n 0, 1) := by decide +kernel
theorem dx_X3_takeWaiting_1 : decode (go_cc mx_X3_takeWaiting) 1 = .ok (.dup, 1) := by decide +kernel
theorem dx_X3_takeWaiting_2 : decode (go_cc mx_X3_takeWaiting) 2 = .ok (.getfield 44, 3) := by decide +kernel
theorem dx_X3_takeWaiting_5 : decode (go_cc mx_X3_takeWaiting) 5 = .ok (.iconst 1, 1) := by decide +kernel
theorem dx_X3_takeWaiting_6 : decode (go_cc mx_X3_takeWaiting) 6 = .ok (.isub, 1) := by decide +kernel
theorem dx_X3_takeWaiting_7 : decode (go_cc mx_X3_takeWaiting) 7 = .ok (.putfield 44, 3) := by decide +kernel
theorem dx_X3_takeWaiting_10 : decode (go_cc mx_X3_takeWaiting) 10 = .ok (.aload_n 0, 1) := by decide +kernel
theorem dx_X3_takeWaiting_11 : decode (go_cc mx_X3_takeWaiting) 11 = .ok (.getfield 44, 3) := by decide +kernel
theorem dx_X3_takeWaiting_14 : decode (go_cc mx_X3_takeWaiting) 14 = .ok (.iconst 5, 1) := by decide +kernel
theorem dx_X3_takeWaiting_15 : decode (go_cc mx_X3_takeWaiting) 15 = .ok (.imul, 1) := by decide +kernel
theorem dx_X3_takeWaiting_16 : decode (go_cc mx_X3_takeWaiting) 16 = .ok (.istore_n 1, 1) := by decide +kernel
theorem dx_X3_takeWaiting_17 : decode (go_cc mx_X3_takeWaiting) 17 = .ok (.aload_n 0, 1) := by decide +kernel
theorem dx_X3_takeWaiting_18 : decode (go_cc mx_X3_takeWaiting) 18 = .ok (.aload_n 0, 1) := by decide +kernel
theorem dx_X3_takeWaiting_19 : decode (go_cc mx_X3_takeWaiting) 19 = .ok (.getfield 27, 3) := by decide +kernel
theorem dx_X3_takeWaiting_22 : decode (go_cc mx_X3_takeWaiting) 22 = .ok (.iload_n 1, 1) := by decide +kernel
theorem dx_X3_takeWaiting_23 : decode (go_cc mx_X3_takeWaiting) 23 = .ok (.invokestatic 85, 3) := by decide +kernel
theorem dx_X3_takeWaiting_26 : decode (go_cc mx_X3_takeWaiting) 26 = .ok (.putfield 97, 3) := by decide +kernel
theorem dx_X3_takeWaiting_29 : decode (go_cc mx_X3_takeWaiting) 29 = .ok (.aload_n 0, 1) := by decide +kernel
theorem dx_X3_takeWaiting_30 : decode (go_cc mx_X3_takeWaiting) 30 = .ok (.aload_n 0, 1) := by decide +kernel
theorem dx_X3_takeWaiting_31 : decode (go_cc mx_X3_takeWaiting) 31 = .ok (.getfield 27, 3) := by decide +kernel
theorem dx_X3_takeWaiting_34 : decode (go_cc mx_X3_takeWaiting) 34 = .ok (.iload_n 1, 1) := by decide +kernel
theorem dx_X3_takeWaiting_35 : decode (go_cc mx_X3_takeWaiting) 35 = .ok (.iconst 1, 1) := by decide +kernel
theorem dx_X3_takeWaiting_36 : decode (go_cc mx_X3_takeWaiting) 36 = .ok (.iadd, 1) := by decide +kernel
theorem dx_X3_takeWaiting_37 : decode (go_cc mx_X3_takeWaiting) 37 = .ok (.invokestatic 85, 3) := by decide +kernel
theorem dx_X3_takeWaiting_40 : decode (go_cc mx_X3_takeWaiting) 40 = .ok (.putfield 100, 3) := by decide +kernel
theorem dx_X3_takeWaiting_43 : decode (go_cc mx_X3_takeWaiting) 43 = .ok (.aload_n 0, 1) := by decide +kernel
theorem dx_X3_takeWaiting_44 : decode (go_cc mx_X3_takeWaiting) 44 = .ok (.aload_n 0, 1) := by decide +kernel
theorem dx_X3_takeWaiting_45 : decode (go_cc mx_X3_takeWaiting) 45 = .ok (.getfield 27, 3) := by decide +kernel
theorem dx_X3_takeWaiting_48 : decode (go_cc mx_X3_takeWaiting) 48 = .ok (.iload_n 1, 1) := by decide +kernel
theorem dx_X3_takeWaiting_49 : decode (go_cc mx_X3_takeWaiting) 49 = .ok (.iconst 2, 1) := by decide +kernel
theorem dx_X3_takeWaiting_50 : decode (go_cc mx_X3_takeWaiting) 50 = .ok (.iadd, 1) := by decide +kernel
theorem dx_X3_takeWaiting_51 : decode (go_cc mx_X3_takeWaiting) 51 = .ok (.invokestatic 85, 3) := by decide +kernel
theorem dx_X3_takeWaiting_54 : decode (go_cc mx_X3_takeWaiting) 54 = .ok (.putfield 103, 3) := by decide +kernel
theorem dx_X3_takeWaiting_57 : decode (go_cc mx_X3_takeWaiting) 57 = .ok (.aload_n 0, 1) := by decide +kernel
theorem dx_X3_takeWaiting_58 : decode (go_cc mx_X3_takeWaiting) 58 = .ok (.aload_n 0, 1) := by decide +kernel
theorem dx_X3_takeWaiting_59 : decode (go_cc mx_X3_takeWaiting) 59 = .ok (.getfield 27, 3) := by decide +kernel
theorem dx_X3_takeWaiting_62 : decode (go_cc mx_X3_takeWaiting) 62 = .ok (.iload_n 1, 1) := by decide +kernel
theorem dx_X3_takeWaiting_63 : decode (go_cc mx_X3_takeWaiting) 63 = .ok (.iconst 3, 1) := by decide +kernel
theorem dx_X3_takeWaiting_64 : decode (go_cc mx_X3_takeWaiting) 64 = .ok (.iadd, 1) := by decide +kernel
theorem dx_X3_takeWaiting_65 : decode (go_cc mx_X3_takeWaiting) 65 = .ok (.invokestatic 85, 3) := by decide +kernel
theorem dx_X3_takeWaiting_68 : decode (go_cc mx_X3_takeWaiting) 68 = .ok (.iconst 1, 1) := by decide +kernel
theorem dx_X3_takeWaiting_69 : decode (go_cc mx_X3_takeWaiting) 69 = .ok (.aload_n 0, 1) := by decide +kernel
theorem dx_X3_takeWaiting_70 : decode (go_cc mx_X3_takeWaiting) 70 = .ok (.getfield 97, 3) := by decide +kernel
theorem dx_X3_takeWaiting_73 : decode (go_cc mx_X3_takeWaiting) 73 = .ok (.ishl, 1) := by decide +kernel
theorem dx_X3_takeWaiting_74 : decode (go_cc mx_X3_takeWaiting) 74 = .ok (.ior, 1) := by decide +kernel
theorem dx_X3_takeWaiting_75 : decode (go_cc mx_X3_takeWaiting) 75 = .ok (.putfield 106, 3) := by decide +kernel
theorem dx_X3_takeWaiting_78 : decode (go_cc mx_X3_takeWaiting) 78 = .ok (.aload_n 0, 1) := by decide +kernel
theorem dx_X3_takeWaiting_79 : decode (go_cc mx_X3_takeWaiting) 79 = .ok (.aload_n 0, 1) := by decide +kernel
theorem dx_X3_takeWaiting_80 : decode (go_cc mx_X3_takeWaiting) 80 = .ok (.getfield 27, 3) := by decide +kernel
theorem dx_X3_takeWaiting_83 : decode (go_cc mx_X3_takeWaiting) 83 = .ok (.iload_n 1, 1) := by decide +kernel
theorem dx_X3_takeWaiting_84 : decode (go_cc mx_X3_takeWaiting) 84 = .ok (.iconst 4, 1) := by decide +kernel
theorem dx_X3_takeWaiting_85 : decode (go_cc mx_X3_takeWaiting) 85 = .ok (.iadd, 1) := by decide +kernel
theorem dx_X3_takeWaiting_86 : decode (go_cc mx_X3_takeWaiting) 86 = .ok (.invokestatic 85, 3) := by decide +kernel
theorem dx_X3_takeWaiting_89 : decode (go_cc mx_X3_takeWaiting) 89 = .ok (.putfield 109, 3) := by decide +kernel
theorem dx_X3_takeWaiting_92 : decode (go_cc mx_X3_takeWaiting) 92 = .ok (.aload_n 0, 1) := by decide +kernel
theorem dx_X3_takeWaiting_93 : decode (go_cc mx_X3_takeWaiting) 93 = .ok (.aload_n 0, 1) := by decide +kernel
theorem dx_X3_takeWaiting_94 : decode (go_cc mx_X3_takeWaiting) 94 = .ok (.getfield 30, 3) := by decide +kernel
theorem dx_X3_takeWaiting_97 : decode (go_cc mx_X3_takeWaiting) 97 = .ok (.aload_n 0, 1) := by decide +kernel
theorem dx_X3_takeWaiting_98 : decode (go_cc mx_X3_takeWaiting) 98 = .ok (.getfield 44, 3) := by decide +kernel
theorem dx_X3_takeWaiting_101 : decode (go_cc mx_X3_takeWaiting) 101 = .ok (.invokestatic 112, 3) := by decide +kernel
theorem dx_X3_takeWaiting_104 : decode (go_cc mx_X3_takeWaiting) 104 = .ok (.putfield 47, 3) := by decide +kernel
theorem dx_X3_takeWaiting_107 : decode (go_cc mx_X3_takeWaiting) 107 = .ok (.return_, 1) := by decide +kernel
theorem dx_X3_putNode_0 : decode (go_cc mx_X3_putNode) 0 = .ok (.aload_n 0, 1) := by decide +kernel
theorem dx_X3_putNode_1 : decode (go_cc mx_X3_putNode) 1 = .ok (.getfield 40, 3) := by decide +kernel
theorem dx_X3_putNode_4 : decode (go_cc mx_X3_putNode) 4 = .ok (.istore_n 2, 1) := by decide +kernel
theorem dx_X3_putNode_5 : decode (go_cc mx_X3_putNode) 5 = .ok (.aload_n 0, 1) := by decide +kernel
theorem dx_X3_putNode_6 : decode (go_cc mx_X3_putNode) 6 = .ok (.getfield 23, 3) := by decide +kernel
theorem dx_X3_putNode_9 : decode (go_cc mx_X3_putNode) 9 = .ok (.iload_n 2, 1) := by decide +kernel
theorem dx_X3_putNode_10 : decode (go_cc mx_X3_putNode) 10 = .ok (.iconst 5, 1) := by decide +kernel
theorem dx_X3_putNode_11 : decode (go_cc mx_X3_putNode) 11 = .ok (.imul, 1) := by decide +kernel
theorem dx_X3_putNode_12 : decode (go_cc mx_X3_putNode) 12 = .ok (.iload_n 1, 1) := by decide +kernel
theorem dx_X3_putNode_13 : decode (go_cc mx_X3_putNode) 13 = .ok (.invokestatic 89, 3) := by decide +kernel
theorem dx_X3_putNode_16 : decode (go_cc mx_X3_putNode) 16 = .ok (.aload_n 0, 1) := by decide +kernel
theorem dx_X3_putNode_17 : decode (go_cc mx_X3_putNode) 17 = .ok (.getfield 23, 3) := by decide +kernel
theorem dx_X3_putNode_20 : decode (go_cc mx_X3_putNode) 20 = .ok (.iload_n 2, 1) := by decide +kernel
theorem dx_X3_putNode_21 : decode (go_cc mx_X3_putNode) 21 = .ok (.iconst 5, 1) := by decide +kernel
theorem dx_X3_putNode_22 : decode (go_cc mx_X3_putNode) 22 = .ok (.imul, 1) := by decide +kernel
theorem dx_X3_putNode_23 : decode (go_cc mx_X3_putNode) 23 = .ok (.iconst 1, 1) := by decide +kernel
theorem dx_X3_putNode_24 : decode (go_cc mx_X3_putNode) 24 = .ok (.iadd, 1) := by decide +kernel
theorem dx_X3_putNode_25 : decode (go_cc mx_X3_putNode) 25 = .ok (.aload_n 0, 1) := by decide +kernel
theorem dx_X3_putNode_26 : decode (go_cc mx_X3_putNode) 26 = .ok (.getfield 100, 3) := by decide +kernel
theorem dx_X3_putNode_29 : decode (go_cc mx_X3_putNode) 29 = .ok (.invokestatic 89, 3) := by decide +kernel
theorem dx_X3_putNode_32 : decode (go_cc mx_X3_putNode) 32 = .ok (.aload_n 0, 1) := by decide +kernel
theorem dx_X3_putNode_33 : decode (go_cc mx_X3_putNode) 33 = .ok (.getfield 23, 3) := by decide +kernel
theorem dx_X3_putNode_36 : decode (go_cc mx_X3_putNode) 36 = .ok (.iload_n 2, 1) := by decide +kernel
theorem dx_X3_putNode_37 : decode (go_cc mx_X3_putNode) 37 = .ok (.iconst 5, 1) := by decide +kernel
theorem dx_X3_putNode_38 : decode (go_cc mx_X3_putNode) 38 = .ok (.imul, 1) := by decide +kernel
theorem dx_X3_putNode_39 : decode (go_cc mx_X3_putNode) 39 = .ok (.iconst 2, 1) := by decide +kernel
theorem dx_X3_putNode_40 : decode (go_cc mx_X3_putNode) 40 = .ok (.iadd, 1) := by decide +kernel
theorem dx_X3_putNode_41 : decode (go_cc mx_X3_putNode) 41 = .ok (.aload_n 0, 1) := by decide +kernel
theorem dx_X3_putNode_42 : decode (go_cc mx_X3_putNode) 42 = .ok (.getfield 103, 3) := by decide +kernel
theorem dx_X3_putNode_45 : decode (go_cc mx_X3_putNode) 45 = .ok (.invokestatic 89, 3) := by decide +kernel
theorem dx_X3_putNode_48 : decode (go_cc mx_X3_putNode) 48 = .ok (.aload_n 0, 1) := by decide +kernel
theorem dx_X3_putNode_49 : decode (go_cc mx_X3_putNode) 49 = .ok (.getfield 23, 3) := by decide +kernel
theorem dx_X3_putNode_52 : decode (go_cc mx_X3_putNode) 52 = .ok (.iload_n 2, 1) := by decide +kernel
theorem dx_X3_putNode_53 : decode (go_cc mx_X3_putNode) 53 = .ok (.iconst 5, 1) := by decide +kernel
theorem dx_X3_putNode_54 : decode (go_cc mx_X3_putNode) 54 = .ok (.imul, 1) := by decide +kernel
theorem dx_X3_putNode_55 : decode (go_cc mx_X3_putNode) 55 = .ok (.iconst 3, 1) := by decide +kernel
theorem dx_X3_putNode_56 : decode (go_cc mx_X3_putNode) 56 = .ok (.iadd, 1) := by decide +kernel
theorem dx_X3_putNode_57 : decode (go_cc mx_X3_putNode) 57 = .ok (.aload_n 0, 1) := by decide +kernel
theorem dx_X3_putNode_58 : decode (go_cc mx_X3_putNode) 58 = .ok (.getfield 109, 3) := by decide +kernel
theorem dx_X3_putNode_61 : decode (go_cc mx_X3_putNode) 61 = .ok (.invokestatic 89, 3) := by decide +kernel
theorem dx_X3_putNode_64 : decode (go_cc mx_X3_putNode) 64 = .ok (.aload_n 0, 1) := by decide +kernel
theorem dx_X3_putNode_65 : decode (go_cc mx_X3_putNode) 65 = .ok (.getfield 23, 3) := by decide +kernel
theorem dx_X3_putNode_68 : decode (go_cc mx_X3_putNode) 68 = .ok (.iload_n 2, 1) := by decide +kernel
theorem dx_X3_putNode_69 : decode (go_cc mx_X3_putNode) 69 = .ok (.iconst 5, 1) := by decide +kernel
theorem dx_X3_putNode_70 : decode (go_cc mx_X3_putNode) 70 = .ok (.imul, 1) := by decide +kernel
theorem dx_X3_putNode_71 : decode (go_cc mx_X3_putNode) 71 = .ok (.iconst 4, 1) := by decide +kernel
theorem dx_X3_putNode_72 : decode (go_cc mx_X3_putNode) 72 = .ok (.iadd, 1) := by decide +kernel
theorem dx_X3_putNode_73 : decode (go_cc mx_X3_putNode) 73 = .ok (.aload_n 0, 1) := by decide +kernel
theorem dx_X3_putNode_74 : decode (go_cc mx_X3_putNode) 74 = .ok (.getfield 109, 3) := by decide +kernel
theorem dx_X3_putNode_77 : decode (go_cc mx_X3_putNode) 77 = .ok (.iconst (-1), 1) := by decide +kernel
theorem dx_X3_putNode_78 : decode (go_cc mx_X3_putNode) 78 = .ok (.if_icmp .ne 7, 3) := by decide +kernel
theorem dx_X3_putNode_81 : decode (go_cc mx_X3_putNode) 81 = .ok (.iconst 0, 1) := by decide +kernel
theorem dx_X3_putNode_82 : decode (go_cc mx_X3_putNode) 82 = .ok (.goto 14, 3) := by decide +kernel
theorem dx_X3_putNode_85 : decode (go_cc mx_X3_putNode) 85 = .ok (.aload_n 0, 1) := by decide +kernel
theorem dx_X3_putNode_86 : decode (go_cc mx_X3_putNode) 86 = .ok (.aload_n 0, 1) := by decide +kernel
theorem dx_X3_putNode_87 : decode (go_cc mx_X3_putNode) 87 = .ok (.getfield 109, 3) := by decide +kernel
theorem dx_X3_putNode_90 : decode (go_cc mx_X3_putNode) 90 = .ok (.iconst 4, 1) := by decide +kernel
theorem dx_X3_putNode_91 : decode (go_cc mx_X3_putNode) 91 = .ok (.invokevirtual 116, 3) := by decide +kernel
theorem dx_X3_putNode_94 : decode (go_cc mx_X3_putNode) 94 = .ok (.iconst 1, 1) := by decide +kernel
theorem dx_X3_putNode_95 : decode (go_cc mx_X3_putNode) 95 = .ok (.iadd, 1) := by decide +kernel
theorem dx_X3_putNode_96 : decode (go_cc mx_X3_putNode) 96 = .ok (.invokestatic 89, 3) := by decide +kernel
theorem dx_X3_putNode_99 : decode (go_cc mx_X3_putNode) 99 = .ok (.aload_n 0, 1) := by decide +kernel
theorem dx_X3_putNode_100 : decode (go_cc mx_X3_putNode) 100 = .ok (.dup, 1) := by decide +kernel
theorem dx_X3_putNode_101 : decode (go_cc mx_X3_putNode) 101 = .ok (.getfield 40, 3) := by decide +kernel
theorem dx_X3_putNode_104 : decode (go_cc mx_X3_putNode) 104 = .ok (.iconst 1, 1) := by decide +kernel
theorem dx_X3_putNode_105 : decode (go_cc mx_X3_putNode) 105 = .ok (.iadd, 1) := by decide +kernel
theorem dx_X3_putNode_106 : decode (go_cc mx_X3_putNode) 106 = .ok (.putfield 40, 3) := by decide +kernel
theorem dx_X3_putNode_109 : decode (go_cc mx_X3_putNode) 109 = .ok (.iload_n 2, 1) := by decide +kernel
theorem dx_X3_putNode_110 : decode (go_cc mx_X3_putNode) 110 = .ok (.ireturn, 1) := by decide +kernel
theorem dx_X3_isHere_0 : decode (go_cc mx_X3_isHere) 0 = .ok (.lload_n 1, 1) := by decide +kernel
theorem dx_X3_isHere_1 : decode (go_cc mx_X3_isHere) 1 = .ok (.lconst 0, 1) := by decide +kernel
theorem dx_X3_isHere_2 : decode (go_cc mx_X3_isHere) 2 = .ok (.lcmp, 1) := by decide +kernel
theorem dx_X3_isHere_3 : decode (go_cc mx_X3_isHere) 3 = .ok (.ifCond .lt 12, 3) := by decide +kernel
theorem dx_X3_isHere_6 : decode (go_cc mx_X3_isHere) 6 = .ok (.aload_n 0, 1) := by decide +kernel
theorem dx_X3_isHere_7 : decode (go_cc mx_X3_isHere) 7 = .ok (.getfield 47, 3) := by decide +kernel
theorem dx_X3_isHere_10 : decode (go_cc mx_X3_isHere) 10 = .ok (.lload_n 1, 1) := by decide +kernel
theorem dx_X3_isHere_11 : decode (go_cc mx_X3_isHere) 11 = .ok (.lcmp, 1) := by decide +kernel
theorem dx_X3_isHere_12 : decode (go_cc mx_X3_isHere) 12 = .ok (.ifCond .ge 7, 3) := by decide +kernel
theorem dx_X3_isHere_15 : decode (go_cc mx_X3_isHere) 15 = .ok (.iconst 1, 1) := by decide +kernel
theorem dx_X3_isHere_16 : decode (go_cc mx_X3_isHere) 16 = .ok (.goto 4, 3) := by decide +kernel
theorem dx_X3_isHere_19 : decode (go_cc mx_X3_isHere) 19 = .ok (.iconst 0, 1) := by decide +kernel
theorem dx_X3_isHere_20 : decode (go_cc mx_X3_isHere) 20 = .ok (.ireturn, 1) := by decide +kernel
theorem dx_X3_chooseRule_0 : decode (go_cc mx_X3_chooseRule) 0 = .ok (.iconst 0, 1) := by decide +kernel
theorem dx_X3_chooseRule_1 : decode (go_cc mx_X3_chooseRule) 1 = .ok (.istore_n 1, 1) := by decide +kernel
theorem dx_X3_chooseRule_2 : decode (go_cc mx_X3_chooseRule) 2 = .ok (.iload_n 1, 1) := by decide +kernel
theorem dx_X3_chooseRule_3 : decode (go_cc mx_X3_chooseRule) 3 = .ok (.bipush 16, 2) := by decide +kernel
theorem dx_X3_chooseRule_5 : decode (go_cc mx_X3_chooseRule) 5 = .ok (.if_icmp .ge 92, 3) := by decide +kernel
theorem dx_X3_chooseRule_8 : decode (go_cc mx_X3_chooseRule) 8 = .ok (.aload_n 0, 1) := by decide +kernel
theorem dx_X3_chooseRule_9 : decode (go_cc mx_X3_chooseRule) 9 = .ok (.getfield 9, 3) := by decide +kernel
theorem dx_X3_chooseRule_12 : decode (go_cc mx_X3_chooseRule) 12 = .ok (.iload_n 1, 1) := by decide +kernel
theorem dx_X3_chooseRule_13 : decode (go_cc mx_X3_chooseRule) 13 = .ok (.invokevirtual 78, 3) := by decide +kernel
theorem dx_X3_chooseRule_16 : decode (go_cc mx_X3_chooseRule) 16 = .ok (.istore_n 2, 1) := by decide +kernel
theorem dx_X3_chooseRule_17 : decode (go_cc mx_X3_chooseRule) 17 = .ok (.iload_n 2, 1) := by decide +kernel
theorem dx_X3_chooseRule_18 : decode (go_cc mx_X3_chooseRule) 18 = .ok (.ifCond .eq 73, 3) := by decide +kernel
theorem dx_X3_chooseRule_21 : decode (go_cc mx_X3_chooseRule) 21 = .ok (.iload_n 2, 1) := by decide +kernel
theorem dx_X3_chooseRule_22 : decode (go_cc mx_X3_chooseRule) 22 = .ok (.invokestatic 120, 3) := by decide +kernel
theorem dx_X3_chooseRule_25 : decode (go_cc mx_X3_chooseRule) 25 = .ok (.aload_n 0, 1) := by decide +kernel
theorem dx_X3_chooseRule_26 : decode (go_cc mx_X3_chooseRule) 26 = .ok (.getfield 97, 3) := by decide +kernel
theorem dx_X3_chooseRule_29 : decode (go_cc mx_X3_chooseRule) 29 = .ok (.if_icmp .eq 6, 3) := by decide +kernel
theorem dx_X3_chooseRule_32 : decode (go_cc mx_X3_chooseRule) 32 = .ok (.goto 59, 3) := by decide +kernel
theorem dx_X3_chooseRule_35 : decode (go_cc mx_X3_chooseRule) 35 = .ok (.iload_n 2, 1) := by decide +kernel
theorem dx_X3_chooseRule_36 : decode (go_cc mx_X3_chooseRule) 36 = .ok (.invokestatic 123, 3) := by decide +kernel
theorem dx_X3_chooseRule_39 : decode (go_cc mx_X3_chooseRule) 39 = .ok (.iconst 1, 1) := by decide +kernel
theorem dx_X3_chooseRule_40 : decode (go_cc mx_X3_chooseRule) 40 = .ok (.if_icmp .ne 15, 3) := by decide +kernel
theorem dx_X3_chooseRule_43 : decode (go_cc mx_X3_chooseRule) 43 = .ok (.aload_n 0, 1) := by decide +kernel
theorem dx_X3_chooseRule_44 : decode (go_cc mx_X3_chooseRule) 44 = .ok (.iload_n 2, 1) := by decide +kernel
theorem dx_X3_chooseRule_45 : decode (go_cc mx_X3_chooseRule) 45 = .ok (.iconst 0, 1) := by decide +kernel
theorem dx_X3_chooseRule_46 : decode (go_cc mx_X3_chooseRule) 46 = .ok (.invokestatic 126, 3) := by decide +kernel
theorem dx_X3_chooseRule_49 : decode (go_cc mx_X3_chooseRule) 49 = .ok (.invokevirtual 129, 3) := by decide +kernel
theorem dx_X3_chooseRule_52 : decode (go_cc mx_X3_chooseRule) 52 = .ok (.goto 18, 3) := by decide +kernel
theorem dx_X3_chooseRule_55 : decode (go_cc mx_X3_chooseRule) 55 = .ok (.aload_n 0, 1) := by decide +kernel
theorem dx_X3_chooseRule_56 : decode (go_cc mx_X3_chooseRule) 56 = .ok (.aload_n 0, 1) := by decide +kernel
theorem dx_X3_chooseRule_57 : decode (go_cc mx_X3_chooseRule) 57 = .ok (.getfield 15, 3) := by decide +kernel
theorem dx_X3_chooseRule_60 : decode (go_cc mx_X3_chooseRule) 60 = .ok (.getfield 133, 3) := by decide +kernel
theorem dx_X3_chooseRule_63 : decode (go_cc mx_X3_chooseRule) 63 = .ok (.iload_n 1, 1) := by decide +kernel
theorem dx_X3_chooseRule_64 : decode (go_cc mx_X3_chooseRule) 64 = .ok (.invokestatic 85, 3) := by decide +kernel
theorem dx_X3_chooseRule_67 : decode (go_cc mx_X3_chooseRule) 67 = .ok (.invokevirtual 138, 3) := by decide +kernel
theorem dx_X3_chooseRule_70 : decode (go_cc mx_X3_chooseRule) 70 = .ok (.lstore_n 3, 1) := by decide +kernel
theorem dx_X3_chooseRule_71 : decode (go_cc mx_X3_chooseRule) 71 = .ok (.aload_n 0, 1) := by decide +kernel
theorem dx_X3_chooseRule_72 : decode (go_cc mx_X3_chooseRule) 72 = .ok (.lload_n 3, 1) := by decide +kernel
theorem dx_X3_chooseRule_73 : decode (go_cc mx_X3_chooseRule) 73 = .ok (.invokevirtual 141, 3) := by decide +kernel
theorem dx_X3_chooseRule_76 : decode (go_cc mx_X3_chooseRule) 76 = .ok (.ifCond .eq 5, 3) := by decide +kernel
theorem dx_X3_chooseRule_79 : decode (go_cc mx_X3_chooseRule) 79 = .ok (.iload_n 1, 1) := by decide +kernel
theorem dx_X3_chooseRule_80 : decode (go_cc mx_X3_chooseRule) 80 = .ok (.ireturn, 1) := by decide +kernel
theorem dx_X3_chooseRule_81 : decode (go_cc mx_X3_chooseRule) 81 = .ok (.aload_n 0, 1) := by decide +kernel
theorem dx_X3_chooseRule_82 : decode (go_cc mx_X3_chooseRule) 82 = .ok (.dup, 1) := by decide +kernel
theorem dx_X3_chooseRule_83 : decode (go_cc mx_X3_chooseRule) 83 = .ok (.getfield 47, 3) := by decide +kernel
theorem dx_X3_chooseRule_86 : decode (go_cc mx_X3_chooseRule) 86 = .ok (.lload_n 3, 1) := by decide +kernel
theorem dx_X3_chooseRule_87 : decode (go_cc mx_X3_chooseRule) 87 = .ok (.lsub, 1) := by decide +kernel
theorem dx_X3_chooseRule_88 : decode (go_cc mx_X3_chooseRule) 88 = .ok (.putfield 47, 3) := by decide +kernel
theorem dx_X3_chooseRule_91 : decode (go_cc mx_X3_chooseRule) 91 = .ok (.iinc 1 1, 3) := by decide +kernel
theorem dx_X3_chooseRule_94 : decode (go_cc mx_X3_chooseRule) 94 = .ok (.goto (-92), 3) := by decide +kernel
theorem dx_X3_chooseRule_97 : decode (go_cc mx_X3_chooseRule) 97 = .ok (.iconst (-1), 1) := by decide +kernel
theorem dx_X3_chooseRule_98 : decode (go_cc mx_X3_chooseRule) 98 = .ok (.ireturn, 1) := by decide +kernel
theorem dx_X3_treesByUnit_0 : decode (go_cc mx_X3_treesByUnit) 0 = .ok (.iload_n 1, 1) := by decide +kernel
theorem dx_X3_treesByUnit_1 : decode (go_cc mx_X3_treesByUnit) 1 = .ok (.bipush 8, 2) := by decide +kernel
theorem dx_X3_treesByUnit_3 : decode (go_cc mx_X3_treesByUnit) 3 = .ok (.if_icmp .lt 20, 3) := by decide +kernel
theorem dx_X3_treesByUnit_6 : decode (go_cc mx_X3_treesByUnit) 6 = .ok (.aload_n 0, 1) := by decide +kernel
theorem dx_X3_treesByUnit_7 : decode (go_cc mx_X3_treesByUnit) 7 = .ok (.getfield 19, 3) := by decide +kernel
theorem dx_X3_treesByUnit_10 : decode (go_cc mx_X3_treesByUnit) 10 = .ok (.iload_n 1, 1) := by decide +kernel
theorem dx_X3_treesByUnit_11 : decode (go_cc mx_X3_treesByUnit) 11 = .ok (.aload_n 0, 1) := by decide +kernel
theorem dx_X3_treesByUnit_12 : decode (go_cc mx_X3_treesByUnit) 12 = .ok (.getfield 100, 3) := by decide +kernel
theorem dx_X3_treesByUnit_15 : decode (go_cc mx_X3_treesByUnit) 15 = .ok (.aload_n 0, 1) := by decide +kernel
theorem dx_X3_treesByUnit_16 : decode (go_cc mx_X3_treesByUnit) 16 = .ok (.getfield 103, 3) := by decide +kernel
theorem dx_X3_treesByUnit_19 : decode (go_cc mx_X3_treesByUnit) 19 = .ok (.invokevirtual 145, 3) := by decide +kernel
theorem dx_X3_treesByUnit_22 : decode (go_cc mx_X3_treesByUnit) 22 = .ok (.lreturn, 1) := by decide +kernel
theorem dx_X3_treesByUnit_23 : decode (go_cc mx_X3_treesByUnit) 23 = .ok (.aload_n 0, 1) := by decide +kernel
theorem dx_X3_treesByUnit_24 : decode (go_cc mx_X3_treesByUnit) 24 = .ok (.getfield 106, 3) := by decide +kernel
theorem dx_X3_treesByUnit_27 : decode (go_cc mx_X3_treesByUnit) 27 = .ok (.iload_n 1, 1) := by decide +kernel
theorem dx_X3_treesByUnit_28 : decode (go_cc mx_X3_treesByUnit) 28 = .ok (.iushr, 1) := by decide +kernel
theorem dx_X3_treesByUnit_29 : decode (go_cc mx_X3_treesByUnit) 29 = .ok (.iconst 1, 1) := by decide +kernel
theorem dx_X3_treesByUnit_30 : decode (go_cc mx_X3_treesByUnit) 30 = .ok (.iand, 1) := by decide +kernel
theorem dx_X3_treesByUnit_31 : decode (go_cc mx_X3_treesByUnit) 31 = .ok (.ifCond .eq 7, 3) := by decide +kernel
theorem dx_X3_treesByUnit_34 : decode (go_cc mx_X3_treesByUnit) 34 = .ok (.lconst 0, 1) := by decide +kernel
theorem dx_X3_treesByUnit_35 : decode (go_cc mx_X3_treesByUnit) 35 = .ok (.goto 23, 3) := by decide +kernel
theorem dx_X3_treesByUnit_38 : decode (go_cc mx_X3_treesByUnit) 38 = .ok (.aload_n 0, 1) := by decide +kernel
theorem dx_X3_treesByUnit_39 : decode (go_cc mx_X3_treesByUnit) 39 = .ok (.getfield 19, 3) := by decide +kernel
theorem dx_X3_treesByUnit_42 : decode (go_cc mx_X3_treesByUnit) 42 = .ok (.aload_n 0, 1) := by decide +kernel
theorem dx_X3_treesByUnit_43 : decode (go_cc mx_X3_treesByUnit) 43 = .ok (.getfield 106, 3) := by decide +kernel
theorem dx_X3_treesByUnit_46 : decode (go_cc mx_X3_treesByUnit) 46 = .ok (.iload_n 1, 1) := by decide +kernel
theorem dx_X3_treesByUnit_47 : decode (go_cc mx_X3_treesByUnit) 47 = .ok (.aload_n 0, 1) := by decide +kernel
theorem dx_X3_treesByUnit_48 : decode (go_cc mx_X3_treesByUnit) 48 = .ok (.getfield 100, 3) := by decide +kernel
theorem dx_X3_treesByUnit_51 : decode (go_cc mx_X3_treesByUnit) 51 = .ok (.aload_n 0, 1) := by decide +kernel
theorem dx_X3_treesByUnit_52 : decode (go_cc mx_X3_treesByUnit) 52 = .ok (.getfield 103, 3) := by decide +kernel
theorem dx_X3_treesByUnit_55 : decode (go_cc mx_X3_treesByUnit) 55 = .ok (.invokevirtual 151, 3) := by decide +kernel
theorem dx_X3_treesByUnit_58 : decode (go_cc mx_X3_treesByUnit) 58 = .ok (.lreturn, 1) := by decide +kernel
theorem dx_X3_treesByPair_0 : decode (go_cc mx_X3_treesByPair) 0 = .ok (.aload_n 0, 1) := by decide +kernel
theorem dx_X3_treesByPair_1 : decode (go_cc mx_X3_treesByPair) 1 = .ok (.getfield 15, 3) := by decide +kernel
theorem dx_X3_treesByPair_4 : decode (go_cc mx_X3_treesByPair) 4 = .ok (.getfield 155, 3) := by decide +kernel
theorem dx_X3_treesByPair_7 : decode (go_cc mx_X3_treesByPair) 7 = .ok (.iload_n 1, 1) := by decide +kernel
theorem dx_X3_treesByPair_8 : decode (go_cc mx_X3_treesByPair) 8 = .ok (.invokestatic 85, 3) := by decide +kernel
theorem dx_X3_treesByPair_11 : decode (go_cc mx_X3_treesByPair) 11 = .ok (.istore_n 2, 1) := by decide +kernel
theorem dx_X3_treesByPair_12 : decode (go_cc mx_X3_treesByPair) 12 = .ok (.lconst 0, 1) := by decide +kernel
theorem dx_X3_treesByPair_13 : decode (go_cc mx_X3_treesByPair) 13 = .ok (.lstore_n 3, 1) := by decide +kernel
theorem dx_X3_treesByPair_14 : decode (go_cc mx_X3_treesByPair) 14 = .ok (.aload_n 0, 1) := by decide +kernel
theorem dx_X3_treesByPair_15 : decode (go_cc mx_X3_treesByPair) 15 = .ok (.getfield 100, 3) := by decide +kernel
theorem dx_X3_treesByPair_18 : decode (go_cc mx_X3_treesByPair) 18 = .ok (.iconst 1, 1) := by decide +kernel
theorem dx_X3_treesByPair_19 : decode (go_cc mx_X3_treesByPair) 19 = .ok (.iadd, 1) := by decide +kernel
theorem dx_X3_treesByPair_20 : decode (go_cc mx_X3_treesByPair) 20 = .ok (.istore 5, 2) := by decide +kernel
theorem dx_X3_treesByPair_22 : decode (go_cc mx_X3_treesByPair) 22 = .ok (.iload 5, 2) := by decide +kernel
theorem dx_X3_treesByPair_24 : decode (go_cc mx_X3_treesByPair) 24 = .ok (.aload_n 0, 1) := by decide +kernel
theorem dx_X3_treesByPair_25 : decode (go_cc mx_X3_treesByPair) 25 = .ok (.getfield 103, 3) := by decide +kernel
theorem dx_X3_treesByPair_28 : decode (go_cc mx_X3_treesByPair) 28 = .ok (.if_icmp .ge 55, 3) := by decide +kernel
theorem dx_X3_treesByPair_31 : decode (go_cc mx_X3_treesByPair) 31 = .ok (.aload_n 0, 1) := by decide +kernel
theorem dx_X3_treesByPair_32 : decode (go_cc mx_X3_treesByPair) 32 = .ok (.getfield 19, 3) := by decide +kernel
theorem dx_X3_treesByPair_35 : decode (go_cc mx_X3_treesByPair) 35 = .ok (.iload_n 2, 1) := by decide +kernel
theorem dx_X3_treesByPair_36 : decode (go_cc mx_X3_treesByPair) 36 = .ok (.invokestatic 158, 3) := by decide +kernel
theorem dx_X3_treesByPair_39 : decode (go_cc mx_X3_treesByPair) 39 = .ok (.aload_n 0, 1) := by decide +kernel
theorem dx_X3_treesByPair_40 : decode (go_cc mx_X3_treesByPair) 40 = .ok (.getfield 100, 3) := by decide +kernel
theorem dx_X3_treesByPair_43 : decode (go_cc mx_X3_treesByPair) 43 = .ok (.iload 5, 2) := by decide +kernel
theorem dx_X3_treesByPair_45 : decode (go_cc mx_X3_treesByPair) 45 = .ok (.invokevirtual 145, 3) := by decide +kernel
theorem dx_X3_treesByPair_48 : decode (go_cc mx_X3_treesByPair) 48 = .ok (.aload_n 0, 1) := by decide +kernel
theorem dx_X3_treesByPair_49 : decode (go_cc mx_X3_treesByPair) 49 = .ok (.getfield 19, 3) := by decide +kernel
theorem dx_X3_treesByPair_52 : decode (go_cc mx_X3_treesByPair) 52 = .ok (.iload_n 2, 1) := by decide +kernel
theorem dx_X3_treesByPair_53 : decode (go_cc mx_X3_treesByPair) 53 = .ok (.invokestatic 161, 3) := by decide +kernel
theorem dx_X3_treesByPair_56 : decode (go_cc mx_X3_treesByPair) 56 = .ok (.iload 5, 2) := by decide +kernel
theorem dx_X3_treesByPair_58 : decode (go_cc mx_X3_treesByPair) 58 = .ok (.aload_n 0, 1) := by decide +kernel
theorem dx_X3_treesByPair_59 : decode (go_cc mx_X3_treesByPair) 59 = .ok (.getfield 103, 3) := by decide +kernel
theorem dx_X3_treesByPair_62 : decode (go_cc mx_X3_treesByPair) 62 = .ok (.invokevirtual 145, 3) := by decide +kernel
theorem dx_X3_treesByPair_65 : decode (go_cc mx_X3_treesByPair) 65 = .ok (.invokestatic 164, 3) := by decide +kernel
theorem dx_X3_treesByPair_68 : decode (go_cc mx_X3_treesByPair) 68 = .ok (.lstore 6, 2) := by decide +kernel
theorem dx_X3_treesByPair_70 : decode (go_cc mx_X3_treesByPair) 70 = .ok (.lload_n 3, 1) := by decide +kernel
theorem dx_X3_treesByPair_71 : decode (go_cc mx_X3_treesByPair) 71 = .ok (.lload 6, 2) := by decide +kernel
theorem dx_X3_treesByPair_73 : decode (go_cc mx_X3_treesByPair) 73 = .ok (.invokestatic 168, 3) := by decide +kernel
theorem dx_X3_treesByPair_76 : decode (go_cc mx_X3_treesByPair) 76 = .ok (.lstore_n 3, 1) := by decide +kernel
theorem dx_X3_treesByPair_77 : decode (go_cc mx_X3_treesByPair) 77 = .ok (.iinc 5 1, 3) := by decide +kernel
theorem dx_X3_treesByPair_80 : decode (go_cc mx_X3_treesByPair) 80 = .ok (.goto (-58), 3) := by decide +kernel
theorem dx_X3_treesByPair_83 : decode (go_cc mx_X3_treesByPair) 83 = .ok (.lload_n 3, 1) := by decide +kernel
theorem dx_X3_treesByPair_84 : decode (go_cc mx_X3_treesByPair) 84 = .ok (.lreturn, 1) := by decide +kernel
theorem dx_X3_chooseCuts_0 : decode (go_cc mx_X3_chooseCuts) 0 = .ok (.aload_n 0, 1) := by decide +kernel
theorem dx_X3_chooseCuts_1 : decode (go_cc mx_X3_chooseCuts) 1 = .ok (.getfield 9, 3) := by decide +kernel
theorem dx_X3_chooseCuts_4 : decode (go_cc mx_X3_chooseCuts) 4 = .ok (.iload_n 1, 1) := by decide +kernel
theorem dx_X3_chooseCuts_5 : decode (go_cc mx_X3_chooseCuts) 5 = .ok (.invokevirtual 78, 3) := by decide +kernel
theorem dx_X3_chooseCuts_8 : decode (go_cc mx_X3_chooseCuts) 8 = .ok (.invokestatic 123, 3) := by decide +kernel
theorem dx_X3_chooseCuts_11 : decode (go_cc mx_X3_chooseCuts) 11 = .ok (.istore_n 2, 1) := by decide +kernel
theorem dx_X3_chooseCuts_12 : decode (go_cc mx_X3_chooseCuts) 12 = .ok (.aload_n 0, 1) := by decide +kernel
theorem dx_X3_chooseCuts_13 : decode (go_cc mx_X3_chooseCuts) 13 = .ok (.getfield 34, 3) := by decide +kernel
theorem dx_X3_chooseCuts_16 : decode (go_cc mx_X3_chooseCuts) 16 = .ok (.iconst 0, 1) := by decide +kernel
theorem dx_X3_chooseCuts_17 : decode (go_cc mx_X3_chooseCuts) 17 = .ok (.aload_n 0, 1) := by decide +kernel
theorem dx_X3_chooseCuts_18 : decode (go_cc mx_X3_chooseCuts) 18 = .ok (.getfield 100, 3) := by decide +kernel
theorem dx_X3_chooseCuts_21 : decode (go_cc mx_X3_chooseCuts) 21 = .ok (.invokestatic 89, 3) := by decide +kernel
theorem dx_X3_chooseCuts_24 : decode (go_cc mx_X3_chooseCuts) 24 = .ok (.aload_n 0, 1) := by decide +kernel
theorem dx_X3_chooseCuts_25 : decode (go_cc mx_X3_chooseCuts) 25 = .ok (.getfield 34, 3) := by decide +kernel
theorem dx_X3_chooseCuts_28 : decode (go_cc mx_X3_chooseCuts) 28 = .ok (.iload_n 2, 1) := by decide +kernel
theorem dx_X3_chooseCuts_29 : decode (go_cc mx_X3_chooseCuts) 29 = .ok (.aload_n 0, 1) := by decide +kernel
theorem dx_X3_chooseCuts_30 : decode (go_cc mx_X3_chooseCuts) 30 = .ok (.getfield 103, 3) := by decide +kernel
theorem dx_X3_chooseCuts_33 : decode (go_cc mx_X3_chooseCuts) 33 = .ok (.invokestatic 89, 3) := by decide +kernel
theorem dx_X3_chooseCuts_36 : decode (go_cc mx_X3_chooseCuts) 36 = .ok (.lconst 1, 1) := by decide +kernel
theorem dx_X3_chooseCuts_37 : decode (go_cc mx_X3_chooseCuts) 37 = .ok (.lstore_n 3, 1) := by decide +kernel
theorem dx_X3_chooseCuts_38 : decode (go_cc mx_X3_chooseCuts) 38 = .ok (.aload_n 0, 1) := by decide +kernel
theorem dx_X3_chooseCuts_39 : decode (go_cc mx_X3_chooseCuts) 39 = .ok (.getfield 100, 3) := by decide +kernel
theorem dx_X3_chooseCuts_42 : decode (go_cc mx_X3_chooseCuts) 42 = .ok (.istore 5, 2) := by decide +kernel
theorem dx_X3_chooseCuts_44 : decode (go_cc mx_X3_chooseCuts) 44 = .ok (.iconst 0, 1) := by decide +kernel
theorem dx_X3_chooseCuts_45 : decode (go_cc mx_X3_chooseCuts) 45 = .ok (.istore 6, 2) := by decide +kernel
theorem dx_X3_chooseCuts_47 : decode (go_cc mx_X3_chooseCuts) 47 = .ok (.iload 6, 2) := by decide +kernel
theorem dx_X3_chooseCuts_49 : decode (go_cc mx_X3_chooseCuts) 49 = .ok (.iconst 1, 1) := by decide +kernel
theorem dx_X3_chooseCuts_50 : decode (go_cc mx_X3_chooseCuts) 50 = .ok (.iadd, 1) := by decide +kernel
theorem dx_X3_chooseCuts_51 : decode (go_cc mx_X3_chooseCuts) 51 = .ok (.iload_n 2, 1) := by decide +kernel
theorem dx_X3_chooseCuts_52 : decode (go_cc mx_X3_chooseCuts) 52 = .ok (.if_icmp .ge 84, 3) := by decide +kernel
theorem dx_X3_chooseCuts_55 : decode (go_cc mx_X3_chooseCuts) 55 = .ok (.aload_n 0, 1) := by decide +kernel
theorem dx_X3_chooseCuts_56 : decode (go_cc mx_X3_chooseCuts) 56 = .ok (.getfield 15, 3) := by decide +kernel
theorem dx_X3_chooseCuts_59 : decode (go_cc mx_X3_chooseCuts) 59 = .ok (.getfield 155, 3) := by decide +kernel
theorem dx_X3_chooseCuts_62 : decode (go_cc mx_X3_chooseCuts) 62 = .ok (.aload_n 0, 1) := by decide +kernel
theorem dx_X3_chooseCuts_63 : decode (go_cc mx_X3_chooseCuts) 63 = .ok (.getfield 15, 3) := by decide +kernel
theorem dx_X3_chooseCuts_66 : decode (go_cc mx_X3_chooseCuts) 66 = .ok (.getfield 133, 3) := by decide +kernel
theorem dx_X3_chooseCuts_69 : decode (go_cc mx_X3_chooseCuts) 69 = .ok (.iload_n 1, 1) := by decide +kernel
theorem dx_X3_chooseCuts_70 : decode (go_cc mx_X3_chooseCuts) 70 = .ok (.invokestatic 85, 3) := by decide +kernel
theorem dx_X3_chooseCuts_73 : decode (go_cc mx_X3_chooseCuts) 73 = .ok (.iload 6, 2) := by decide +kernel
theorem dx_X3_chooseCuts_75 : decode (go_cc mx_X3_chooseCuts) 75 = .ok (.iadd, 1) := by decide +kernel
theorem dx_X3_chooseCuts_76 : decode (go_cc mx_X3_chooseCuts) 76 = .ok (.invokestatic 85, 3) := by decide +kernel
theorem dx_X3_chooseCuts_79 : decode (go_cc mx_X3_chooseCuts) 79 = .ok (.istore 7, 2) := by decide +kernel
theorem dx_X3_chooseCuts_81 : decode (go_cc mx_X3_chooseCuts) 81 = .ok (.aload_n 0, 1) := by decide +kernel
theorem dx_X3_chooseCuts_82 : decode (go_cc mx_X3_chooseCuts) 82 = .ok (.iload 7, 2) := by decide +kernel
theorem dx_X3_chooseCuts_84 : decode (go_cc mx_X3_chooseCuts) 84 = .ok (.iload 5, 2) := by decide +kernel
theorem dx_X3_chooseCuts_86 : decode (go_cc mx_X3_chooseCuts) 86 = .ok (.lload_n 3, 1) := by decide +kernel
theorem dx_X3_chooseCuts_87 : decode (go_cc mx_X3_chooseCuts) 87 = .ok (.invokevirtual 171, 3) := by decide +kernel
theorem dx_X3_chooseCuts_90 : decode (go_cc mx_X3_chooseCuts) 90 = .ok (.istore 8, 2) := by decide +kernel
theorem dx_X3_chooseCuts_92 : decode (go_cc mx_X3_chooseCuts) 92 = .ok (.lload_n 3, 1) := by decide +kernel
theorem dx_X3_chooseCuts_93 : decode (go_cc mx_X3_chooseCuts) 93 = .ok (.aload_n 0, 1) := by decide +kernel
theorem dx_X3_chooseCuts_94 : decode (go_cc mx_X3_chooseCuts) 94 = .ok (.getfield 19, 3) := by decide +kernel
theorem dx_X3_chooseCuts_97 : decode (go_cc mx_X3_chooseCuts) 97 = .ok (.iload 7, 2) := by decide +kernel
theorem dx_X3_chooseCuts_99 : decode (go_cc mx_X3_chooseCuts) 99 = .ok (.invokestatic 158, 3) := by decide +kernel
theorem dx_X3_chooseCuts_102 : decode (go_cc mx_X3_chooseCuts) 102 = .ok (.iload 5, 2) := by decide +kernel
theorem dx_X3_chooseCuts_104 : decode (go_cc mx_X3_chooseCuts) 104 = .ok (.iload 8, 2) := by decide +kernel
theorem dx_X3_chooseCuts_106 : decode (go_cc mx_X3_chooseCuts) 106 = .ok (.invokevirtual 145, 3) := by decide +kernel
theorem dx_X3_chooseCuts_109 : decode (go_cc mx_X3_chooseCuts) 109 = .ok (.invokestatic 164, 3) := by decide +kernel
theorem dx_X3_chooseCuts_112 : decode (go_cc mx_X3_chooseCuts) 112 = .ok (.lstore_n 3, 1) := by decide +kernel
theorem dx_X3_chooseCuts_113 : decode (go_cc mx_X3_chooseCuts) 113 = .ok (.aload_n 0, 1) := by decide +kernel
theorem dx_X3_chooseCuts_114 : decode (go_cc mx_X3_chooseCuts) 114 = .ok (.getfield 34, 3) := by decide +kernel
theorem dx_X3_chooseCuts_117 : decode (go_cc mx_X3_chooseCuts) 117 = .ok (.iload 6, 2) := by decide +kernel
theorem dx_X3_chooseCuts_119 : decode (go_cc mx_X3_chooseCuts) 119 = .ok (.iconst 1, 1) := by decide +kernel
theorem dx_X3_chooseCuts_120 : decode (go_cc mx_X3_chooseCuts) 120 = .ok (.iadd, 1) := by decide +kernel
theorem dx_X3_chooseCuts_121 : decode (go_cc mx_X3_chooseCuts) 121 = .ok (.iload 8, 2) := by decide +kernel
theorem dx_X3_chooseCuts_123 : decode (go_cc mx_X3_chooseCuts) 123 = .ok (.invokestatic 89, 3) := by decide +kernel
theorem dx_X3_chooseCuts_126 : decode (go_cc mx_X3_chooseCuts) 126 = .ok (.iload 8, 2) := by decide +kernel
theorem dx_X3_chooseCuts_128 : decode (go_cc mx_X3_chooseCuts) 128 = .ok (.istore 5, 2) := by decide +kernel
theorem dx_X3_chooseCuts_130 : decode (go_cc mx_X3_chooseCuts) 130 = .ok (.iinc 6 1, 3) := by decide +kernel
theorem dx_X3_chooseCuts_133 : decode (go_cc mx_X3_chooseCuts) 133 = .ok (.goto (-86), 3) := by decide +kernel
theorem dx_X3_chooseCuts_136 : decode (go_cc mx_X3_chooseCuts) 136 = .ok (.return_, 1) := by decide +kernel
theorem dx_X3_chooseCut_0 : decode (go_cc mx_X3_chooseCut) 0 = .ok (.iload_n 2, 1) := by decide +kernel
theorem dx_X3_chooseCut_1 : decode (go_cc mx_X3_chooseCut) 1 = .ok (.iconst 1, 1) := by decide +kernel
theorem dx_X3_chooseCut_2 : decode (go_cc mx_X3_chooseCut) 2 = .ok (.iadd, 1) := by decide +kernel
theorem dx_X3_chooseCut_3 : decode (go_cc mx_X3_chooseCut) 3 = .ok (.istore 5, 2) := by decide +kernel
theorem dx_X3_chooseCut_5 : decode (go_cc mx_X3_chooseCut) 5 = .ok (.iload 5, 2) := by decide +kernel
theorem dx_X3_chooseCut_7 : decode (go_cc mx_X3_chooseCut) 7 = .ok (.aload_n 0, 1) := by decide +kernel
theorem dx_X3_chooseCut_8 : decode (go_cc mx_X3_chooseCut) 8 = .ok (.getfield 103, 3) := by decide +kernel
theorem dx_X3_chooseCut_11 : decode (go_cc mx_X3_chooseCut) 11 = .ok (.if_icmp .ge 76, 3) := by decide +kernel
theorem dx_X3_chooseCut_14 : decode (go_cc mx_X3_chooseCut) 14 = .ok (.lload_n 3, 1) := by decide +kernel
theorem dx_X3_chooseCut_15 : decode (go_cc mx_X3_chooseCut) 15 = .ok (.aload_n 0, 1) := by decide +kernel
theorem dx_X3_chooseCut_16 : decode (go_cc mx_X3_chooseCut) 16 = .ok (.getfield 19, 3) := by decide +kernel
theorem dx_X3_chooseCut_19 : decode (go_cc mx_X3_chooseCut) 19 = .ok (.iload_n 1, 1) := by decide +kernel
theorem dx_X3_chooseCut_20 : decode (go_cc mx_X3_chooseCut) 20 = .ok (.invokestatic 158, 3) := by decide +kernel
theorem dx_X3_chooseCut_23 : decode (go_cc mx_X3_chooseCut) 23 = .ok (.iload_n 2, 1) := by decide +kernel
theorem dx_X3_chooseCut_24 : decode (go_cc mx_X3_chooseCut) 24 = .ok (.iload 5, 2) := by decide +kernel
theorem dx_X3_chooseCut_26 : decode (go_cc mx_X3_chooseCut) 26 = .ok (.invokevirtual 145, 3) := by decide +kernel
theorem dx_X3_chooseCut_29 : decode (go_cc mx_X3_chooseCut) 29 = .ok (.invokestatic 164, 3) := by decide +kernel
theorem dx_X3_chooseCut_32 : decode (go_cc mx_X3_chooseCut) 32 = .ok (.lstore 6, 2) := by decide +kernel
theorem dx_X3_chooseCut_34 : decode (go_cc mx_X3_chooseCut) 34 = .ok (.lload 6, 2) := by decide +kernel
theorem dx_X3_chooseCut_36 : decode (go_cc mx_X3_chooseCut) 36 = .ok (.aload_n 0, 1) := by decide +kernel
theorem dx_X3_chooseCut_37 : decode (go_cc mx_X3_chooseCut) 37 = .ok (.getfield 19, 3) := by decide +kernel
theorem dx_X3_chooseCut_40 : decode (go_cc mx_X3_chooseCut) 40 = .ok (.iload_n 1, 1) := by decide +kernel
theorem dx_X3_chooseCut_41 : decode (go_cc mx_X3_chooseCut) 41 = .ok (.invokestatic 161, 3) := by decide +kernel
theorem dx_X3_chooseCut_44 : decode (go_cc mx_X3_chooseCut) 44 = .ok (.iload 5, 2) := by decide +kernel
theorem dx_X3_chooseCut_46 : decode (go_cc mx_X3_chooseCut) 46 = .ok (.aload_n 0, 1) := by decide +kernel
theorem dx_X3_chooseCut_47 : decode (go_cc mx_X3_chooseCut) 47 = .ok (.getfield 103, 3) := by decide +kernel
theorem dx_X3_chooseCut_50 : decode (go_cc mx_X3_chooseCut) 50 = .ok (.invokevirtual 145, 3) := by decide +kernel
theorem dx_X3_chooseCut_53 : decode (go_cc mx_X3_chooseCut) 53 = .ok (.invokestatic 164, 3) := by decide +kernel
theorem dx_X3_chooseCut_56 : decode (go_cc mx_X3_chooseCut) 56 = .ok (.lstore 8, 2) := by decide +kernel
theorem dx_X3_chooseCut_58 : decode (go_cc mx_X3_chooseCut) 58 = .ok (.aload_n 0, 1) := by decide +kernel
theorem dx_X3_chooseCut_59 : decode (go_cc mx_X3_chooseCut) 59 = .ok (.lload 8, 2) := by decide +kernel
theorem dx_X3_chooseCut_61 : decode (go_cc mx_X3_chooseCut) 61 = .ok (.invokevirtual 141, 3) := by decide +kernel
theorem dx_X3_chooseCut_64 : decode (go_cc mx_X3_chooseCut) 64 = .ok (.ifCond .eq 6, 3) := by decide +kernel
theorem dx_X3_chooseCut_67 : decode (go_cc mx_X3_chooseCut) 67 = .ok (.iload 5, 2) := by decide +kernel
theorem dx_X3_chooseCut_69 : decode (go_cc mx_X3_chooseCut) 69 = .ok (.ireturn, 1) := by decide +kernel
theorem dx_X3_chooseCut_70 : decode (go_cc mx_X3_chooseCut) 70 = .ok (.aload_n 0, 1) := by decide +kernel
theorem dx_X3_chooseCut_71 : decode (go_cc mx_X3_chooseCut) 71 = .ok (.dup, 1) := by decide +kernel
theorem dx_X3_chooseCut_72 : decode (go_cc mx_X3_chooseCut) 72 = .ok (.getfield 47, 3) := by decide +kernel
theorem dx_X3_chooseCut_75 : decode (go_cc mx_X3_chooseCut) 75 = .ok (.lload 8, 2) := by decide +kernel
theorem dx_X3_chooseCut_77 : decode (go_cc mx_X3_chooseCut) 77 = .ok (.lsub, 1) := by decide +kernel
theorem dx_X3_chooseCut_78 : decode (go_cc mx_X3_chooseCut) 78 = .ok (.putfield 47, 3) := by decide +kernel
theorem dx_X3_chooseCut_81 : decode (go_cc mx_X3_chooseCut) 81 = .ok (.iinc 5 1, 3) := by decide +kernel
theorem dx_X3_chooseCut_84 : decode (go_cc mx_X3_chooseCut) 84 = .ok (.goto (-79), 3) := by decide +kernel
theorem dx_X3_chooseCut_87 : decode (go_cc mx_X3_chooseCut) 87 = .ok (.aload_n 0, 1) := by decide +kernel
theorem dx_X3_chooseCut_88 : decode (go_cc mx_X3_chooseCut) 88 = .ok (.getfield 103, 3) := by decide +kernel
theorem dx_X3_chooseCut_91 : decode (go_cc mx_X3_chooseCut) 91 = .ok (.ireturn, 1) := by decide +kernel
theorem dx_X3_putParts_0 : decode (go_cc mx_X3_putParts) 0 = .ok (.iload_n 1, 1) := by decide +kernel
theorem dx_X3_putParts_1 : decode (go_cc mx_X3_putParts) 1 = .ok (.invokestatic 123, 3) := by decide +kernel
theorem dx_X3_putParts_4 : decode (go_cc mx_X3_putParts) 4 = .ok (.iconst 1, 1) := by decide +kernel
theorem dx_X3_putParts_5 : decode (go_cc mx_X3_putParts) 5 = .ok (.if_icmp .ne 36, 3) := by decide +kernel
theorem dx_X3_putParts_8 : decode (go_cc mx_X3_putParts) 8 = .ok (.iload_n 1, 1) := by decide +kernel
theorem dx_X3_putParts_9 : decode (go_cc mx_X3_putParts) 9 = .ok (.iconst 0, 1) := by decide +kernel
theorem dx_X3_putParts_10 : decode (go_cc mx_X3_putParts) 10 = .ok (.invokestatic 126, 3) := by decide +kernel
theorem dx_X3_putParts_13 : decode (go_cc mx_X3_putParts) 13 = .ok (.bipush 8, 2) := by decide +kernel
theorem dx_X3_putParts_15 : decode (go_cc mx_X3_putParts) 15 = .ok (.if_icmp .ge 25, 3) := by decide +kernel
theorem dx_X3_putParts_18 : decode (go_cc mx_X3_putParts) 18 = .ok (.aload_n 0, 1) := by decide +kernel
theorem dx_X3_putParts_19 : decode (go_cc mx_X3_putParts) 19 = .ok (.iload_n 1, 1) := by decide +kernel
theorem dx_X3_putParts_20 : decode (go_cc mx_X3_putParts) 20 = .ok (.iconst 0, 1) := by decide +kernel
theorem dx_X3_putParts_21 : decode (go_cc mx_X3_putParts) 21 = .ok (.invokestatic 126, 3) := by decide +kernel
theorem dx_X3_putParts_24 : decode (go_cc mx_X3_putParts) 24 = .ok (.aload_n 0, 1) := by decide +kernel
theorem dx_X3_putParts_25 : decode (go_cc mx_X3_putParts) 25 = .ok (.getfield 100, 3) := by decide +kernel
theorem dx_X3_putParts_28 : decode (go_cc mx_X3_putParts) 28 = .ok (.aload_n 0, 1) := by decide +kernel
theorem dx_X3_putParts_29 : decode (go_cc mx_X3_putParts) 29 = .ok (.getfield 103, 3) := by decide +kernel
theorem dx_X3_putParts_32 : decode (go_cc mx_X3_putParts) 32 = .ok (.aload_n 0, 1) := by decide +kernel
theorem dx_X3_putParts_33 : decode (go_cc mx_X3_putParts) 33 = .ok (.getfield 106, 3) := by decide +kernel
theorem dx_X3_putParts_36 : decode (go_cc mx_X3_putParts) 36 = .ok (.iload_n 2, 1) := by decide +kernel
theorem dx_X3_putParts_37 : decode (go_cc mx_X3_putParts) 37 = .ok (.invokevirtual 59, 3) := by decide +kernel
theorem dx_X3_putParts_40 : decode (go_cc mx_X3_putParts) 40 = .ok (.return_, 1) := by decide +kernel
theorem dx_X3_putParts_41 : decode (go_cc mx_X3_putParts) 41 = .ok (.aload_n 0, 1) := by decide +kernel
theorem dx_X3_putParts_42 : decode (go_cc mx_X3_putParts) 42 = .ok (.getfield 47, 3) := by decide +kernel
theorem dx_X3_putParts_45 : decode (go_cc mx_X3_putParts) 45 = .ok (.lstore_n 3, 1) := by decide +kernel
theorem dx_X3_putParts_46 : decode (go_cc mx_X3_putParts) 46 = .ok (.iload_n 1, 1) := by decide +kernel
theorem dx_X3_putParts_47 : decode (go_cc mx_X3_putParts) 47 = .ok (.invokestatic 123, 3) := by decide +kernel
theorem dx_X3_putParts_50 : decode (go_cc mx_X3_putParts) 50 = .ok (.iconst 1, 1) := by decide +kernel
theorem dx_X3_putParts_51 : decode (go_cc mx_X3_putParts) 51 = .ok (.isub, 1) := by decide +kernel
theorem dx_X3_putParts_52 : decode (go_cc mx_X3_putParts) 52 = .ok (.istore 5, 2) := by decide +kernel
theorem dx_X3_putParts_54 : decode (go_cc mx_X3_putParts) 54 = .ok (.iload 5, 2) := by decide +kernel
theorem dx_X3_putParts_56 : decode (go_cc mx_X3_putParts) 56 = .ok (.ifCond .lt 110, 3) := by decide +kernel
theorem dx_X3_putParts_59 : decode (go_cc mx_X3_putParts) 59 = .ok (.iload_n 1, 1) := by decide +kernel
theorem dx_X3_putParts_60 : decode (go_cc mx_X3_putParts) 60 = .ok (.iload 5, 2) := by decide +kernel
theorem dx_X3_putParts_62 : decode (go_cc mx_X3_putParts) 62 = .ok (.invokestatic 126, 3) := by decide +kernel
theorem dx_X3_putParts_65 : decode (go_cc mx_X3_putParts) 65 = .ok (.istore 6, 2) := by decide +kernel
theorem dx_X3_putParts_67 : decode (go_cc mx_X3_putParts) 67 = .ok (.aload_n 0, 1) := by decide +kernel
theorem dx_X3_putParts_68 : decode (go_cc mx_X3_putParts) 68 = .ok (.getfield 34, 3) := by decide +kernel
theorem dx_X3_putParts_71 : decode (go_cc mx_X3_putParts) 71 = .ok (.iload 5, 2) := by decide +kernel
theorem dx_X3_putParts_73 : decode (go_cc mx_X3_putParts) 73 = .ok (.invokestatic 85, 3) := by decide +kernel
theorem dx_X3_putParts_76 : decode (go_cc mx_X3_putParts) 76 = .ok (.istore 7, 2) := by decide +kernel
theorem dx_X3_putParts_78 : decode (go_cc mx_X3_putParts) 78 = .ok (.aload_n 0, 1) := by decide +kernel
theorem dx_X3_putParts_79 : decode (go_cc mx_X3_putParts) 79 = .ok (.getfield 34, 3) := by decide +kernel
theorem dx_X3_putParts_82 : decode (go_cc mx_X3_putParts) 82 = .ok (.iload 5, 2) := by decide +kernel
theorem dx_X3_putParts_84 : decode (go_cc mx_X3_putParts) 84 = .ok (.iconst 1, 1) := by decide +kernel
theorem dx_X3_putParts_85 : decode (go_cc mx_X3_putParts) 85 = .ok (.iadd, 1) := by decide +kernel
theorem dx_X3_putParts_86 : decode (go_cc mx_X3_putParts) 86 = .ok (.invokestatic 85, 3) := by decide +kernel
theorem dx_X3_putParts_89 : decode (go_cc mx_X3_putParts) 89 = .ok (.istore 8, 2) := by decide +kernel
theorem dx_X3_putParts_91 : decode (go_cc mx_X3_putParts) 91 = .ok (.aload_n 0, 1) := by decide +kernel
theorem dx_X3_putParts_92 : decode (go_cc mx_X3_putParts) 92 = .ok (.getfield 19, 3) := by decide +kernel
theorem dx_X3_putParts_95 : decode (go_cc mx_X3_putParts) 95 = .ok (.iload 6, 2) := by decide +kernel
theorem dx_X3_putParts_97 : decode (go_cc mx_X3_putParts) 97 = .ok (.iload 7, 2) := by decide +kernel
theorem dx_X3_putParts_99 : decode (go_cc mx_X3_putParts) 99 = .ok (.iload 8, 2) := by decide +kernel
theorem dx_X3_putParts_101 : decode (go_cc mx_X3_putParts) 101 = .ok (.invokevirtual 145, 3) := by decide +kernel
theorem dx_X3_putParts_104 : decode (go_cc mx_X3_putParts) 104 = .ok (.lstore 9, 2) := by decide +kernel
theorem dx_X3_putParts_106 : decode (go_cc mx_X3_putParts) 106 = .ok (.aload_n 0, 1) := by decide +kernel
theorem dx_X3_putParts_107 : decode (go_cc mx_X3_putParts) 107 = .ok (.lload 9, 2) := by decide +kernel
theorem dx_X3_putParts_109 : decode (go_cc mx_X3_putParts) 109 = .ok (.lconst 0, 1) := by decide +kernel
theorem dx_X3_putParts_110 : decode (go_cc mx_X3_putParts) 110 = .ok (.lcmp, 1) := by decide +kernel
theorem dx_X3_putParts_111 : decode (go_cc mx_X3_putParts) 111 = .ok (.ifCond .le 10, 3) := by decide +kernel
theorem dx_X3_putParts_114 : decode (go_cc mx_X3_putParts) 114 = .ok (.lload_n 3, 1) := by decide +kernel
theorem dx_X3_putParts_115 : decode (go_cc mx_X3_putParts) 115 = .ok (.lload 9, 2) := by decide +kernel
theorem dx_X3_putParts_117 : decode (go_cc mx_X3_putParts) 117 = .ok (.lrem, 1) := by decide +kernel
theorem dx_X3_putParts_118 : decode (go_cc mx_X3_putParts) 118 = .ok (.goto 4, 3) := by decide +kernel
theorem dx_X3_putParts_121 : decode (go_cc mx_X3_putParts) 121 = .ok (.lconst 0, 1) := by decide +kernel
theorem dx_X3_putParts_122 : decode (go_cc mx_X3_putParts) 122 = .ok (.putfield 47, 3) := by decide +kernel
theorem dx_X3_putParts_125 : decode (go_cc mx_X3_putParts) 125 = .ok (.lload 9, 2) := by decide +kernel
theorem dx_X3_putParts_127 : decode (go_cc mx_X3_putParts) 127 = .ok (.lconst 0, 1) := by decide +kernel
theorem dx_X3_putParts_128 : decode (go_cc mx_X3_putParts) 128 = .ok (.lcmp, 1) := by decide +kernel
theorem dx_X3_putParts_129 : decode (go_cc mx_X3_putParts) 129 = .ok (.ifCond .le 10, 3) := by decide +kernel
theorem dx_X3_putParts_132 : decode (go_cc mx_X3_putParts) 132 = .ok (.lload_n 3, 1) := by decide +kernel
theorem dx_X3_putParts_133 : decode (go_cc mx_X3_putParts) 133 = .ok (.lload 9, 2) := by decide +kernel
theorem dx_X3_putParts_135 : decode (go_cc mx_X3_putParts) 135 = .ok (.ldiv, 1) := by decide +kernel
theorem dx_X3_putParts_136 : decode (go_cc mx_X3_putParts) 136 = .ok (.goto 4, 3) := by decide +kernel
theorem dx_X3_putParts_139 : decode (go_cc mx_X3_putParts) 139 = .ok (.lconst 0, 1) := by decide +kernel
theorem dx_X3_putParts_140 : decode (go_cc mx_X3_putParts) 140 = .ok (.lstore_n 3, 1) := by decide +kernel
theorem dx_X3_putParts_141 : decode (go_cc mx_X3_putParts) 141 = .ok (.iload 6, 2) := by decide +kernel
theorem dx_X3_putParts_143 : decode (go_cc mx_X3_putParts) 143 = .ok (.bipush 8, 2) := by decide +kernel
theorem dx_X3_putParts_145 : decode (go_cc mx_X3_putParts) 145 = .ok (.if_icmp .ge 15, 3) := by decide +kernel
theorem dx_X3_putParts_148 : decode (go_cc mx_X3_putParts) 148 = .ok (.aload_n 0, 1) := by decide +kernel
theorem dx_X3_putParts_149 : decode (go_cc mx_X3_putParts) 149 = .ok (.iload 6, 2) := by decide +kernel
theorem dx_X3_putParts_151 : decode (go_cc mx_X3_putParts) 151 = .ok (.iload 7, 2) := by decide +kernel
theorem dx_X3_putParts_153 : decode (go_cc mx_X3_putParts) 153 = .ok (.iload 8, 2) := by decide +kernel
theorem dx_X3_putParts_155 : decode (go_cc mx_X3_putParts) 155 = .ok (.iconst 0, 1) := by decide +kernel
theorem dx_X3_putParts_156 : decode (go_cc mx_X3_putParts) 156 = .ok (.iload_n 2, 1) := by decide +kernel
theorem dx_X3_putParts_157 : decode (go_cc mx_X3_putParts) 157 = .ok (.invokevirtual 59, 3) := by decide +kernel
theorem dx_X3_putParts_160 : decode (go_cc mx_X3_putParts) 160 = .ok (.iinc 5 (-1), 3) := by decide +kernel
theorem dx_X3_putParts_163 : decode (go_cc mx_X3_putParts) 163 = .ok (.goto (-109), 3) := by decide +kernel
theorem dx_X3_putParts_166 : decode (go_cc mx_X3_putParts) 166 = .ok (.return_, 1) := by decide +kernel
theorem dx_X3_makeForm_0 : decode (go_cc mx_X3_makeForm) 0 = .ok (.aload_n 0, 1) := by decide +kernel
theorem dx_X3_makeForm_1 : decode (go_cc mx_X3_makeForm) 1 = .ok (.getfield 37, 3) := by decide +kernel
theorem dx_X3_makeForm_4 : decode (go_cc mx_X3_makeForm) 4 = .ok (.iconst 0, 1) := by decide +kernel
theorem dx_X3_makeForm_5 : decode (go_cc mx_X3_makeForm) 5 = .ok (.aload_n 0, 1) := by decide +kernel
theorem dx_X3_makeForm_6 : decode (go_cc mx_X3_makeForm) 6 = .ok (.getfield 9, 3) := by decide +kernel
theorem dx_X3_makeForm_9 : decode (go_cc mx_X3_makeForm) 9 = .ok (.getfield 51, 3) := by decide +kernel
theorem dx_X3_makeForm_12 : decode (go_cc mx_X3_makeForm) 12 = .ok (.invokestatic 89, 3) := by decide +kernel
theorem dx_X3_makeForm_15 : decode (go_cc mx_X3_makeForm) 15 = .ok (.aload_n 0, 1) := by decide +kernel
theorem dx_X3_makeForm_16 : decode (go_cc mx_X3_makeForm) 16 = .ok (.iconst 1, 1) := by decide +kernel
theorem dx_X3_makeForm_17 : decode (go_cc mx_X3_makeForm) 17 = .ok (.putfield 175, 3) := by decide +kernel
theorem dx_X3_makeForm_20 : decode (go_cc mx_X3_makeForm) 20 = .ok (.iconst 0, 1) := by decide +kernel
theorem dx_X3_makeForm_21 : decode (go_cc mx_X3_makeForm) 21 = .ok (.istore_n 2, 1) := by decide +kernel
theorem dx_X3_makeForm_22 : decode (go_cc mx_X3_makeForm) 22 = .ok (.iload_n 2, 1) := by decide +kernel
theorem dx_X3_makeForm_23 : decode (go_cc mx_X3_makeForm) 23 = .ok (.iload_n 1, 1) := by decide +kernel
theorem dx_X3_makeForm_24 : decode (go_cc mx_X3_makeForm) 24 = .ok (.if_icmp .ge 26, 3) := by decide +kernel
theorem dx_X3_makeForm_27 : decode (go_cc mx_X3_makeForm) 27 = .ok (.aload_n 0, 1) := by decide +kernel
theorem dx_X3_makeForm_28 : decode (go_cc mx_X3_makeForm) 28 = .ok (.aload_n 0, 1) := by decide +kernel
theorem dx_X3_makeForm_29 : decode (go_cc mx_X3_makeForm) 29 = .ok (.getfield 9, 3) := by decide +kernel
theorem dx_X3_makeForm_32 : decode (go_cc mx_X3_makeForm) 32 = .ok (.aload_n 0, 1) := by decide +kernel
theorem dx_X3_makeForm_33 : decode (go_cc mx_X3_makeForm) 33 = .ok (.iload_n 2, 1) := by decide +kernel
theorem dx_X3_makeForm_34 : decode (go_cc mx_X3_makeForm) 34 = .ok (.iconst 0, 1) := by decide +kernel
theorem dx_X3_makeForm_35 : decode (go_cc mx_X3_makeForm) 35 = .ok (.invokevirtual 116, 3) := by decide +kernel
theorem dx_X3_makeForm_38 : decode (go_cc mx_X3_makeForm) 38 = .ok (.invokevirtual 78, 3) := by decide +kernel
theorem dx_X3_makeForm_41 : decode (go_cc mx_X3_makeForm) 41 = .ok (.invokevirtual 178, 3) := by decide +kernel
theorem dx_X3_makeForm_44 : decode (go_cc mx_X3_makeForm) 44 = .ok (.iinc 2 1, 3) := by decide +kernel
theorem dx_X3_makeForm_47 : decode (go_cc mx_X3_makeForm) 47 = .ok (.goto (-25), 3) := by decide +kernel
theorem dx_X3_makeForm_50 : decode (go_cc mx_X3_makeForm) 50 = .ok (.return_, 1) := by decide +kernel
theorem dx_X3_replaceLeftmost_0 : decode (go_cc mx_X3_replaceLeftmost) 0 = .ok (.iconst 0, 1) := by decide +kernel
theorem dx_X3_replaceLeftmost_1 : decode (go_cc mx_X3_replaceLeftmost) 1 = .ok (.istore_n 2, 1) := by decide +kernel
theorem dx_X3_replaceLeftmost_2 : decode (go_cc mx_X3_replaceLeftmost) 2 = .ok (.iload_n 2, 1) := by decide +kernel
theorem dx_X3_replaceLeftmost_3 : decode (go_cc mx_X3_replaceLeftmost) 3 = .ok (.aload_n 0, 1) := by decide +kernel
theorem dx_X3_replaceLeftmost_4 : decode (go_cc mx_X3_replaceLeftmost) 4 = .ok (.getfield 175, 3) := by decide +kernel
theorem dx_X3_replaceLeftmost_7 : decode (go_cc mx_X3_replaceLeftmost) 7 = .ok (.if_icmp .ge 22, 3) := by decide +kernel
theorem dx_X3_replaceLeftmost_10 : decode (go_cc mx_X3_replaceLeftmost) 10 = .ok (.aload_n 0, 1) := by decide +kernel
theorem dx_X3_replaceLeftmost_11 : decode (go_cc mx_X3_replaceLeftmost) 11 = .ok (.getfield 37, 3) := by decide +kernel
theorem dx_X3_replaceLeftmost_14 : decode (go_cc mx_X3_replaceLeftmost) 14 = .ok (.iload_n 2, 1) := by decide +kernel
theorem dx_X3_replaceLeftmost_15 : decode (go_cc mx_X3_replaceLeftmost) 15 = .ok (.invokestatic 85, 3) := by decide +kernel
theorem dx_X3_replaceLeftmost_18 : decode (go_cc mx_X3_replaceLeftmost) 18 = .ok (.bipush 8, 2) := by decide +kernel
theorem dx_X3_replaceLeftmost_20 : decode (go_cc mx_X3_replaceLeftmost) 20 = .ok (.if_icmp .lt 9, 3) := by decide +kernel
theorem dx_X3_replaceLeftmost_23 : decode (go_cc mx_X3_replaceLeftmost) 23 = .ok (.iinc 2 1, 3) := by decide +kernel
theorem dx_X3_replaceLeftmost_26 : decode (go_cc mx_X3_replaceLeftmost) 26 = .ok (.goto (-24), 3) := by decide +kernel
theorem dx_X3_replaceLeftmost_29 : decode (go_cc mx_X3_replaceLeftmost) 29 = .ok (.iload_n 1, 1) := by decide +kernel
theorem dx_X3_replaceLeftmost_30 : decode (go_cc mx_X3_replaceLeftmost) 30 = .ok (.invokestatic 123, 3) := by decide +kernel
theorem dx_X3_replaceLeftmost_33 : decode (go_cc mx_X3_replaceLeftmost) 33 = .ok (.iconst 1, 1) := by decide +kernel
theorem dx_X3_replaceLeftmost_34 : decode (go_cc mx_X3_replaceLeftmost) 34 = .ok (.isub, 1) := by decide +kernel
theorem dx_X3_replaceLeftmost_35 : decode (go_cc mx_X3_replaceLeftmost) 35 = .ok (.istore_n 3, 1) := by decide +kernel
theorem dx_X3_replaceLeftmost_36 : decode (go_cc mx_X3_replaceLeftmost) 36 = .ok (.aload_n 0, 1) := by decide +kernel
theorem dx_X3_replaceLeftmost_37 : decode (go_cc mx_X3_replaceLeftmost) 37 = .ok (.getfield 175, 3) := by decide +kernel
theorem dx_X3_replaceLeftmost_40 : decode (go_cc mx_X3_replaceLeftmost) 40 = .ok (.iconst 1, 1) := by decide +kernel
theorem dx_X3_replaceLeftmost_41 : decode (go_cc mx_X3_replaceLeftmost) 41 = .ok (.isub, 1) := by decide +kernel
theorem dx_X3_replaceLeftmost_42 : decode (go_cc mx_X3_replaceLeftmost) 42 = .ok (.istore 4, 2) := by decide +kernel
theorem dx_X3_replaceLeftmost_44 : decode (go_cc mx_X3_replaceLeftmost) 44 = .ok (.iload 4, 2) := by decide +kernel
theorem dx_X3_replaceLeftmost_46 : decode (go_cc mx_X3_replaceLeftmost) 46 = .ok (.iload_n 2, 1) := by decide +kernel
theorem dx_X3_replaceLeftmost_47 : decode (go_cc mx_X3_replaceLeftmost) 47 = .ok (.if_icmp .le 29, 3) := by decide +kernel
theorem dx_X3_replaceLeftmost_50 : decode (go_cc mx_X3_replaceLeftmost) 50 = .ok (.aload_n 0, 1) := by decide +kernel
theorem dx_X3_replaceLeftmost_51 : decode (go_cc mx_X3_replaceLeftmost) 51 = .ok (.getfield 37, 3) := by decide +kernel
theorem dx_X3_replaceLeftmost_54 : decode (go_cc mx_X3_replaceLeftmost) 54 = .ok (.iload 4, 2) := by decide +kernel
theorem dx_X3_replaceLeftmost_56 : decode (go_cc mx_X3_replaceLeftmost) 56 = .ok (.iload_n 3, 1) := by decide +kernel
theorem dx_X3_replaceLeftmost_57 : decode (go_cc mx_X3_replaceLeftmost) 57 = .ok (.iadd, 1) := by decide +kernel
theorem dx_X3_replaceLeftmost_58 : decode (go_cc mx_X3_replaceLeftmost) 58 = .ok (.aload_n 0, 1) := by decide +kernel
theorem dx_X3_replaceLeftmost_59 : decode (go_cc mx_X3_replaceLeftmost) 59 = .ok (.getfield 37, 3) := by decide +kernel
theorem dx_X3_replaceLeftmost_62 : decode (go_cc mx_X3_replaceLeftmost) 62 = .ok (.iload 4, 2) := by decide +kernel
theorem dx_X3_replaceLeftmost_64 : decode (go_cc mx_X3_replaceLeftmost) 64 = .ok (.invokestatic 85, 3) := by decide +kernel
theorem dx_X3_replaceLeftmost_67 : decode (go_cc mx_X3_replaceLeftmost) 67 = .ok (.invokestatic 89, 3) := by decide +kernel
theorem dx_X3_replaceLeftmost_70 : decode (go_cc mx_X3_replaceLeftmost) 70 = .ok (.iinc 4 (-1), 3) := by decide +kernel
theorem dx_X3_replaceLeftmost_73 : decode (go_cc mx_X3_replaceLeftmost) 73 = .ok (.goto (-29), 3) := by decide +kernel
theorem dx_X3_replaceLeftmost_76 : decode (go_cc mx_X3_replaceLeftmost) 76 = .ok (.iconst 0, 1) := by decide +kernel
theorem dx_X3_replaceLeftmost_77 : decode (go_cc mx_X3_replaceLeftmost) 77 = .ok (.istore 4, 2) := by decide +kernel
theorem dx_X3_replaceLeftmost_79 : decode (go_cc mx_X3_replaceLeftmost) 79 = .ok (.iload 4, 2) := by decide +kernel
theorem dx_X3_replaceLeftmost_81 : decode (go_cc mx_X3_replaceLeftmost) 81 = .ok (.iload_n 3, 1) := by decide +kernel
theorem dx_X3_replaceLeftmost_82 : decode (go_cc mx_X3_replaceLeftmost) 82 = .ok (.if_icmp .gt 26, 3) := by decide +kernel
theorem dx_X3_replaceLeftmost_85 : decode (go_cc mx_X3_replaceLeftmost) 85 = .ok (.aload_n 0, 1) := by decide +kernel
theorem dx_X3_replaceLeftmost_86 : decode (go_cc mx_X3_replaceLeftmost) 86 = .ok (.getfield 37, 3) := by decide +kernel
theorem dx_X3_replaceLeftmost_89 : decode (go_cc mx_X3_replaceLeftmost) 89 = .ok (.iload_n 2, 1) := by decide +kernel
theorem dx_X3_replaceLeftmost_90 : decode (go_cc mx_X3_replaceLeftmost) 90 = .ok (.iload 4, 2) := by decide +kernel
theorem dx_X3_replaceLeftmost_92 : decode (go_cc mx_X3_replaceLeftmost) 92 = .ok (.iadd, 1) := by decide +kernel
theorem dx_X3_replaceLeftmost_93 : decode (go_cc mx_X3_replaceLeftmost) 93 = .ok (.iload_n 1, 1) := by decide +kernel
theorem dx_X3_replaceLeftmost_94 : decode (go_cc mx_X3_replaceLeftmost) 94 = .ok (.iload 4, 2) := by decide +kernel
theorem dx_X3_replaceLeftmost_96 : decode (go_cc mx_X3_replaceLeftmost) 96 = .ok (.invokestatic 126, 3) := by decide +kernel
theorem dx_X3_replaceLeftmost_99 : decode (go_cc mx_X3_replaceLeftmost) 99 = .ok (.invokestatic 89, 3) := by decide +kernel
theorem dx_X3_replaceLeftmost_102 : decode (go_cc mx_X3_replaceLeftmost) 102 = .ok (.iinc 4 1, 3) := by decide +kernel
theorem dx_X3_replaceLeftmost_105 : decode (go_cc mx_X3_replaceLeftmost) 105 = .ok (.goto (-26), 3) := by decide +kernel
theorem dx_X3_replaceLeftmost_108 : decode (go_cc mx_X3_replaceLeftmost) 108 = .ok (.aload_n 0, 1) := by decide +kernel
theorem dx_X3_replaceLeftmost_109 : decode (go_cc mx_X3_replaceLeftmost) 109 = .ok (.dup, 1) := by decide +kernel
theorem dx_X3_replaceLeftmost_110 : decode (go_cc mx_X3_replaceLeftmost) 110 = .ok (.getfield 175, 3) := by decide +kernel
theorem dx_X3_replaceLeftmost_113 : decode (go_cc mx_X3_replaceLeftmost) 113 = .ok (.iload_n 3, 1) := by decide +kernel
theorem dx_X3_replaceLeftmost_114 : decode (go_cc mx_X3_replaceLeftmost) 114 = .ok (.iadd, 1) := by decide +kernel
theorem dx_X3_replaceLeftmost_115 : decode (go_cc mx_X3_replaceLeftmost) 115 = .ok (.putfield 175, 3) := by decide +kernel
theorem dx_X3_replaceLeftmost_118 : decode (go_cc mx_X3_replaceLeftmost) 118 = .ok (.return_, 1) := by decide +kernel
theorem dx_X4_init_0 : decode (go_cc mx_X4_init) 0 = .ok (.aload_n 0, 1) := by decide +kernel
theorem dx_X4_init_1 : decode (go_cc mx_X4_init) 1 = .ok (.aload_n 1, 1) := by decide +kernel
theorem dx_X4_init_2 : decode (go_cc mx_X4_init) 2 = .ok (.aload_n 2, 1) := by decide +kernel
theorem dx_X4_init_3 : decode (go_cc mx_X4_init) 3 = .ok (.iconst 0, 1) := by decide +kernel
theorem dx_X4_init_4 : decode (go_cc mx_X4_init) 4 = .ok (.ldc2_w 5, 3) := by decide +kernel
theorem dx_X4_init_7 : decode (go_cc mx_X4_init) 7 = .ok (.invokespecial 7, 3) := by decide +kernel
theorem dx_X4_init_10 : decode (go_cc mx_X4_init) 10 = .ok (.aload_n 0, 1) := by decide +kernel
theorem dx_X4_init_11 : decode (go_cc mx_X4_init) 11 = .ok (.aload_n 3, 1) := by decide +kernel
theorem dx_X4_init_12 : decode (go_cc mx_X4_init) 12 = .ok (.putfield 13, 3) := by decide +kernel
theorem dx_X4_init_15 : decode (go_cc mx_X4_init) 15 = .ok (.return_, 1) := by decide +kernel
theorem dx_X4_ofLetter_0 : decode (go_cc mx_X4_ofLetter) 0 = .ok (.iload_n 1, 1) := by decide +kernel
theorem dx_X4_ofLetter_1 : decode (go_cc mx_X4_ofLetter) 1 = .ok (.aload_n 0, 1) := by decide +kernel
theorem dx_X4_ofLetter_2 : decode (go_cc mx_X4_ofLetter) 2 = .ok (.getfield 13, 3) := by decide +kernel
theorem dx_X4_ofLetter_5 : decode (go_cc mx_X4_ofLetter) 5 = .ok (.iload_n 2, 1) := by decide +kernel
theorem dx_X4_ofLetter_6 : decode (go_cc mx_X4_ofLetter) 6 = .ok (.invokevirtual 17, 3) := by decide +kernel
theorem dx_X4_ofLetter_9 : decode (go_cc mx_X4_ofLetter) 9 = .ok (.if_icmp .ne 7, 3) := by decide +kernel
theorem dx_X4_ofLetter_12 : decode (go_cc mx_X4_ofLetter) 12 = .ok (.lconst 0, 1) := by decide +kernel
theorem dx_X4_ofLetter_13 : decode (go_cc mx_X4_ofLetter) 13 = .ok (.goto 4, 3) := by decide +kernel
theorem dx_X4_ofLetter_16 : decode (go_cc mx_X4_ofLetter) 16 = .ok (.lconst 1, 1) := by decide +kernel
theorem dx_X4_ofLetter_17 : decode (go_cc mx_X4_ofLetter) 17 = .ok (.lstore_n 3, 1) := by decide +kernel
theorem dx_X4_ofLetter_18 : decode (go_cc mx_X4_ofLetter) 18 = .ok (.lload_n 3, 1) := by decide +kernel
theorem dx_X4_ofLetter_19 : decode (go_cc mx_X4_ofLetter) 19 = .ok (.bipush 42, 2) := by decide +kernel
theorem dx_X4_ofLetter_21 : decode (go_cc mx_X4_ofLetter) 21 = .ok (.lshl, 1) := by decide +kernel
theorem dx_X4_ofLetter_22 : decode (go_cc mx_X4_ofLetter) 22 = .ok (.iload_n 1, 1) := by decide +kernel
theorem dx_X4_ofLetter_23 : decode (go_cc mx_X4_ofLetter) 23 = .ok (.bipush 8, 2) := by decide +kernel
theorem dx_X4_ofLetter_25 : decode (go_cc mx_X4_ofLetter) 25 = .ok (.isub, 1) := by decide +kernel
theorem dx_X4_ofLetter_26 : decode (go_cc mx_X4_ofLetter) 26 = .ok (.i2l, 1) := by decide +kernel
theorem dx_X4_ofLetter_27 : decode (go_cc mx_X4_ofLetter) 27 = .ok (.lor, 1) := by decide +kernel
theorem dx_X4_ofLetter_28 : decode (go_cc mx_X4_ofLetter) 28 = .ok (.lreturn, 1) := by decide +kernel
theorem dx_X4_ofTwo_0 : decode (go_cc mx_X4_ofTwo) 0 = .ok (.lload_n 1, 1) := by decide +kernel
theorem dx_X4_ofTwo_1 : decode (go_cc mx_X4_ofTwo) 1 = .ok (.bipush 42, 2) := by decide +kernel
theorem dx_X4_ofTwo_3 : decode (go_cc mx_X4_ofTwo) 3 = .ok (.lushr, 1) := by decide +kernel
theorem dx_X4_ofTwo_4 : decode (go_cc mx_X4_ofTwo) 4 = .ok (.lload_n 3, 1) := by decide +kernel
theorem dx_X4_ofTwo_5 : decode (go_cc mx_X4_ofTwo) 5 = .ok (.bipush 42, 2) := by decide +kernel
theorem dx_X4_ofTwo_7 : decode (go_cc mx_X4_ofTwo) 7 = .ok (.lushr, 1) := by decide +kernel
theorem dx_X4_ofTwo_8 : decode (go_cc mx_X4_ofTwo) 8 = .ok (.ladd, 1) := by decide +kernel
theorem dx_X4_ofTwo_9 : decode (go_cc mx_X4_ofTwo) 9 = .ok (.lstore 6, 2) := by decide +kernel
theorem dx_X4_ofTwo_11 : decode (go_cc mx_X4_ofTwo) 11 = .ok (.lload_n 1, 1) := by decide +kernel
theorem dx_X4_ofTwo_12 : decode (go_cc mx_X4_ofTwo) 12 = .ok (.ldc2_w 23, 3) := by decide +kernel
theorem dx_X4_ofTwo_15 : decode (go_cc mx_X4_ofTwo) 15 = .ok (.land, 1) := by decide +kernel
theorem dx_X4_ofTwo_16 : decode (go_cc mx_X4_ofTwo) 16 = .ok (.iconst 3, 1) := by decide +kernel
theorem dx_X4_ofTwo_17 : decode (go_cc mx_X4_ofTwo) 17 = .ok (.iload 5, 2) := by decide +kernel
theorem dx_X4_ofTwo_19 : decode (go_cc mx_X4_ofTwo) 19 = .ok (.imul, 1) := by decide +kernel
theorem dx_X4_ofTwo_20 : decode (go_cc mx_X4_ofTwo) 20 = .ok (.lshl, 1) := by decide +kernel
theorem dx_X4_ofTwo_21 : decode (go_cc mx_X4_ofTwo) 21 = .ok (.lload_n 3, 1) := by decide +kernel
theorem dx_X4_ofTwo_22 : decode (go_cc mx_X4_ofTwo) 22 = .ok (.ldc2_w 23, 3) := by decide +kernel
theorem dx_X4_ofTwo_25 : decode (go_cc mx_X4_ofTwo) 25 = .ok (.land, 1) := by decide +kernel
theorem dx_X4_ofTwo_26 : decode (go_cc mx_X4_ofTwo) 26 = .ok (.lor, 1) := by decide +kernel
theorem dx_X4_ofTwo_27 : decode (go_cc mx_X4_ofTwo) 27 = .ok (.lstore 8, 2) := by decide +kernel
theorem dx_X4_ofTwo_29 : decode (go_cc mx_X4_ofTwo) 29 = .ok (.lload 6, 2) := by decide +kernel
theorem dx_X4_ofTwo_31 : decode (go_cc mx_X4_ofTwo) 31 = .ok (.bipush 42, 2) := by decide +kernel
theorem dx_X4_ofTwo_33 : decode (go_cc mx_X4_ofTwo) 33 = .ok (.lshl, 1) := by decide +kernel
theorem dx_X4_ofTwo_34 : decode (go_cc mx_X4_ofTwo) 34 = .ok (.lload 8, 2) := by decide +kernel
theorem dx_X4_ofTwo_36 : decode (go_cc mx_X4_ofTwo) 36 = .ok (.lor, 1) := by decide +kernel
theorem dx_X4_ofTwo_37 : decode (go_cc mx_X4_ofTwo) 37 = .ok (.lreturn, 1) := by decide +kernel
theorem dx_X4_merge_0 : decode (go_cc mx_X4_merge) 0 = .ok (.lload_n 1, 1) := by decide +kernel
theorem dx_X4_merge_1 : decode (go_cc mx_X4_merge) 1 = .ok (.aload_n 0, 1) := by decide +kernel
theorem dx_X4_merge_2 : decode (go_cc mx_X4_merge) 2 = .ok (.getfield 25, 3) := by decide +kernel
theorem dx_X4_merge_5 : decode (go_cc mx_X4_merge) 5 = .ok (.lcmp, 1) := by decide +kernel
theorem dx_X4_merge_6 : decode (go_cc mx_X4_merge) 6 = .ok (.ifCond .ne 7, 3) := by decide +kernel
theorem dx_X4_merge_9 : decode (go_cc mx_X4_merge) 9 = .ok (.lload_n 3, 1) := by decide +kernel
theorem dx_X4_merge_10 : decode (go_cc mx_X4_merge) 10 = .ok (.goto 8, 3) := by decide +kernel
theorem dx_X4_merge_13 : decode (go_cc mx_X4_merge) 13 = .ok (.lload_n 1, 1) := by decide +kernel
theorem dx_X4_merge_14 : decode (go_cc mx_X4_merge) 14 = .ok (.lload_n 3, 1) := by decide +kernel
theorem dx_X4_merge_15 : decode (go_cc mx_X4_merge) 15 = .ok (.invokestatic 29, 3) := by decide +kernel
theorem dx_X4_merge_18 : decode (go_cc mx_X4_merge) 18 = .ok (.lreturn, 1) := by decide +kernel
theorem dx_X4_othersIn_0 : decode (go_cc mx_X4_othersIn) 0 = .ok (.lload_n 0, 1) := by decide +kernel
theorem dx_X4_othersIn_1 : decode (go_cc mx_X4_othersIn) 1 = .ok (.bipush 42, 2) := by decide +kernel
theorem dx_X4_othersIn_3 : decode (go_cc mx_X4_othersIn) 3 = .ok (.lushr, 1) := by decide +kernel
theorem dx_X4_othersIn_4 : decode (go_cc mx_X4_othersIn) 4 = .ok (.l2i, 1) := by decide +kernel
theorem dx_X4_othersIn_5 : decode (go_cc mx_X4_othersIn) 5 = .ok (.ireturn, 1) := by decide +kernel
theorem dx_X4_letterIn_0 : decode (go_cc mx_X4_letterIn) 0 = .ok (.bipush 8, 2) := by decide +kernel
theorem dx_X4_letterIn_2 : decode (go_cc mx_X4_letterIn) 2 = .ok (.lload_n 0, 1) := by decide +kernel
theorem dx_X4_letterIn_3 : decode (go_cc mx_X4_letterIn) 3 = .ok (.iconst 3, 1) := by decide +kernel
theorem dx_X4_letterIn_4 : decode (go_cc mx_X4_letterIn) 4 = .ok (.iload_n 2, 1) := by decide +kernel
theorem dx_X4_letterIn_5 : decode (go_cc mx_X4_letterIn) 5 = .ok (.imul, 1) := by decide +kernel
theorem dx_X4_letterIn_6 : decode (go_cc mx_X4_letterIn) 6 = .ok (.lushr, 1) := by decide +kernel
theorem dx_X4_letterIn_7 : decode (go_cc mx_X4_letterIn) 7 = .ok (.ldc2_w 35, 3) := by decide +kernel
theorem dx_X4_letterIn_10 : decode (go_cc mx_X4_letterIn) 10 = .ok (.land, 1) := by decide +kernel
theorem dx_X4_letterIn_11 : decode (go_cc mx_X4_letterIn) 11 = .ok (.l2i, 1) := by decide +kernel
theorem dx_X4_letterIn_12 : decode (go_cc mx_X4_letterIn) 12 = .ok (.iadd, 1) := by decide +kernel
theorem dx_X4_letterIn_13 : decode (go_cc mx_X4_letterIn) 13 = .ok (.ireturn, 1) := by decide +kernel
theorem dx_X5_init_0 : decode (go_cc mx_X5_init) 0 = .ok (.aload_n 0, 1) := by decide +kernel
theorem dx_X5_init_1 : decode (go_cc mx_X5_init) 1 = .ok (.invokespecial 3, 3) := by decide +kernel
theorem dx_X5_init_4 : decode (go_cc mx_X5_init) 4 = .ok (.aload_n 0, 1) := by decide +kernel
theorem dx_X5_init_5 : decode (go_cc mx_X5_init) 5 = .ok (.bipush 10, 2) := by decide +kernel
theorem dx_X5_init_7 : decode (go_cc mx_X5_init) 7 = .ok (.anewarray 9, 3) := by decide +kernel
theorem dx_X5_init_10 : decode (go_cc mx_X5_init) 10 = .ok (.putfield 11, 3) := by decide +kernel
theorem dx_X5_init_13 : decode (go_cc mx_X5_init) 13 = .ok (.iconst 0, 1) := by decide +kernel
theorem dx_X5_init_14 : decode (go_cc mx_X5_init) 14 = .ok (.istore_n 1, 1) := by decide +kernel
theorem dx_X5_init_15 : decode (go_cc mx_X5_init) 15 = .ok (.iload_n 1, 1) := by decide +kernel
theorem dx_X5_init_16 : decode (go_cc mx_X5_init) 16 = .ok (.aload_n 0, 1) := by decide +kernel
theorem dx_X5_init_17 : decode (go_cc mx_X5_init) 17 = .ok (.getfield 11, 3) := by decide +kernel
theorem dx_X5_init_20 : decode (go_cc mx_X5_init) 20 = .ok (.arraylength, 1) := by decide +kernel
theorem dx_X5_init_21 : decode (go_cc mx_X5_init) 21 = .ok (.if_icmp .ge 22, 3) := by decide +kernel
theorem dx_X5_init_24 : decode (go_cc mx_X5_init) 24 = .ok (.aload_n 0, 1) := by decide +kernel
theorem dx_X5_init_25 : decode (go_cc mx_X5_init) 25 = .ok (.getfield 11, 3) := by decide +kernel
theorem dx_X5_init_28 : decode (go_cc mx_X5_init) 28 = .ok (.iload_n 1, 1) := by decide +kernel
theorem dx_X5_init_29 : decode (go_cc mx_X5_init) 29 = .ok (.new 9, 3) := by decide +kernel
theorem dx_X5_init_32 : decode (go_cc mx_X5_init) 32 = .ok (.dup, 1) := by decide +kernel
theorem dx_X5_init_33 : decode (go_cc mx_X5_init) 33 = .ok (.invokespecial 17, 3) := by decide +kernel
theorem dx_X5_init_36 : decode (go_cc mx_X5_init) 36 = .ok (.aastore, 1) := by decide +kernel
theorem dx_X5_init_37 : decode (go_cc mx_X5_init) 37 = .ok (.iinc 1 1, 3) := by decide +kernel
theorem dx_X5_init_40 : decode (go_cc mx_X5_init) 40 = .ok (.goto (-25), 3) := by decide +kernel
theorem dx_X5_init_43 : decode (go_cc mx_X5_init) 43 = .ok (.aload_n 0, 1) := by decide +kernel
theorem dx_X5_init_44 : decode (go_cc mx_X5_init) 44 = .ok (.iconst 2, 1) := by decide +kernel
theorem dx_X5_init_45 : decode (go_cc mx_X5_init) 45 = .ok (.anewarray 9, 3) := by decide +kernel
theorem dx_X5_init_48 : decode (go_cc mx_X5_init) 48 = .ok (.putfield 18, 3) := by decide +kernel
theorem dx_X5_init_51 : decode (go_cc mx_X5_init) 51 = .ok (.iconst 0, 1) := by decide +kernel
theorem dx_X5_init_52 : decode (go_cc mx_X5_init) 52 = .ok (.istore_n 1, 1) := by decide +kernel
theorem dx_X5_init_53 : decode (go_cc mx_X5_init) 53 = .ok (.iload_n 1, 1) := by decide +kernel
theorem dx_X5_init_54 : decode (go_cc mx_X5_init) 54 = .ok (.aload_n 0, 1) := by decide +kernel
theorem dx_X5_init_55 : decode (go_cc mx_X5_init) 55 = .ok (.getfield 18, 3) := by decide +kernel
theorem dx_X5_init_58 : decode (go_cc mx_X5_init) 58 = .ok (.arraylength, 1) := by decide +kernel
theorem dx_X5_init_59 : decode (go_cc mx_X5_init) 59 = .ok (.if_icmp .ge 22, 3) := by decide +kernel
theorem dx_X5_init_62 : decode (go_cc mx_X5_init) 62 = .ok (.aload_n 0, 1) := by decide +kernel
theorem dx_X5_init_63 : decode (go_cc mx_X5_init) 63 = .ok (.getfield 18, 3) := by decide +kernel
theorem dx_X5_init_66 : decode (go_cc mx_X5_init) 66 = .ok (.iload_n 1, 1) := by decide +kernel
theorem dx_X5_init_67 : decode (go_cc mx_X5_init) 67 = .ok (.new 9, 3) := by decide +kernel
theorem dx_X5_init_70 : decode (go_cc mx_X5_init) 70 = .ok (.dup, 1) := by decide +kernel
theorem dx_X5_init_71 : decode (go_cc mx_X5_init) 71 = .ok (.invokespecial 17, 3) := by decide +kernel
theorem dx_X5_init_74 : decode (go_cc mx_X5_init) 74 = .ok (.aastore, 1) := by decide +kernel
theorem dx_X5_init_75 : decode (go_cc mx_X5_init) 75 = .ok (.iinc 1 1, 3) := by decide +kernel
theorem dx_X5_init_78 : decode (go_cc mx_X5_init) 78 = .ok (.goto (-25), 3) := by decide +kernel
theorem dx_X5_init_81 : decode (go_cc mx_X5_init) 81 = .ok (.aload_n 0, 1) := by decide +kernel
theorem dx_X5_init_82 : decode (go_cc mx_X5_init) 82 = .ok (.iconst 2, 1) := by decide +kernel
theorem dx_X5_init_83 : decode (go_cc mx_X5_init) 83 = .ok (.newarray .boolean, 2) := by decide +kernel
theorem dx_X5_init_85 : decode (go_cc mx_X5_init) 85 = .ok (.putfield 21, 3) := by decide +kernel
theorem dx_X5_init_88 : decode (go_cc mx_X5_init) 88 = .ok (.return_, 1) := by decide +kernel
theorem dx_X5_keep_0 : decode (go_cc mx_X5_keep) 0 = .ok (.aload_n 0, 1) := by decide +kernel
theorem dx_X5_keep_1 : decode (go_cc mx_X5_keep) 1 = .ok (.aload_n 0, 1) := by decide +kernel
theorem dx_X5_keep_2 : decode (go_cc mx_X5_keep) 2 = .ok (.getfield 25, 3) := by decide +kernel
theorem dx_X5_keep_5 : decode (go_cc mx_X5_keep) 5 = .ok (.iconst 1, 1) := by decide +kernel
theorem dx_X5_keep_6 : decode (go_cc mx_X5_keep) 6 = .ok (.iadd, 1) := by decide +kernel
theorem dx_X5_keep_7 : decode (go_cc mx_X5_keep) 7 = .ok (.bipush 10, 2) := by decide +kernel
theorem dx_X5_keep_9 : decode (go_cc mx_X5_keep) 9 = .ok (.if_icmp .ge 12, 3) := by decide +kernel
theorem dx_X5_keep_12 : decode (go_cc mx_X5_keep) 12 = .ok (.aload_n 0, 1) := by decide +kernel
theorem dx_X5_keep_13 : decode (go_cc mx_X5_keep) 13 = .ok (.getfield 25, 3) := by decide +kernel
theorem dx_X5_keep_16 : decode (go_cc mx_X5_keep) 16 = .ok (.iconst 1, 1) := by decide +kernel
theorem dx_X5_keep_17 : decode (go_cc mx_X5_keep) 17 = .ok (.iadd, 1) := by decide +kernel
theorem dx_X5_keep_18 : decode (go_cc mx_X5_keep) 18 = .ok (.goto 4, 3) := by decide +kernel
theorem dx_X5_keep_21 : decode (go_cc mx_X5_keep) 21 = .ok (.iconst 0, 1) := by decide +kernel
theorem dx_X5_keep_22 : decode (go_cc mx_X5_keep) 22 = .ok (.putfield 25, 3) := by decide +kernel
theorem dx_X5_keep_25 : decode (go_cc mx_X5_keep) 25 = .ok (.aload_n 0, 1) := by decide +kernel
theorem dx_X5_keep_26 : decode (go_cc mx_X5_keep) 26 = .ok (.getfield 11, 3) := by decide +kernel
theorem dx_X5_keep_29 : decode (go_cc mx_X5_keep) 29 = .ok (.aload_n 0, 1) := by decide +kernel
theorem dx_X5_keep_30 : decode (go_cc mx_X5_keep) 30 = .ok (.getfield 25, 3) := by decide +kernel
theorem dx_X5_keep_33 : decode (go_cc mx_X5_keep) 33 = .ok (.invokestatic 29, 3) := by decide +kernel
theorem dx_X5_keep_36 : decode (go_cc mx_X5_keep) 36 = .ok (.astore_n 2, 1) := by decide +kernel
theorem dx_X5_keep_37 : decode (go_cc mx_X5_keep) 37 = .ok (.aload_n 2, 1) := by decide +kernel
theorem dx_X5_keep_38 : decode (go_cc mx_X5_keep) 38 = .ok (.ifnull 8, 3) := by decide +kernel
theorem dx_X5_keep_41 : decode (go_cc mx_X5_keep) 41 = .ok (.aload_n 2, 1) := by decide +kernel
theorem dx_X5_keep_42 : decode (go_cc mx_X5_keep) 42 = .ok (.aload_n 1, 1) := by decide +kernel
theorem dx_X5_keep_43 : decode (go_cc mx_X5_keep) 43 = .ok (.invokevirtual 33, 3) := by decide +kernel
theorem dx_X5_keep_46 : decode (go_cc mx_X5_keep) 46 = .ok (.aload_n 0, 1) := by decide +kernel
theorem dx_X5_keep_47 : decode (go_cc mx_X5_keep) 47 = .ok (.aload_n 0, 1) := by decide +kernel
theorem dx_X5_keep_48 : decode (go_cc mx_X5_keep) 48 = .ok (.getfield 37, 3) := by decide +kernel
theorem dx_X5_keep_51 : decode (go_cc mx_X5_keep) 51 = .ok (.iconst 1, 1) := by decide +kernel
theorem dx_X5_keep_52 : decode (go_cc mx_X5_keep) 52 = .ok (.iadd, 1) := by decide +kernel
theorem dx_X5_keep_53 : decode (go_cc mx_X5_keep) 53 = .ok (.bipush 10, 2) := by decide +kernel
theorem dx_X5_keep_55 : decode (go_cc mx_X5_keep) 55 = .ok (.invokestatic 40, 3) := by decide +kernel
theorem dx_X5_keep_58 : decode (go_cc mx_X5_keep) 58 = .ok (.putfield 37, 3) := by decide +kernel
theorem dx_X5_keep_61 : decode (go_cc mx_X5_keep) 61 = .ok (.return_, 1) := by decide +kernel
theorem dx_X5_goBack_0 : decode (go_cc mx_X5_goBack) 0 = .ok (.aload_n 0, 1) := by decide +kernel
theorem dx_X5_goBack_1 : decode (go_cc mx_X5_goBack) 1 = .ok (.getfield 25, 3) := by decide +kernel
theorem dx_X5_goBack_4 : decode (go_cc mx_X5_goBack) 4 = .ok (.iload_n 2, 1) := by decide +kernel
theorem dx_X5_goBack_5 : decode (go_cc mx_X5_goBack) 5 = .ok (.iconst 1, 1) := by decide +kernel
theorem dx_X5_goBack_6 : decode (go_cc mx_X5_goBack) 6 = .ok (.isub, 1) := by decide +kernel
theorem dx_X5_goBack_7 : decode (go_cc mx_X5_goBack) 7 = .ok (.isub, 1) := by decide +kernel
theorem dx_X5_goBack_8 : decode (go_cc mx_X5_goBack) 8 = .ok (.istore_n 3, 1) := by decide +kernel
theorem dx_X5_goBack_9 : decode (go_cc mx_X5_goBack) 9 = .ok (.iload_n 3, 1) := by decide +kernel
theorem dx_X5_goBack_10 : decode (go_cc mx_X5_goBack) 10 = .ok (.ifCond .ge 10, 3) := by decide +kernel
theorem dx_X5_goBack_13 : decode (go_cc mx_X5_goBack) 13 = .ok (.iload_n 3, 1) := by decide +kernel
theorem dx_X5_goBack_14 : decode (go_cc mx_X5_goBack) 14 = .ok (.bipush 10, 2) := by decide +kernel
theorem dx_X5_goBack_16 : decode (go_cc mx_X5_goBack) 16 = .ok (.iadd, 1) := by decide +kernel
theorem dx_X5_goBack_17 : decode (go_cc mx_X5_goBack) 17 = .ok (.goto 4, 3) := by decide +kernel
theorem dx_X5_goBack_20 : decode (go_cc mx_X5_goBack) 20 = .ok (.iload_n 3, 1) := by decide +kernel
theorem dx_X5_goBack_21 : decode (go_cc mx_X5_goBack) 21 = .ok (.istore_n 3, 1) := by decide +kernel
theorem dx_X5_goBack_22 : decode (go_cc mx_X5_goBack) 22 = .ok (.aload_n 0, 1) := by decide +kernel
theorem dx_X5_goBack_23 : decode (go_cc mx_X5_goBack) 23 = .ok (.getfield 11, 3) := by decide +kernel
theorem dx_X5_goBack_26 : decode (go_cc mx_X5_goBack) 26 = .ok (.iload_n 3, 1) := by decide +kernel
theorem dx_X5_goBack_27 : decode (go_cc mx_X5_goBack) 27 = .ok (.invokestatic 29, 3) := by decide +kernel
theorem dx_X5_goBack_30 : decode (go_cc mx_X5_goBack) 30 = .ok (.astore 4, 2) := by decide +kernel
theorem dx_X5_goBack_32 : decode (go_cc mx_X5_goBack) 32 = .ok (.aload 4, 2) := by decide +kernel
theorem dx_X5_goBack_34 : decode (go_cc mx_X5_goBack) 34 = .ok (.ifnonnull 4, 3) := by decide +kernel
theorem dx_X5_goBack_37 : decode (go_cc mx_X5_goBack) 37 = .ok (.return_, 1) := by decide +kernel
theorem dx_X5_goBack_38 : decode (go_cc mx_X5_goBack) 38 = .ok (.aload_n 1, 1) := by decide +kernel
theorem dx_X5_goBack_39 : decode (go_cc mx_X5_goBack) 39 = .ok (.aload 4, 2) := by decide +kernel
theorem dx_X5_goBack_41 : decode (go_cc mx_X5_goBack) 41 = .ok (.invokevirtual 33, 3) := by decide +kernel
theorem dx_X5_goBack_44 : decode (go_cc mx_X5_goBack) 44 = .ok (.aload_n 0, 1) := by decide +kernel
theorem dx_X5_goBack_45 : decode (go_cc mx_X5_goBack) 45 = .ok (.iload_n 3, 1) := by decide +kernel
theorem dx_X5_goBack_46 : decode (go_cc mx_X5_goBack) 46 = .ok (.ifCond .le 9, 3) := by decide +kernel
theorem dx_X5_goBack_49 : decode (go_cc mx_X5_goBack) 49 = .ok (.iload_n 3, 1) := by decide +kernel
theorem dx_X5_goBack_50 : decode (go_cc mx_X5_goBack) 50 = .ok (.iconst 1, 1) := by decide +kernel
theorem dx_X5_goBack_51 : decode (go_cc mx_X5_goBack) 51 = .ok (.isub, 1) := by decide +kernel
theorem dx_X5_goBack_52 : decode (go_cc mx_X5_goBack) 52 = .ok (.goto 5, 3) := by decide +kernel
theorem dx_X5_goBack_55 : decode (go_cc mx_X5_goBack) 55 = .ok (.bipush 9, 2) := by decide +kernel
theorem dx_X5_goBack_57 : decode (go_cc mx_X5_goBack) 57 = .ok (.putfield 25, 3) := by decide +kernel
theorem dx_X5_goBack_60 : decode (go_cc mx_X5_goBack) 60 = .ok (.aload_n 0, 1) := by decide +kernel
theorem dx_X5_goBack_61 : decode (go_cc mx_X5_goBack) 61 = .ok (.dup, 1) := by decide +kernel
theorem dx_X5_goBack_62 : decode (go_cc mx_X5_goBack) 62 = .ok (.getfield 37, 3) := by decide +kernel
theorem dx_X5_goBack_65 : decode (go_cc mx_X5_goBack) 65 = .ok (.iload_n 2, 1) := by decide +kernel
theorem dx_X5_goBack_66 : decode (go_cc mx_X5_goBack) 66 = .ok (.isub, 1) := by decide +kernel
theorem dx_X5_goBack_67 : decode (go_cc mx_X5_goBack) 67 = .ok (.putfield 37, 3) := by decide +kernel
theorem dx_X5_goBack_70 : decode (go_cc mx_X5_goBack) 70 = .ok (.return_, 1) := by decide +kernel
theorem dx_X5_makeImage_0 : decode (go_cc mx_X5_makeImage) 0 = .ok (.aload_n 0, 1) := by decide +kernel
theorem dx_X5_makeImage_1 : decode (go_cc mx_X5_makeImage) 1 = .ok (.getfield 18, 3) := by decide +kernel
theorem dx_X5_makeImage_4 : decode (go_cc mx_X5_makeImage) 4 = .ok (.iload_n 2, 1) := by decide +kernel
theorem dx_X5_makeImage_5 : decode (go_cc mx_X5_makeImage) 5 = .ok (.invokestatic 29, 3) := by decide +kernel
theorem dx_X5_makeImage_8 : decode (go_cc mx_X5_makeImage) 8 = .ok (.astore_n 3, 1) := by decide +kernel
theorem dx_X5_makeImage_9 : decode (go_cc mx_X5_makeImage) 9 = .ok (.aload_n 3, 1) := by decide +kernel
theorem dx_X5_makeImage_10 : decode (go_cc mx_X5_makeImage) 10 = .ok (.ifnull 24, 3) := by decide +kernel
theorem dx_X5_makeImage_13 : decode (go_cc mx_X5_makeImage) 13 = .ok (.iload_n 2, 1) := by decide +kernel
theorem dx_X5_makeImage_14 : decode (go_cc mx_X5_makeImage) 14 = .ok (.aload_n 0, 1) := by decide +kernel
theorem dx_X5_makeImage_15 : decode (go_cc mx_X5_makeImage) 15 = .ok (.getfield 21, 3) := by decide +kernel
theorem dx_X5_makeImage_18 : decode (go_cc mx_X5_makeImage) 18 = .ok (.arraylength, 1) := by decide +kernel
theorem dx_X5_makeImage_19 : decode (go_cc mx_X5_makeImage) 19 = .ok (.if_icmp .ge 15, 3) := by decide +kernel
theorem dx_X5_makeImage_22 : decode (go_cc mx_X5_makeImage) 22 = .ok (.aload_n 3, 1) := by decide +kernel
theorem dx_X5_makeImage_23 : decode (go_cc mx_X5_makeImage) 23 = .ok (.aload_n 1, 1) := by decide +kernel
theorem dx_X5_makeImage_24 : decode (go_cc mx_X5_makeImage) 24 = .ok (.invokevirtual 33, 3) := by decide +kernel
theorem dx_X5_makeImage_27 : decode (go_cc mx_X5_makeImage) 27 = .ok (.aload_n 0, 1) := by decide +kernel
theorem dx_X5_makeImage_28 : decode (go_cc mx_X5_makeImage) 28 = .ok (.getfield 21, 3) := by decide +kernel
theorem dx_X5_makeImage_31 : decode (go_cc mx_X5_makeImage) 31 = .ok (.iload_n 2, 1) := by decide +kernel
theorem dx_X5_makeImage_32 : decode (go_cc mx_X5_makeImage) 32 = .ok (.iconst 1, 1) := by decide +kernel
theorem dx_X5_makeImage_33 : decode (go_cc mx_X5_makeImage) 33 = .ok (.bastore, 1) := by decide +kernel
theorem dx_X5_makeImage_34 : decode (go_cc mx_X5_makeImage) 34 = .ok (.return_, 1) := by decide +kernel
theorem dx_X5_takeImage_0 : decode (go_cc mx_X5_takeImage) 0 = .ok (.aload_n 0, 1) := by decide +kernel
theorem dx_X5_takeImage_1 : decode (go_cc mx_X5_takeImage) 1 = .ok (.getfield 18, 3) := by decide +kernel
theorem dx_X5_takeImage_4 : decode (go_cc mx_X5_takeImage) 4 = .ok (.iload_n 2, 1) := by decide +kernel
theorem dx_X5_takeImage_5 : decode (go_cc mx_X5_takeImage) 5 = .ok (.invokestatic 29, 3) := by decide +kernel
theorem dx_X5_takeImage_8 : decode (go_cc mx_X5_takeImage) 8 = .ok (.astore_n 3, 1) := by decide +kernel
theorem dx_X5_takeImage_9 : decode (go_cc mx_X5_takeImage) 9 = .ok (.aload_n 3, 1) := by decide +kernel
theorem dx_X5_takeImage_10 : decode (go_cc mx_X5_takeImage) 10 = .ok (.ifnull 21, 3) := by decide +kernel
theorem dx_X5_takeImage_13 : decode (go_cc mx_X5_takeImage) 13 = .ok (.iload_n 2, 1) := by decide +kernel
theorem dx_X5_takeImage_14 : decode (go_cc mx_X5_takeImage) 14 = .ok (.aload_n 0, 1) := by decide +kernel
theorem dx_X5_takeImage_15 : decode (go_cc mx_X5_takeImage) 15 = .ok (.getfield 21, 3) := by decide +kernel
theorem dx_X5_takeImage_18 : decode (go_cc mx_X5_takeImage) 18 = .ok (.arraylength, 1) := by decide +kernel
theorem dx_X5_takeImage_19 : decode (go_cc mx_X5_takeImage) 19 = .ok (.if_icmp .ge 12, 3) := by decide +kernel
theorem dx_X5_takeImage_22 : decode (go_cc mx_X5_takeImage) 22 = .ok (.aload_n 0, 1) := by decide +kernel
theorem dx_X5_takeImage_23 : decode (go_cc mx_X5_takeImage) 23 = .ok (.getfield 21, 3) := by decide +kernel
theorem dx_X5_takeImage_26 : decode (go_cc mx_X5_takeImage) 26 = .ok (.iload_n 2, 1) := by decide +kernel
theorem dx_X5_takeImage_27 : decode (go_cc mx_X5_takeImage) 27 = .ok (.baload, 1) := by decide +kernel
theorem dx_X5_takeImage_28 : decode (go_cc mx_X5_takeImage) 28 = .ok (.ifCond .ne 5, 3) := by decide +kernel
theorem dx_X5_takeImage_31 : decode (go_cc mx_X5_takeImage) 31 = .ok (.iconst 0, 1) := by decide +kernel
theorem dx_X5_takeImage_32 : decode (go_cc mx_X5_takeImage) 32 = .ok (.ireturn, 1) := by decide +kernel
theorem dx_X5_takeImage_33 : decode (go_cc mx_X5_takeImage) 33 = .ok (.aload_n 1, 1) := by decide +kernel
theorem dx_X5_takeImage_34 : decode (go_cc mx_X5_takeImage) 34 = .ok (.aload_n 3, 1) := by decide +kernel
theorem dx_X5_takeImage_35 : decode (go_cc mx_X5_takeImage) 35 = .ok (.invokevirtual 33, 3) := by decide +kernel
theorem dx_X5_takeImage_38 : decode (go_cc mx_X5_takeImage) 38 = .ok (.aload_n 0, 1) := by decide +kernel
theorem dx_X5_takeImage_39 : decode (go_cc mx_X5_takeImage) 39 = .ok (.iconst 0, 1) := by decide +kernel
theorem dx_X5_takeImage_40 : decode (go_cc mx_X5_takeImage) 40 = .ok (.putfield 37, 3) := by decide +kernel
theorem dx_X5_takeImage_43 : decode (go_cc mx_X5_takeImage) 43 = .ok (.iconst 1, 1) := by decide +kernel
theorem dx_X5_takeImage_44 : decode (go_cc mx_X5_takeImage) 44 = .ok (.ireturn, 1) := by decide +kernel
theorem dx_X5_stateAt_0 : decode (go_cc mx_X5_stateAt) 0 = .ok (.iload_n 1, 1) := by decide +kernel
theorem dx_X5_stateAt_1 : decode (go_cc mx_X5_stateAt) 1 = .ok (.ifCond .lt 15, 3) := by decide +kernel
theorem dx_X5_stateAt_4 : decode (go_cc mx_X5_stateAt) 4 = .ok (.iload_n 1, 1) := by decide +kernel
theorem dx_X5_stateAt_5 : decode (go_cc mx_X5_stateAt) 5 = .ok (.aload_n 0, 1) := by decide +kernel
theorem dx_X5_stateAt_6 : decode (go_cc mx_X5_stateAt) 6 = .ok (.arraylength, 1) := by decide +kernel
theorem dx_X5_stateAt_7 : decode (go_cc mx_X5_stateAt) 7 = .ok (.if_icmp .ge 9, 3) := by decide +kernel
theorem dx_X5_stateAt_10 : decode (go_cc mx_X5_stateAt) 10 = .ok (.aload_n 0, 1) := by decide +kernel
theorem dx_X5_stateAt_11 : decode (go_cc mx_X5_stateAt) 11 = .ok (.iload_n 1, 1) := by decide +kernel
theorem dx_X5_stateAt_12 : decode (go_cc mx_X5_stateAt) 12 = .ok (.aaload, 1) := by decide +kernel
theorem dx_X5_stateAt_13 : decode (go_cc mx_X5_stateAt) 13 = .ok (.goto 4, 3) := by decide +kernel
theorem dx_X5_stateAt_16 : decode (go_cc mx_X5_stateAt) 16 = .ok (.aconst_null, 1) := by decide +kernel
theorem dx_X5_stateAt_17 : decode (go_cc mx_X5_stateAt) 17 = .ok (.areturn, 1) := by decide +kernel
theorem dx_X6_init_0 : decode (go_cc mx_X6_init) 0 = .ok (.aload_n 0, 1) := by decide +kernel
theorem dx_X6_init_1 : decode (go_cc mx_X6_init) 1 = .ok (.aload_n 1, 1) := by decide +kernel
theorem dx_X6_init_2 : decode (go_cc mx_X6_init) 2 = .ok (.aload_n 2, 1) := by decide +kernel
theorem dx_X6_init_3 : decode (go_cc mx_X6_init) 3 = .ok (.iconst 0, 1) := by decide +kernel
theorem dx_X6_init_4 : decode (go_cc mx_X6_init) 4 = .ok (.ldc2_w 3, 3) := by decide +kernel
theorem dx_X6_init_7 : decode (go_cc mx_X6_init) 7 = .ok (.invokespecial 5, 3) := by decide +kernel
theorem dx_X6_init_10 : decode (go_cc mx_X6_init) 10 = .ok (.return_, 1) := by decide +kernel
theorem dx_X6_ofLetter_0 : decode (go_cc mx_X6_ofLetter) 0 = .ok (.lconst 0, 1) := by decide +kernel
theorem dx_X6_ofLetter_1 : decode (go_cc mx_X6_ofLetter) 1 = .ok (.lreturn, 1) := by decide +kernel
theorem dx_X6_ofTwo_0 : decode (go_cc mx_X6_ofTwo) 0 = .ok (.lconst 1, 1) := by decide +kernel
theorem dx_X6_ofTwo_1 : decode (go_cc mx_X6_ofTwo) 1 = .ok (.lload_n 1, 1) := by decide +kernel
theorem dx_X6_ofTwo_2 : decode (go_cc mx_X6_ofTwo) 2 = .ok (.lload_n 3, 1) := by decide +kernel
theorem dx_X6_ofTwo_3 : decode (go_cc mx_X6_ofTwo) 3 = .ok (.invokestatic 11, 3) := by decide +kernel
theorem dx_X6_ofTwo_6 : decode (go_cc mx_X6_ofTwo) 6 = .ok (.ladd, 1) := by decide +kernel
theorem dx_X6_ofTwo_7 : decode (go_cc mx_X6_ofTwo) 7 = .ok (.lreturn, 1) := by decide +kernel
theorem dx_X6_merge_0 : decode (go_cc mx_X6_merge) 0 = .ok (.lload_n 1, 1) := by decide +kernel
theorem dx_X6_merge_1 : decode (go_cc mx_X6_merge) 1 = .ok (.aload_n 0, 1) := by decide +kernel
theorem dx_X6_merge_2 : decode (go_cc mx_X6_merge) 2 = .ok (.getfield 17, 3) := by decide +kernel
theorem dx_X6_merge_5 : decode (go_cc mx_X6_merge) 5 = .ok (.lcmp, 1) := by decide +kernel
theorem dx_X6_merge_6 : decode (go_cc mx_X6_merge) 6 = .ok (.ifCond .ne 7, 3) := by decide +kernel
theorem dx_X6_merge_9 : decode (go_cc mx_X6_merge) 9 = .ok (.lload_n 3, 1) := by decide +kernel
theorem dx_X6_merge_10 : decode (go_cc mx_X6_merge) 10 = .ok (.goto 8, 3) := by decide +kernel
theorem dx_X6_merge_13 : decode (go_cc mx_X6_merge) 13 = .ok (.lload_n 1, 1) := by decide +kernel
theorem dx_X6_merge_14 : decode (go_cc mx_X6_merge) 14 = .ok (.lload_n 3, 1) := by decide +kernel
theorem dx_X6_merge_15 : decode (go_cc mx_X6_merge) 15 = .ok (.invokestatic 23, 3) := by decide +kernel
theorem dx_X6_merge_18 : decode (go_cc mx_X6_merge) 18 = .ok (.lreturn, 1) := by decide +kernel
theorem dx_X6_greatestAt_0 : decode (go_cc mx_X6_greatestAt) 0 = .ok (.ldc2_w 3, 3) := by decide +kernel
theorem dx_X6_greatestAt_3 : decode (go_cc mx_X6_greatestAt) 3 = .ok (.lstore_n 3, 1) := by decide +kernel
theorem dx_X6_greatestAt_4 : decode (go_cc mx_X6_greatestAt) 4 = .ok (.iconst 0, 1) := by decide +kernel
theorem dx_X6_greatestAt_5 : decode (go_cc mx_X6_greatestAt) 5 = .ok (.istore 5, 2) := by decide +kernel
theorem dx_X6_greatestAt_7 : decode (go_cc mx_X6_greatestAt) 7 = .ok (.iload 5, 2) := by decide +kernel
theorem dx_X6_greatestAt_9 : decode (go_cc mx_X6_greatestAt) 9 = .ok (.aload_n 0, 1) := by decide +kernel
theorem dx_X6_greatestAt_10 : decode (go_cc mx_X6_greatestAt) 10 = .ok (.getfield 26, 3) := by decide +kernel
theorem dx_X6_greatestAt_13 : decode (go_cc mx_X6_greatestAt) 13 = .ok (.invokevirtual 30, 3) := by decide +kernel
theorem dx_X6_greatestAt_16 : decode (go_cc mx_X6_greatestAt) 16 = .ok (.if_icmp .ge 22, 3) := by decide +kernel
theorem dx_X6_greatestAt_19 : decode (go_cc mx_X6_greatestAt) 19 = .ok (.lload_n 3, 1) := by decide +kernel
theorem dx_X6_greatestAt_20 : decode (go_cc mx_X6_greatestAt) 20 = .ok (.aload_n 0, 1) := by decide +kernel
theorem dx_X6_greatestAt_21 : decode (go_cc mx_X6_greatestAt) 21 = .ok (.iload 5, 2) := by decide +kernel
theorem dx_X6_greatestAt_23 : decode (go_cc mx_X6_greatestAt) 23 = .ok (.iload_n 1, 1) := by decide +kernel
theorem dx_X6_greatestAt_24 : decode (go_cc mx_X6_greatestAt) 24 = .ok (.iload_n 2, 1) := by decide +kernel
theorem dx_X6_greatestAt_25 : decode (go_cc mx_X6_greatestAt) 25 = .ok (.invokevirtual 36, 3) := by decide +kernel
theorem dx_X6_greatestAt_28 : decode (go_cc mx_X6_greatestAt) 28 = .ok (.invokestatic 11, 3) := by decide +kernel
theorem dx_X6_greatestAt_31 : decode (go_cc mx_X6_greatestAt) 31 = .ok (.lstore_n 3, 1) := by decide +kernel
theorem dx_X6_greatestAt_32 : decode (go_cc mx_X6_greatestAt) 32 = .ok (.iinc 5 1, 3) := by decide +kernel
theorem dx_X6_greatestAt_35 : decode (go_cc mx_X6_greatestAt) 35 = .ok (.goto (-28), 3) := by decide +kernel
theorem dx_X6_greatestAt_38 : decode (go_cc mx_X6_greatestAt) 38 = .ok (.lload_n 3, 1) := by decide +kernel
theorem dx_X6_greatestAt_39 : decode (go_cc mx_X6_greatestAt) 39 = .ok (.lreturn, 1) := by decide +kernel
theorem dx_X7_init_0 : decode (go_cc mx_X7_init) 0 = .ok (.aload_n 0, 1) := by decide +kernel
theorem dx_X7_init_1 : decode (go_cc mx_X7_init) 1 = .ok (.invokespecial 3, 3) := by decide +kernel
theorem dx_X7_init_4 : decode (go_cc mx_X7_init) 4 = .ok (.aload_n 0, 1) := by decide +kernel
theorem dx_X7_init_5 : decode (go_cc mx_X7_init) 5 = .ok (.aload_n 1, 1) := by decide +kernel
theorem dx_X7_init_6 : decode (go_cc mx_X7_init) 6 = .ok (.putfield 9, 3) := by decide +kernel
theorem dx_X7_init_9 : decode (go_cc mx_X7_init) 9 = .ok (.aload_n 0, 1) := by decide +kernel
theorem dx_X7_init_10 : decode (go_cc mx_X7_init) 10 = .ok (.aload_n 2, 1) := by decide +kernel
theorem dx_X7_init_11 : decode (go_cc mx_X7_init) 11 = .ok (.putfield 15, 3) := by decide +kernel
theorem dx_X7_init_14 : decode (go_cc mx_X7_init) 14 = .ok (.aload_n 0, 1) := by decide +kernel
theorem dx_X7_init_15 : decode (go_cc mx_X7_init) 15 = .ok (.iload_n 3, 1) := by decide +kernel
theorem dx_X7_init_16 : decode (go_cc mx_X7_init) 16 = .ok (.putfield 19, 3) := by decide +kernel
theorem dx_X7_init_19 : decode (go_cc mx_X7_init) 19 = .ok (.aload_n 0, 1) := by decide +kernel
theorem dx_X7_init_20 : decode (go_cc mx_X7_init) 20 = .ok (.lload 4, 2) := by decide +kernel
theorem dx_X7_init_22 : decode (go_cc mx_X7_init) 22 = .ok (.putfield 23, 3) := by decide +kernel
theorem dx_X7_init_25 : decode (go_cc mx_X7_init) 25 = .ok (.aload_n 0, 1) := by decide +kernel
theorem dx_X7_init_26 : decode (go_cc mx_X7_init) 26 = .ok (.iload_n 3, 1) := by decide +kernel
theorem dx_X7_init_27 : decode (go_cc mx_X7_init) 27 = .ok (.ifCond .eq 8, 3) := by decide +kernel
theorem dx_X7_init_30 : decode (go_cc mx_X7_init) 30 = .ok (.bipush 14, 2) := by decide +kernel
theorem dx_X7_init_32 : decode (go_cc mx_X7_init) 32 = .ok (.goto 5, 3) := by decide +kernel
theorem dx_X7_init_35 : decode (go_cc mx_X7_init) 35 = .ok (.bipush 105, 2) := by decide +kernel
theorem dx_X7_init_37 : decode (go_cc mx_X7_init) 37 = .ok (.bipush 62, 2) := by decide +kernel
theorem dx_X7_init_39 : decode (go_cc mx_X7_init) 39 = .ok (.imul, 1) := by decide +kernel
theorem dx_X7_init_40 : decode (go_cc mx_X7_init) 40 = .ok (.newarray .long, 2) := by decide +kernel
theorem dx_X7_init_42 : decode (go_cc mx_X7_init) 42 = .ok (.putfield 27, 3) := by decide +kernel
theorem dx_X7_init_45 : decode (go_cc mx_X7_init) 45 = .ok (.aload_n 0, 1) := by decide +kernel
theorem dx_X7_init_46 : decode (go_cc mx_X7_init) 46 = .ok (.bipush 62, 2) := by decide +kernel
theorem dx_X7_init_48 : decode (go_cc mx_X7_init) 48 = .ok (.newarray .long, 2) := by decide +kernel
theorem dx_X7_init_50 : decode (go_cc mx_X7_init) 50 = .ok (.putfield 31, 3) := by decide +kernel
theorem dx_X7_init_53 : decode (go_cc mx_X7_init) 53 = .ok (.return_, 1) := by decide +kernel
theorem dx_X7_fill_0 : decode (go_cc mx_X7_fill) 0 = .ok (.iconst 1, 1) := by decide +kernel
theorem dx_X7_fill_1 : decode (go_cc mx_X7_fill) 1 = .ok (.istore_n 2, 1) := by decide +kernel
theorem dx_X7_fill_2 : decode (go_cc mx_X7_fill) 2 = .ok (.iload_n 2, 1) := by decide +kernel
theorem dx_X7_fill_3 : decode (go_cc mx_X7_fill) 3 = .ok (.iload_n 1, 1) := by decide +kernel
theorem dx_X7_fill_4 : decode (go_cc mx_X7_fill) 4 = .ok (.if_icmp .gt 51, 3) := by decide +kernel
theorem dx_X7_fill_7 : decode (go_cc mx_X7_fill) 7 = .ok (.aload_n 0, 1) := by decide +kernel
theorem dx_X7_fill_8 : decode (go_cc mx_X7_fill) 8 = .ok (.getfield 19, 3) := by decide +kernel
theorem dx_X7_fill_11 : decode (go_cc mx_X7_fill) 11 = .ok (.ifCond .eq 7, 3) := by decide +kernel
theorem dx_X7_fill_14 : decode (go_cc mx_X7_fill) 14 = .ok (.iconst 1, 1) := by decide +kernel
theorem dx_X7_fill_15 : decode (go_cc mx_X7_fill) 15 = .ok (.goto 8, 3) := by decide +kernel
theorem dx_X7_fill_18 : decode (go_cc mx_X7_fill) 18 = .ok (.iload_n 1, 1) := by decide +kernel
theorem dx_X7_fill_19 : decode (go_cc mx_X7_fill) 19 = .ok (.iload_n 2, 1) := by decide +kernel
theorem dx_X7_fill_20 : decode (go_cc mx_X7_fill) 20 = .ok (.isub, 1) := by decide +kernel
theorem dx_X7_fill_21 : decode (go_cc mx_X7_fill) 21 = .ok (.iconst 1, 1) := by decide +kernel
theorem dx_X7_fill_22 : decode (go_cc mx_X7_fill) 22 = .ok (.iadd, 1) := by decide +kernel
theorem dx_X7_fill_23 : decode (go_cc mx_X7_fill) 23 = .ok (.istore_n 3, 1) := by decide +kernel
theorem dx_X7_fill_24 : decode (go_cc mx_X7_fill) 24 = .ok (.iconst 0, 1) := by decide +kernel
theorem dx_X7_fill_25 : decode (go_cc mx_X7_fill) 25 = .ok (.istore 4, 2) := by decide +kernel
theorem dx_X7_fill_27 : decode (go_cc mx_X7_fill) 27 = .ok (.iload 4, 2) := by decide +kernel
theorem dx_X7_fill_29 : decode (go_cc mx_X7_fill) 29 = .ok (.iload_n 3, 1) := by decide +kernel
theorem dx_X7_fill_30 : decode (go_cc mx_X7_fill) 30 = .ok (.if_icmp .ge 19, 3) := by decide +kernel
theorem dx_X7_fill_33 : decode (go_cc mx_X7_fill) 33 = .ok (.aload_n 0, 1) := by decide +kernel
theorem dx_X7_fill_34 : decode (go_cc mx_X7_fill) 34 = .ok (.iload 4, 2) := by decide +kernel
theorem dx_X7_fill_36 : decode (go_cc mx_X7_fill) 36 = .ok (.iload 4, 2) := by decide +kernel
theorem dx_X7_fill_38 : decode (go_cc mx_X7_fill) 38 = .ok (.iload_n 2, 1) := by decide +kernel
theorem dx_X7_fill_39 : decode (go_cc mx_X7_fill) 39 = .ok (.iadd, 1) := by decide +kernel
theorem dx_X7_fill_40 : decode (go_cc mx_X7_fill) 40 = .ok (.invokevirtual 34, 3) := by decide +kernel
theorem dx_X7_fill_43 : decode (go_cc mx_X7_fill) 43 = .ok (.iinc 4 1, 3) := by decide +kernel
theorem dx_X7_fill_46 : decode (go_cc mx_X7_fill) 46 = .ok (.goto (-19), 3) := by decide +kernel
theorem dx_X7_fill_49 : decode (go_cc mx_X7_fill) 49 = .ok (.iinc 2 1, 3) := by decide +kernel
theorem dx_X7_fill_52 : decode (go_cc mx_X7_fill) 52 = .ok (.goto (-50), 3) := by decide +kernel
theorem dx_X7_fill_55 : decode (go_cc mx_X7_fill) 55 = .ok (.return_, 1) := by decide +kernel
theorem dx_X7_fillSpan_0 : decode (go_cc mx_X7_fillSpan) 0 = .ok (.aload_n 0, 1) := by decide +kernel
theorem dx_X7_fillSpan_1 : decode (go_cc mx_X7_fillSpan) 1 = .ok (.getfield 9, 3) := by decide +kernel
theorem dx_X7_fillSpan_4 : decode (go_cc mx_X7_fillSpan) 4 = .ok (.invokevirtual 38, 3) := by decide +kernel
theorem dx_X7_fillSpan_7 : decode (go_cc mx_X7_fillSpan) 7 = .ok (.istore_n 3, 1) := by decide +kernel
theorem dx_X7_fillSpan_8 : decode (go_cc mx_X7_fillSpan) 8 = .ok (.iconst 0, 1) := by decide +kernel
theorem dx_X7_fillSpan_9 : decode (go_cc mx_X7_fillSpan) 9 = .ok (.istore 4, 2) := by decide +kernel
theorem dx_X7_fillSpan_11 : decode (go_cc mx_X7_fillSpan) 11 = .ok (.iload 4, 2) := by decide +kernel
theorem dx_X7_fillSpan_13 : decode (go_cc mx_X7_fillSpan) 13 = .ok (.iload_n 3, 1) := by decide +kernel
theorem dx_X7_fillSpan_14 : decode (go_cc mx_X7_fillSpan) 14 = .ok (.if_icmp .ge 22, 3) := by decide +kernel
theorem dx_X7_fillSpan_17 : decode (go_cc mx_X7_fillSpan) 17 = .ok (.aload_n 0, 1) := by decide +kernel
theorem dx_X7_fillSpan_18 : decode (go_cc mx_X7_fillSpan) 18 = .ok (.getfield 31, 3) := by decide +kernel
theorem dx_X7_fillSpan_21 : decode (go_cc mx_X7_fillSpan) 21 = .ok (.iload 4, 2) := by decide +kernel
theorem dx_X7_fillSpan_23 : decode (go_cc mx_X7_fillSpan) 23 = .ok (.aload_n 0, 1) := by decide +kernel
theorem dx_X7_fillSpan_24 : decode (go_cc mx_X7_fillSpan) 24 = .ok (.getfield 23, 3) := by decide +kernel
theorem dx_X7_fillSpan_27 : decode (go_cc mx_X7_fillSpan) 27 = .ok (.invokestatic 44, 3) := by decide +kernel
theorem dx_X7_fillSpan_30 : decode (go_cc mx_X7_fillSpan) 30 = .ok (.iinc 4 1, 3) := by decide +kernel
theorem dx_X7_fillSpan_33 : decode (go_cc mx_X7_fillSpan) 33 = .ok (.goto (-22), 3) := by decide +kernel
theorem dx_X7_fillSpan_36 : decode (go_cc mx_X7_fillSpan) 36 = .ok (.iload_n 2, 1) := by decide +kernel
theorem dx_X7_fillSpan_37 : decode (go_cc mx_X7_fillSpan) 37 = .ok (.iload_n 1, 1) := by decide +kernel
theorem dx_X7_fillSpan_38 : decode (go_cc mx_X7_fillSpan) 38 = .ok (.isub, 1) := by decide +kernel
theorem dx_X7_fillSpan_39 : decode (go_cc mx_X7_fillSpan) 39 = .ok (.iconst 1, 1) := by decide +kernel
theorem dx_X7_fillSpan_40 : decode (go_cc mx_X7_fillSpan) 40 = .ok (.if_icmp .ne 8, 3) := by decide +kernel
theorem dx_X7_fillSpan_43 : decode (go_cc mx_X7_fillSpan) 43 = .ok (.aload_n 0, 1) := by decide +kernel
theorem dx_X7_fillSpan_44 : decode (go_cc mx_X7_fillSpan) 44 = .ok (.iload_n 1, 1) := by decide +kernel
theorem dx_X7_fillSpan_45 : decode (go_cc mx_X7_fillSpan) 45 = .ok (.invokevirtual 48, 3) := by decide +kernel
theorem dx_X7_fillSpan_48 : decode (go_cc mx_X7_fillSpan) 48 = .ok (.iload_n 1, 1) := by decide +kernel
theorem dx_X7_fillSpan_49 : decode (go_cc mx_X7_fillSpan) 49 = .ok (.iconst 1, 1) := by decide +kernel
theorem dx_X7_fillSpan_50 : decode (go_cc mx_X7_fillSpan) 50 = .ok (.iadd, 1) := by decide +kernel
theorem dx_X7_fillSpan_51 : decode (go_cc mx_X7_fillSpan) 51 = .ok (.istore 4, 2) := by decide +kernel
theorem dx_X7_fillSpan_53 : decode (go_cc mx_X7_fillSpan) 53 = .ok (.iload 4, 2) := by decide +kernel
theorem dx_X7_fillSpan_55 : decode (go_cc mx_X7_fillSpan) 55 = .ok (.iload_n 2, 1) := by decide +kernel
theorem dx_X7_fillSpan_56 : decode (go_cc mx_X7_fillSpan) 56 = .ok (.if_icmp .ge 17, 3) := by decide +kernel
theorem dx_X7_fillSpan_59 : decode (go_cc mx_X7_fillSpan) 59 = .ok (.aload_n 0, 1) := by decide +kernel
theorem dx_X7_fillSpan_60 : decode (go_cc mx_X7_fillSpan) 60 = .ok (.iload_n 1, 1) := by decide +kernel
theorem dx_X7_fillSpan_61 : decode (go_cc mx_X7_fillSpan) 61 = .ok (.iload 4, 2) := by decide +kernel
theorem dx_X7_fillSpan_63 : decode (go_cc mx_X7_fillSpan) 63 = .ok (.iload_n 2, 1) := by decide +kernel
theorem dx_X7_fillSpan_64 : decode (go_cc mx_X7_fillSpan) 64 = .ok (.invokevirtual 52, 3) := by decide +kernel
theorem dx_X7_fillSpan_67 : decode (go_cc mx_X7_fillSpan) 67 = .ok (.iinc 4 1, 3) := by decide +kernel
theorem dx_X7_fillSpan_70 : decode (go_cc mx_X7_fillSpan) 70 = .ok (.goto (-17), 3) := by decide +kernel
theorem dx_X7_fillSpan_73 : decode (go_cc mx_X7_fillSpan) 73 = .ok (.aload_n 0, 1) := by decide +kernel
theorem dx_X7_fillSpan_74 : decode (go_cc mx_X7_fillSpan) 74 = .ok (.iload_n 1, 1) := by decide +kernel
theorem dx_X7_fillSpan_75 : decode (go_cc mx_X7_fillSpan) 75 = .ok (.iload_n 2, 1) := by decide +kernel
theorem dx_X7_fillSpan_76 : decode (go_cc mx_X7_fillSpan) 76 = .ok (.aload_n 0, 1) := by decide +kernel
theorem dx_X7_fillSpan_77 : decode (go_cc mx_X7_fillSpan) 77 = .ok (.getfield 19, 3) := by decide +kernel
theorem dx_X7_fillSpan_80 : decode (go_cc mx_X7_fillSpan) 80 = .ok (.invokestatic 56, 3) := by decide +kernel
theorem dx_X7_fillSpan_83 : decode (go_cc mx_X7_fillSpan) 83 = .ok (.invokevirtual 60, 3) := by decide +kernel
theorem dx_X7_fillSpan_86 : decode (go_cc mx_X7_fillSpan) 86 = .ok (.iload_n 1, 1) := by decide +kernel
theorem dx_X7_fillSpan_87 : decode (go_cc mx_X7_fillSpan) 87 = .ok (.iload_n 2, 1) := by decide +kernel
theorem dx_X7_fillSpan_88 : decode (go_cc mx_X7_fillSpan) 88 = .ok (.aload_n 0, 1) := by decide +kernel
theorem dx_X7_fillSpan_89 : decode (go_cc mx_X7_fillSpan) 89 = .ok (.getfield 19, 3) := by decide +kernel
theorem dx_X7_fillSpan_92 : decode (go_cc mx_X7_fillSpan) 92 = .ok (.invokestatic 56, 3) := by decide +kernel
theorem dx_X7_fillSpan_95 : decode (go_cc mx_X7_fillSpan) 95 = .ok (.bipush 62, 2) := by decide +kernel
theorem dx_X7_fillSpan_97 : decode (go_cc mx_X7_fillSpan) 97 = .ok (.imul, 1) := by decide +kernel
theorem dx_X7_fillSpan_98 : decode (go_cc mx_X7_fillSpan) 98 = .ok (.istore 4, 2) := by decide +kernel
theorem dx_X7_fillSpan_100 : decode (go_cc mx_X7_fillSpan) 100 = .ok (.iconst 0, 1) := by decide +kernel
theorem dx_X7_fillSpan_101 : decode (go_cc mx_X7_fillSpan) 101 = .ok (.istore 5, 2) := by decide +kernel
theorem dx_X7_fillSpan_103 : decode (go_cc mx_X7_fillSpan) 103 = .ok (.iload 5, 2) := by decide +kernel
theorem dx_X7_fillSpan_105 : decode (go_cc mx_X7_fillSpan) 105 = .ok (.iload_n 3, 1) := by decide +kernel
theorem dx_X7_fillSpan_106 : decode (go_cc mx_X7_fillSpan) 106 = .ok (.if_icmp .ge 30, 3) := by decide +kernel
theorem dx_X7_fillSpan_109 : decode (go_cc mx_X7_fillSpan) 109 = .ok (.aload_n 0, 1) := by decide +kernel
theorem dx_X7_fillSpan_110 : decode (go_cc mx_X7_fillSpan) 110 = .ok (.getfield 27, 3) := by decide +kernel
theorem dx_X7_fillSpan_113 : decode (go_cc mx_X7_fillSpan) 113 = .ok (.iload 4, 2) := by decide +kernel
theorem dx_X7_fillSpan_115 : decode (go_cc mx_X7_fillSpan) 115 = .ok (.iload 5, 2) := by decide +kernel
theorem dx_X7_fillSpan_117 : decode (go_cc mx_X7_fillSpan) 117 = .ok (.iadd, 1) := by decide +kernel
theorem dx_X7_fillSpan_118 : decode (go_cc mx_X7_fillSpan) 118 = .ok (.aload_n 0, 1) := by decide +kernel
theorem dx_X7_fillSpan_119 : decode (go_cc mx_X7_fillSpan) 119 = .ok (.getfield 31, 3) := by decide +kernel
theorem dx_X7_fillSpan_122 : decode (go_cc mx_X7_fillSpan) 122 = .ok (.iload 5, 2) := by decide +kernel
theorem dx_X7_fillSpan_124 : decode (go_cc mx_X7_fillSpan) 124 = .ok (.invokestatic 63, 3) := by decide +kernel
theorem dx_X7_fillSpan_127 : decode (go_cc mx_X7_fillSpan) 127 = .ok (.invokestatic 44, 3) := by decide +kernel
theorem dx_X7_fillSpan_130 : decode (go_cc mx_X7_fillSpan) 130 = .ok (.iinc 5 1, 3) := by decide +kernel
theorem dx_X7_fillSpan_133 : decode (go_cc mx_X7_fillSpan) 133 = .ok (.goto (-30), 3) := by decide +kernel
theorem dx_X7_fillSpan_136 : decode (go_cc mx_X7_fillSpan) 136 = .ok (.return_, 1) := by decide +kernel
theorem dx_X7_takeLetters_0 : decode (go_cc mx_X7_takeLetters) 0 = .ok (.bipush 8, 2) := by decide +kernel
theorem dx_X7_takeLetters_2 : decode (go_cc mx_X7_takeLetters) 2 = .ok (.istore_n 2, 1) := by decide +kernel
theorem dx_X7_takeLetters_3 : decode (go_cc mx_X7_takeLetters) 3 = .ok (.iload_n 2, 1) := by decide +kernel
theorem dx_X7_takeLetters_4 : decode (go_cc mx_X7_takeLetters) 4 = .ok (.bipush 14, 2) := by decide +kernel
theorem dx_X7_takeLetters_6 : decode (go_cc mx_X7_takeLetters) 6 = .ok (.if_icmp .ge 38, 3) := by decide +kernel
theorem dx_X7_takeLetters_9 : decode (go_cc mx_X7_takeLetters) 9 = .ok (.aload_n 0, 1) := by decide +kernel
theorem dx_X7_takeLetters_10 : decode (go_cc mx_X7_takeLetters) 10 = .ok (.getfield 15, 3) := by decide +kernel
theorem dx_X7_takeLetters_13 : decode (go_cc mx_X7_takeLetters) 13 = .ok (.iload_n 2, 1) := by decide +kernel
theorem dx_X7_takeLetters_14 : decode (go_cc mx_X7_takeLetters) 14 = .ok (.iload_n 1, 1) := by decide +kernel
theorem dx_X7_takeLetters_15 : decode (go_cc mx_X7_takeLetters) 15 = .ok (.iload_n 1, 1) := by decide +kernel
theorem dx_X7_takeLetters_16 : decode (go_cc mx_X7_takeLetters) 16 = .ok (.iconst 1, 1) := by decide +kernel
theorem dx_X7_takeLetters_17 : decode (go_cc mx_X7_takeLetters) 17 = .ok (.iadd, 1) := by decide +kernel
theorem dx_X7_takeLetters_18 : decode (go_cc mx_X7_takeLetters) 18 = .ok (.invokevirtual 67, 3) := by decide +kernel
theorem dx_X7_takeLetters_21 : decode (go_cc mx_X7_takeLetters) 21 = .ok (.ifCond .eq 17, 3) := by decide +kernel
theorem dx_X7_takeLetters_24 : decode (go_cc mx_X7_takeLetters) 24 = .ok (.aload_n 0, 1) := by decide +kernel
theorem dx_X7_takeLetters_25 : decode (go_cc mx_X7_takeLetters) 25 = .ok (.getfield 31, 3) := by decide +kernel
theorem dx_X7_takeLetters_28 : decode (go_cc mx_X7_takeLetters) 28 = .ok (.iload_n 2, 1) := by decide +kernel
theorem dx_X7_takeLetters_29 : decode (go_cc mx_X7_takeLetters) 29 = .ok (.aload_n 0, 1) := by decide +kernel
theorem dx_X7_takeLetters_30 : decode (go_cc mx_X7_takeLetters) 30 = .ok (.iload_n 2, 1) := by decide +kernel
theorem dx_X7_takeLetters_31 : decode (go_cc mx_X7_takeLetters) 31 = .ok (.iload_n 1, 1) := by decide +kernel
theorem dx_X7_takeLetters_32 : decode (go_cc mx_X7_takeLetters) 32 = .ok (.invokevirtual 73, 3) := by decide +kernel
theorem dx_X7_takeLetters_35 : decode (go_cc mx_X7_takeLetters) 35 = .ok (.invokestatic 44, 3) := by decide +kernel
theorem dx_X7_takeLetters_38 : decode (go_cc mx_X7_takeLetters) 38 = .ok (.iinc 2 1, 3) := by decide +kernel
theorem dx_X7_takeLetters_41 : decode (go_cc mx_X7_takeLetters) 41 = .ok (.goto (-38), 3) := by decide +kernel
theorem dx_X7_takeLetters_44 : decode (go_cc mx_X7_takeLetters) 44 = .ok (.return_, 1) := by decide +kernel
theorem dx_X7_takeCut_0 : decode (go_cc mx_X7_takeCut) 0 = .ok (.aload_n 0, 1) := by decide +kernel
theorem dx_X7_takeCut_1 : decode (go_cc mx_X7_takeCut) 1 = .ok (.getfield 15, 3) := by decide +kernel
theorem dx_X7_takeCut_4 : decode (go_cc mx_X7_takeCut) 4 = .ok (.iload_n 1, 1) := by decide +kernel
theorem dx_X7_takeCut_5 : decode (go_cc mx_X7_takeCut) 5 = .ok (.iload_n 2, 1) := by decide +kernel
theorem dx_X7_takeCut_6 : decode (go_cc mx_X7_takeCut) 6 = .ok (.invokevirtual 77, 3) := by decide +kernel
theorem dx_X7_takeCut_9 : decode (go_cc mx_X7_takeCut) 9 = .ok (.lstore 4, 2) := by decide +kernel
theorem dx_X7_takeCut_11 : decode (go_cc mx_X7_takeCut) 11 = .ok (.aload_n 0, 1) := by decide +kernel
theorem dx_X7_takeCut_12 : decode (go_cc mx_X7_takeCut) 12 = .ok (.getfield 15, 3) := by decide +kernel
theorem dx_X7_takeCut_15 : decode (go_cc mx_X7_takeCut) 15 = .ok (.iload_n 2, 1) := by decide +kernel
theorem dx_X7_takeCut_16 : decode (go_cc mx_X7_takeCut) 16 = .ok (.iload_n 3, 1) := by decide +kernel
theorem dx_X7_takeCut_17 : decode (go_cc mx_X7_takeCut) 17 = .ok (.invokevirtual 77, 3) := by decide +kernel
theorem dx_X7_takeCut_20 : decode (go_cc mx_X7_takeCut) 20 = .ok (.lstore 6, 2) := by decide +kernel
theorem dx_X7_takeCut_22 : decode (go_cc mx_X7_takeCut) 22 = .ok (.iconst 0, 1) := by decide +kernel
theorem dx_X7_takeCut_23 : decode (go_cc mx_X7_takeCut) 23 = .ok (.istore 8, 2) := by decide +kernel
theorem dx_X7_takeCut_25 : decode (go_cc mx_X7_takeCut) 25 = .ok (.iload 8, 2) := by decide +kernel
theorem dx_X7_takeCut_27 : decode (go_cc mx_X7_takeCut) 27 = .ok (.aload_n 0, 1) := by decide +kernel
theorem dx_X7_takeCut_28 : decode (go_cc mx_X7_takeCut) 28 = .ok (.getfield 9, 3) := by decide +kernel
theorem dx_X7_takeCut_31 : decode (go_cc mx_X7_takeCut) 31 = .ok (.getfield 80, 3) := by decide +kernel
theorem dx_X7_takeCut_34 : decode (go_cc mx_X7_takeCut) 34 = .ok (.if_icmp .ge 97, 3) := by decide +kernel
theorem dx_X7_takeCut_37 : decode (go_cc mx_X7_takeCut) 37 = .ok (.aload_n 0, 1) := by decide +kernel
theorem dx_X7_takeCut_38 : decode (go_cc mx_X7_takeCut) 38 = .ok (.getfield 9, 3) := by decide +kernel
theorem dx_X7_takeCut_41 : decode (go_cc mx_X7_takeCut) 41 = .ok (.getfield 84, 3) := by decide +kernel
theorem dx_X7_takeCut_44 : decode (go_cc mx_X7_takeCut) 44 = .ok (.iload 8, 2) := by decide +kernel
theorem dx_X7_takeCut_46 : decode (go_cc mx_X7_takeCut) 46 = .ok (.invokestatic 88, 3) := by decide +kernel
theorem dx_X7_takeCut_49 : decode (go_cc mx_X7_takeCut) 49 = .ok (.istore 9, 2) := by decide +kernel
theorem dx_X7_takeCut_51 : decode (go_cc mx_X7_takeCut) 51 = .ok (.iload 9, 2) := by decide +kernel
theorem dx_X7_takeCut_53 : decode (go_cc mx_X7_takeCut) 53 = .ok (.lload 4, 2) := by decide +kernel
theorem dx_X7_takeCut_55 : decode (go_cc mx_X7_takeCut) 55 = .ok (.lload 6, 2) := by decide +kernel
theorem dx_X7_takeCut_57 : decode (go_cc mx_X7_takeCut) 57 = .ok (.invokestatic 92, 3) := by decide +kernel
theorem dx_X7_takeCut_60 : decode (go_cc mx_X7_takeCut) 60 = .ok (.ifCond .eq 65, 3) := by decide +kernel
theorem dx_X7_takeCut_63 : decode (go_cc mx_X7_takeCut) 63 = .ok (.aload_n 0, 1) := by decide +kernel
theorem dx_X7_takeCut_64 : decode (go_cc mx_X7_takeCut) 64 = .ok (.aload_n 0, 1) := by decide +kernel
theorem dx_X7_takeCut_65 : decode (go_cc mx_X7_takeCut) 65 = .ok (.iload 9, 2) := by decide +kernel
theorem dx_X7_takeCut_67 : decode (go_cc mx_X7_takeCut) 67 = .ok (.invokestatic 96, 3) := by decide +kernel
theorem dx_X7_takeCut_70 : decode (go_cc mx_X7_takeCut) 70 = .ok (.iload_n 1, 1) := by decide +kernel
theorem dx_X7_takeCut_71 : decode (go_cc mx_X7_takeCut) 71 = .ok (.iload_n 2, 1) := by decide +kernel
theorem dx_X7_takeCut_72 : decode (go_cc mx_X7_takeCut) 72 = .ok (.invokevirtual 100, 3) := by decide +kernel
theorem dx_X7_takeCut_75 : decode (go_cc mx_X7_takeCut) 75 = .ok (.aload_n 0, 1) := by decide +kernel
theorem dx_X7_takeCut_76 : decode (go_cc mx_X7_takeCut) 76 = .ok (.iload 9, 2) := by decide +kernel
theorem dx_X7_takeCut_78 : decode (go_cc mx_X7_takeCut) 78 = .ok (.invokestatic 104, 3) := by decide +kernel
theorem dx_X7_takeCut_81 : decode (go_cc mx_X7_takeCut) 81 = .ok (.iload_n 2, 1) := by decide +kernel
theorem dx_X7_takeCut_82 : decode (go_cc mx_X7_takeCut) 82 = .ok (.iload_n 3, 1) := by decide +kernel
theorem dx_X7_takeCut_83 : decode (go_cc mx_X7_takeCut) 83 = .ok (.invokevirtual 100, 3) := by decide +kernel
theorem dx_X7_takeCut_86 : decode (go_cc mx_X7_takeCut) 86 = .ok (.iload_n 3, 1) := by decide +kernel
theorem dx_X7_takeCut_87 : decode (go_cc mx_X7_takeCut) 87 = .ok (.iload_n 2, 1) := by decide +kernel
theorem dx_X7_takeCut_88 : decode (go_cc mx_X7_takeCut) 88 = .ok (.isub, 1) := by decide +kernel
theorem dx_X7_takeCut_89 : decode (go_cc mx_X7_takeCut) 89 = .ok (.invokevirtual 107, 3) := by decide +kernel
theorem dx_X7_takeCut_92 : decode (go_cc mx_X7_takeCut) 92 = .ok (.lstore 10, 2) := by decide +kernel
theorem dx_X7_takeCut_94 : decode (go_cc mx_X7_takeCut) 94 = .ok (.iload 9, 2) := by decide +kernel
theorem dx_X7_takeCut_96 : decode (go_cc mx_X7_takeCut) 96 = .ok (.invokestatic 111, 3) := by decide +kernel
theorem dx_X7_takeCut_99 : decode (go_cc mx_X7_takeCut) 99 = .ok (.istore 12, 2) := by decide +kernel
theorem dx_X7_takeCut_101 : decode (go_cc mx_X7_takeCut) 101 = .ok (.aload_n 0, 1) := by decide +kernel
theorem dx_X7_takeCut_102 : decode (go_cc mx_X7_takeCut) 102 = .ok (.getfield 31, 3) := by decide +kernel
theorem dx_X7_takeCut_105 : decode (go_cc mx_X7_takeCut) 105 = .ok (.iload 12, 2) := by decide +kernel
theorem dx_X7_takeCut_107 : decode (go_cc mx_X7_takeCut) 107 = .ok (.aload_n 0, 1) := by decide +kernel
theorem dx_X7_takeCut_108 : decode (go_cc mx_X7_takeCut) 108 = .ok (.aload_n 0, 1) := by decide +kernel
theorem dx_X7_takeCut_109 : decode (go_cc mx_X7_takeCut) 109 = .ok (.getfield 31, 3) := by decide +kernel
theorem dx_X7_takeCut_112 : decode (go_cc mx_X7_takeCut) 112 = .ok (.iload 12, 2) := by decide +kernel
theorem dx_X7_takeCut_114 : decode (go_cc mx_X7_takeCut) 114 = .ok (.invokestatic 63, 3) := by decide +kernel
theorem dx_X7_takeCut_117 : decode (go_cc mx_X7_takeCut) 117 = .ok (.lload 10, 2) := by decide +kernel
theorem dx_X7_takeCut_119 : decode (go_cc mx_X7_takeCut) 119 = .ok (.invokevirtual 114, 3) := by decide +kernel
theorem dx_X7_takeCut_122 : decode (go_cc mx_X7_takeCut) 122 = .ok (.invokestatic 44, 3) := by decide +kernel
theorem dx_X7_takeCut_125 : decode (go_cc mx_X7_takeCut) 125 = .ok (.iinc 8 1, 3) := by decide +kernel
theorem dx_X7_takeCut_128 : decode (go_cc mx_X7_takeCut) 128 = .ok (.goto (-103), 3) := by decide +kernel
theorem dx_X7_takeCut_131 : decode (go_cc mx_X7_takeCut) 131 = .ok (.return_, 1) := by decide +kernel
theorem dx_X7_takeUnits_0 : decode (go_cc mx_X7_takeUnits) 0 = .ok (.iconst 0, 1) := by decide +kernel
theorem dx_X7_takeUnits_1 : decode (go_cc mx_X7_takeUnits) 1 = .ok (.istore_n 2, 1) := by decide +kernel
theorem dx_X7_takeUnits_2 : decode (go_cc mx_X7_takeUnits) 2 = .ok (.iload_n 2, 1) := by decide +kernel
theorem dx_X7_takeUnits_3 : decode (go_cc mx_X7_takeUnits) 3 = .ok (.bipush 8, 2) := by decide +kernel
theorem dx_X7_takeUnits_5 : decode (go_cc mx_X7_takeUnits) 5 = .ok (.if_icmp .ge 92, 3) := by decide +kernel
theorem dx_X7_takeUnits_8 : decode (go_cc mx_X7_takeUnits) 8 = .ok (.aload_n 0, 1) := by decide +kernel
theorem dx_X7_takeUnits_9 : decode (go_cc mx_X7_takeUnits) 9 = .ok (.getfield 9, 3) := by decide +kernel
theorem dx_X7_takeUnits_12 : decode (go_cc mx_X7_takeUnits) 12 = .ok (.getfield 118, 3) := by decide +kernel
theorem dx_X7_takeUnits_15 : decode (go_cc mx_X7_takeUnits) 15 = .ok (.iload_n 2, 1) := by decide +kernel
theorem dx_X7_takeUnits_16 : decode (go_cc mx_X7_takeUnits) 16 = .ok (.invokestatic 88, 3) := by decide +kernel
theorem dx_X7_takeUnits_19 : decode (go_cc mx_X7_takeUnits) 19 = .ok (.istore_n 3, 1) := by decide +kernel
theorem dx_X7_takeUnits_20 : decode (go_cc mx_X7_takeUnits) 20 = .ok (.iconst 0, 1) := by decide +kernel
theorem dx_X7_takeUnits_21 : decode (go_cc mx_X7_takeUnits) 21 = .ok (.istore 4, 2) := by decide +kernel
theorem dx_X7_takeUnits_23 : decode (go_cc mx_X7_takeUnits) 23 = .ok (.iload 4, 2) := by decide +kernel
theorem dx_X7_takeUnits_25 : decode (go_cc mx_X7_takeUnits) 25 = .ok (.bipush 14, 2) := by decide +kernel
theorem dx_X7_takeUnits_27 : decode (go_cc mx_X7_takeUnits) 27 = .ok (.if_icmp .ge 64, 3) := by decide +kernel
theorem dx_X7_takeUnits_30 : decode (go_cc mx_X7_takeUnits) 30 = .ok (.iload_n 3, 1) := by decide +kernel
theorem dx_X7_takeUnits_31 : decode (go_cc mx_X7_takeUnits) 31 = .ok (.iload 4, 2) := by decide +kernel
theorem dx_X7_takeUnits_33 : decode (go_cc mx_X7_takeUnits) 33 = .ok (.iushr, 1) := by decide +kernel
theorem dx_X7_takeUnits_34 : decode (go_cc mx_X7_takeUnits) 34 = .ok (.iconst 1, 1) := by decide +kernel
theorem dx_X7_takeUnits_35 : decode (go_cc mx_X7_takeUnits) 35 = .ok (.iand, 1) := by decide +kernel
theorem dx_X7_takeUnits_36 : decode (go_cc mx_X7_takeUnits) 36 = .ok (.ifCond .eq 49, 3) := by decide +kernel
theorem dx_X7_takeUnits_39 : decode (go_cc mx_X7_takeUnits) 39 = .ok (.aload_n 0, 1) := by decide +kernel
theorem dx_X7_takeUnits_40 : decode (go_cc mx_X7_takeUnits) 40 = .ok (.getfield 31, 3) := by decide +kernel
theorem dx_X7_takeUnits_43 : decode (go_cc mx_X7_takeUnits) 43 = .ok (.iload 4, 2) := by decide +kernel
theorem dx_X7_takeUnits_45 : decode (go_cc mx_X7_takeUnits) 45 = .ok (.invokestatic 63, 3) := by decide +kernel
theorem dx_X7_takeUnits_48 : decode (go_cc mx_X7_takeUnits) 48 = .ok (.aload_n 0, 1) := by decide +kernel
theorem dx_X7_takeUnits_49 : decode (go_cc mx_X7_takeUnits) 49 = .ok (.getfield 23, 3) := by decide +kernel
theorem dx_X7_takeUnits_52 : decode (go_cc mx_X7_takeUnits) 52 = .ok (.lcmp, 1) := by decide +kernel
theorem dx_X7_takeUnits_53 : decode (go_cc mx_X7_takeUnits) 53 = .ok (.ifCond .eq 32, 3) := by decide +kernel
theorem dx_X7_takeUnits_56 : decode (go_cc mx_X7_takeUnits) 56 = .ok (.aload_n 0, 1) := by decide +kernel
theorem dx_X7_takeUnits_57 : decode (go_cc mx_X7_takeUnits) 57 = .ok (.getfield 31, 3) := by decide +kernel
theorem dx_X7_takeUnits_60 : decode (go_cc mx_X7_takeUnits) 60 = .ok (.iload_n 2, 1) := by decide +kernel
theorem dx_X7_takeUnits_61 : decode (go_cc mx_X7_takeUnits) 61 = .ok (.aload_n 0, 1) := by decide +kernel
theorem dx_X7_takeUnits_62 : decode (go_cc mx_X7_takeUnits) 62 = .ok (.aload_n 0, 1) := by decide +kernel
theorem dx_X7_takeUnits_63 : decode (go_cc mx_X7_takeUnits) 63 = .ok (.getfield 31, 3) := by decide +kernel
theorem dx_X7_takeUnits_66 : decode (go_cc mx_X7_takeUnits) 66 = .ok (.iload_n 2, 1) := by decide +kernel
theorem dx_X7_takeUnits_67 : decode (go_cc mx_X7_takeUnits) 67 = .ok (.invokestatic 63, 3) := by decide +kernel
theorem dx_X7_takeUnits_70 : decode (go_cc mx_X7_takeUnits) 70 = .ok (.aload_n 0, 1) := by decide +kernel
theorem dx_X7_takeUnits_71 : decode (go_cc mx_X7_takeUnits) 71 = .ok (.getfield 31, 3) := by decide +kernel
theorem dx_X7_takeUnits_74 : decode (go_cc mx_X7_takeUnits) 74 = .ok (.iload 4, 2) := by decide +kernel
theorem dx_X7_takeUnits_76 : decode (go_cc mx_X7_takeUnits) 76 = .ok (.invokestatic 63, 3) := by decide +kernel
theorem dx_X7_takeUnits_79 : decode (go_cc mx_X7_takeUnits) 79 = .ok (.invokevirtual 114, 3) := by decide +kernel
theorem dx_X7_takeUnits_82 : decode (go_cc mx_X7_takeUnits) 82 = .ok (.invokestatic 44, 3) := by decide +kernel
theorem dx_X7_takeUnits_85 : decode (go_cc mx_X7_takeUnits) 85 = .ok (.iinc 4 1, 3) := by decide +kernel
theorem dx_X7_takeUnits_88 : decode (go_cc mx_X7_takeUnits) 88 = .ok (.goto (-65), 3) := by decide +kernel
theorem dx_X7_takeUnits_91 : decode (go_cc mx_X7_takeUnits) 91 = .ok (.iinc 2 1, 3) := by decide +kernel
theorem dx_X7_takeUnits_94 : decode (go_cc mx_X7_takeUnits) 94 = .ok (.goto (-92), 3) := by decide +kernel
theorem dx_X7_takeUnits_97 : decode (go_cc mx_X7_takeUnits) 97 = .ok (.return_, 1) := by decide +kernel
theorem dx_X7_valueAt_0 : decode (go_cc mx_X7_valueAt) 0 = .ok (.aload_n 0, 1) := by decide +kernel
theorem dx_X7_valueAt_1 : decode (go_cc mx_X7_valueAt) 1 = .ok (.getfield 27, 3) := by decide +kernel
theorem dx_X7_valueAt_4 : decode (go_cc mx_X7_valueAt) 4 = .ok (.iload_n 2, 1) := by decide +kernel
theorem dx_X7_valueAt_5 : decode (go_cc mx_X7_valueAt) 5 = .ok (.iload_n 3, 1) := by decide +kernel
theorem dx_X7_valueAt_6 : decode (go_cc mx_X7_valueAt) 6 = .ok (.aload_n 0, 1) := by decide +kernel
theorem dx_X7_valueAt_7 : decode (go_cc mx_X7_valueAt) 7 = .ok (.getfield 19, 3) := by decide +kernel
theorem dx_X7_valueAt_10 : decode (go_cc mx_X7_valueAt) 10 = .ok (.invokestatic 56, 3) := by decide +kernel
theorem dx_X7_valueAt_13 : decode (go_cc mx_X7_valueAt) 13 = .ok (.bipush 62, 2) := by decide +kernel
theorem dx_X7_valueAt_15 : decode (go_cc mx_X7_valueAt) 15 = .ok (.imul, 1) := by decide +kernel
theorem dx_X7_valueAt_16 : decode (go_cc mx_X7_valueAt) 16 = .ok (.iload_n 1, 1) := by decide +kernel
theorem dx_X7_valueAt_17 : decode (go_cc mx_X7_valueAt) 17 = .ok (.iadd, 1) := by decide +kernel
theorem dx_X7_valueAt_18 : decode (go_cc mx_X7_valueAt) 18 = .ok (.invokestatic 63, 3) := by decide +kernel
theorem dx_X7_valueAt_21 : decode (go_cc mx_X7_valueAt) 21 = .ok (.lreturn, 1) := by decide +kernel
theorem dx_X8_init_0 : decode (go_cc mx_X8_init) 0 = .ok (.aload_n 0, 1) := by decide +kernel
theorem dx_X8_init_1 : decode (go_cc mx_X8_init) 1 = .ok (.invokespecial 3, 3) := by decide +kernel
theorem dx_X8_init_4 : decode (go_cc mx_X8_init) 4 = .ok (.aload_n 0, 1) := by decide +kernel
theorem dx_X8_init_5 : decode (go_cc mx_X8_init) 5 = .ok (.bipush 40, 2) := by decide +kernel
theorem dx_X8_init_7 : decode (go_cc mx_X8_init) 7 = .ok (.newarray .int, 2) := by decide +kernel
theorem dx_X8_init_9 : decode (go_cc mx_X8_init) 9 = .ok (.putfield 9, 3) := by decide +kernel
theorem dx_X8_init_12 : decode (go_cc mx_X8_init) 12 = .ok (.aload_n 0, 1) := by decide +kernel
theorem dx_X8_init_13 : decode (go_cc mx_X8_init) 13 = .ok (.iconst (-1), 1) := by decide +kernel
theorem dx_X8_init_14 : decode (go_cc mx_X8_init) 14 = .ok (.putfield 15, 3) := by decide +kernel
theorem dx_X8_init_17 : decode (go_cc mx_X8_init) 17 = .ok (.return_, 1) := by decide +kernel
theorem dx_X8_append_0 : decode (go_cc mx_X8_append) 0 = .ok (.bipush 24, 2) := by decide +kernel
theorem dx_X8_append_2 : decode (go_cc mx_X8_append) 2 = .ok (.istore_n 2, 1) := by decide +kernel
theorem dx_X8_append_3 : decode (go_cc mx_X8_append) 3 = .ok (.iload_n 2, 1) := by decide +kernel
theorem dx_X8_append_4 : decode (go_cc mx_X8_append) 4 = .ok (.ifCond .lt 37, 3) := by decide +kernel
theorem dx_X8_append_7 : decode (go_cc mx_X8_append) 7 = .ok (.aload_n 0, 1) := by decide +kernel
theorem dx_X8_append_8 : decode (go_cc mx_X8_append) 8 = .ok (.getfield 9, 3) := by decide +kernel
theorem dx_X8_append_11 : decode (go_cc mx_X8_append) 11 = .ok (.aload_n 0, 1) := by decide +kernel
theorem dx_X8_append_12 : decode (go_cc mx_X8_append) 12 = .ok (.getfield 19, 3) := by decide +kernel
theorem dx_X8_append_15 : decode (go_cc mx_X8_append) 15 = .ok (.iload_n 1, 1) := by decide +kernel
theorem dx_X8_append_16 : decode (go_cc mx_X8_append) 16 = .ok (.iload_n 2, 1) := by decide +kernel
theorem dx_X8_append_17 : decode (go_cc mx_X8_append) 17 = .ok (.iushr, 1) := by decide +kernel
theorem dx_X8_append_18 : decode (go_cc mx_X8_append) 18 = .ok (.sipush 255, 3) := by decide +kernel
theorem dx_X8_append_21 : decode (go_cc mx_X8_append) 21 = .ok (.iand, 1) := by decide +kernel
theorem dx_X8_append_22 : decode (go_cc mx_X8_append) 22 = .ok (.invokestatic 22, 3) := by decide +kernel
theorem dx_X8_append_25 : decode (go_cc mx_X8_append) 25 = .ok (.aload_n 0, 1) := by decide +kernel
theorem dx_X8_append_26 : decode (go_cc mx_X8_append) 26 = .ok (.dup, 1) := by decide +kernel
theorem dx_X8_append_27 : decode (go_cc mx_X8_append) 27 = .ok (.getfield 19, 3) := by decide +kernel
theorem dx_X8_append_30 : decode (go_cc mx_X8_append) 30 = .ok (.iconst 1, 1) := by decide +kernel
theorem dx_X8_append_31 : decode (go_cc mx_X8_append) 31 = .ok (.iadd, 1) := by decide +kernel
theorem dx_X8_append_32 : decode (go_cc mx_X8_append) 32 = .ok (.putfield 19, 3) := by decide +kernel
theorem dx_X8_append_35 : decode (go_cc mx_X8_append) 35 = .ok (.iinc 2 (-8), 3) := by decide +kernel
theorem dx_X8_append_38 : decode (go_cc mx_X8_append) 38 = .ok (.goto (-35), 3) := by decide +kernel
theorem dx_X8_append_41 : decode (go_cc mx_X8_append) 41 = .ok (.return_, 1) := by decide +kernel
theorem dx_X8_takeRule_0 : decode (go_cc mx_X8_takeRule) 0 = .ok (.aload_n 0, 1) := by decide +kernel
theorem dx_X8_takeRule_1 : decode (go_cc mx_X8_takeRule) 1 = .ok (.invokevirtual 26, 3) := by decide +kernel
theorem dx_X8_takeRule_4 : decode (go_cc mx_X8_takeRule) 4 = .ok (.iload_n 1, 1) := by decide +kernel
theorem dx_X8_takeRule_5 : decode (go_cc mx_X8_takeRule) 5 = .ok (.iconst 1, 1) := by decide +kernel
theorem dx_X8_takeRule_6 : decode (go_cc mx_X8_takeRule) 6 = .ok (.isub, 1) := by decide +kernel
theorem dx_X8_takeRule_7 : decode (go_cc mx_X8_takeRule) 7 = .ok (.istore_n 2, 1) := by decide +kernel
theorem dx_X8_takeRule_8 : decode (go_cc mx_X8_takeRule) 8 = .ok (.iconst 0, 1) := by decide +kernel
theorem dx_X8_takeRule_9 : decode (go_cc mx_X8_takeRule) 9 = .ok (.istore_n 3, 1) := by decide +kernel
theorem dx_X8_takeRule_10 : decode (go_cc mx_X8_takeRule) 10 = .ok (.iload_n 3, 1) := by decide +kernel
theorem dx_X8_takeRule_11 : decode (go_cc mx_X8_takeRule) 11 = .ok (.iload_n 1, 1) := by decide +kernel
theorem dx_X8_takeRule_12 : decode (go_cc mx_X8_takeRule) 12 = .ok (.if_icmp .ge 69, 3) := by decide +kernel
theorem dx_X8_takeRule_15 : decode (go_cc mx_X8_takeRule) 15 = .ok (.aload_n 0, 1) := by decide +kernel
theorem dx_X8_takeRule_16 : decode (go_cc mx_X8_takeRule) 16 = .ok (.getfield 9, 3) := by decide +kernel
theorem dx_X8_takeRule_19 : decode (go_cc mx_X8_takeRule) 19 = .ok (.iload_n 3, 1) := by decide +kernel
theorem dx_X8_takeRule_20 : decode (go_cc mx_X8_takeRule) 20 = .ok (.invokestatic 29, 3) := by decide +kernel
theorem dx_X8_takeRule_23 : decode (go_cc mx_X8_takeRule) 23 = .ok (.invokestatic 33, 3) := by decide +kernel
theorem dx_X8_takeRule_26 : decode (go_cc mx_X8_takeRule) 26 = .ok (.istore 4, 2) := by decide +kernel
theorem dx_X8_takeRule_28 : decode (go_cc mx_X8_takeRule) 28 = .ok (.iload_n 3, 1) := by decide +kernel
theorem dx_X8_takeRule_29 : decode (go_cc mx_X8_takeRule) 29 = .ok (.iconst 5, 1) := by decide +kernel
theorem dx_X8_takeRule_30 : decode (go_cc mx_X8_takeRule) 30 = .ok (.if_icmp .le 10, 3) := by decide +kernel
theorem dx_X8_takeRule_33 : decode (go_cc mx_X8_takeRule) 33 = .ok (.aload_n 0, 1) := by decide +kernel
theorem dx_X8_takeRule_34 : decode (go_cc mx_X8_takeRule) 34 = .ok (.iconst 3, 1) := by decide +kernel
theorem dx_X8_takeRule_35 : decode (go_cc mx_X8_takeRule) 35 = .ok (.iload_n 3, 1) := by decide +kernel
theorem dx_X8_takeRule_36 : decode (go_cc mx_X8_takeRule) 36 = .ok (.invokevirtual 37, 3) := by decide +kernel
theorem dx_X8_takeRule_39 : decode (go_cc mx_X8_takeRule) 39 = .ok (.ireturn, 1) := by decide +kernel
theorem dx_X8_takeRule_40 : decode (go_cc mx_X8_takeRule) 40 = .ok (.iload 4, 2) := by decide +kernel
theorem dx_X8_takeRule_42 : decode (go_cc mx_X8_takeRule) 42 = .ok (.iconst (-1), 1) := by decide +kernel
theorem dx_X8_takeRule_43 : decode (go_cc mx_X8_takeRule) 43 = .ok (.if_icmp .eq 14, 3) := by decide +kernel
theorem dx_X8_takeRule_46 : decode (go_cc mx_X8_takeRule) 46 = .ok (.iload_n 3, 1) := by decide +kernel
theorem dx_X8_takeRule_47 : decode (go_cc mx_X8_takeRule) 47 = .ok (.ifCond .ne 17, 3) := by decide +kernel
theorem dx_X8_takeRule_50 : decode (go_cc mx_X8_takeRule) 50 = .ok (.iload 4, 2) := by decide +kernel
theorem dx_X8_takeRule_52 : decode (go_cc mx_X8_takeRule) 52 = .ok (.bipush 8, 2) := by decide +kernel
theorem dx_X8_takeRule_54 : decode (go_cc mx_X8_takeRule) 54 = .ok (.if_icmp .lt 10, 3) := by decide +kernel
theorem dx_X8_takeRule_57 : decode (go_cc mx_X8_takeRule) 57 = .ok (.aload_n 0, 1) := by decide +kernel
theorem dx_X8_takeRule_58 : decode (go_cc mx_X8_takeRule) 58 = .ok (.iconst 1, 1) := by decide +kernel
theorem dx_X8_takeRule_59 : decode (go_cc mx_X8_takeRule) 59 = .ok (.iload_n 3, 1) := by decide +kernel
theorem dx_X8_takeRule_60 : decode (go_cc mx_X8_takeRule) 60 = .ok (.invokevirtual 37, 3) := by decide +kernel
theorem dx_X8_takeRule_63 : decode (go_cc mx_X8_takeRule) 63 = .ok (.ireturn, 1) := by decide +kernel
theorem dx_X8_takeRule_64 : decode (go_cc mx_X8_takeRule) 64 = .ok (.iload_n 2, 1) := by decide +kernel
theorem dx_X8_takeRule_65 : decode (go_cc mx_X8_takeRule) 65 = .ok (.iload 4, 2) := by decide +kernel
theorem dx_X8_takeRule_67 : decode (go_cc mx_X8_takeRule) 67 = .ok (.iconst 3, 1) := by decide +kernel
theorem dx_X8_takeRule_68 : decode (go_cc mx_X8_takeRule) 68 = .ok (.iconst 4, 1) := by decide +kernel
theorem dx_X8_takeRule_69 : decode (go_cc mx_X8_takeRule) 69 = .ok (.iload_n 3, 1) := by decide +kernel
theorem dx_X8_takeRule_70 : decode (go_cc mx_X8_takeRule) 70 = .ok (.imul, 1) := by decide +kernel
theorem dx_X8_takeRule_71 : decode (go_cc mx_X8_takeRule) 71 = .ok (.iadd, 1) := by decide +kernel
theorem dx_X8_takeRule_72 : decode (go_cc mx_X8_takeRule) 72 = .ok (.ishl, 1) := by decide +kernel
theorem dx_X8_takeRule_73 : decode (go_cc mx_X8_takeRule) 73 = .ok (.ior, 1) := by decide +kernel
theorem dx_X8_takeRule_74 : decode (go_cc mx_X8_takeRule) 74 = .ok (.istore_n 2, 1) := by decide +kernel
theorem dx_X8_takeRule_75 : decode (go_cc mx_X8_takeRule) 75 = .ok (.iinc 3 1, 3) := by decide +kernel
theorem dx_X8_takeRule_78 : decode (go_cc mx_X8_takeRule) 78 = .ok (.goto (-68), 3) := by decide +kernel
theorem dx_X8_takeRule_81 : decode (go_cc mx_X8_takeRule) 81 = .ok (.iload_n 1, 1) := by decide +kernel
theorem dx_X8_takeRule_82 : decode (go_cc mx_X8_takeRule) 82 = .ok (.iconst 2, 1) := by decide +kernel
theorem dx_X8_takeRule_83 : decode (go_cc mx_X8_takeRule) 83 = .ok (.if_icmp .ge 12, 3) := by decide +kernel
theorem dx_X8_takeRule_86 : decode (go_cc mx_X8_takeRule) 86 = .ok (.aload_n 0, 1) := by decide +kernel
theorem dx_X8_takeRule_87 : decode (go_cc mx_X8_takeRule) 87 = .ok (.iconst 2, 1) := by decide +kernel
theorem dx_X8_takeRule_88 : decode (go_cc mx_X8_takeRule) 88 = .ok (.iload_n 1, 1) := by decide +kernel
theorem dx_X8_takeRule_89 : decode (go_cc mx_X8_takeRule) 89 = .ok (.invokevirtual 37, 3) := by decide +kernel
theorem dx_X8_takeRule_92 : decode (go_cc mx_X8_takeRule) 92 = .ok (.goto 4, 3) := by decide +kernel
theorem dx_X8_takeRule_95 : decode (go_cc mx_X8_takeRule) 95 = .ok (.iload_n 2, 1) := by decide +kernel
theorem dx_X8_takeRule_96 : decode (go_cc mx_X8_takeRule) 96 = .ok (.ireturn, 1) := by decide +kernel
theorem dx_X8_takeWord_0 : decode (go_cc mx_X8_takeWord) 0 = .ok (.aload_n 0, 1) := by decide +kernel
theorem dx_X8_takeWord_1 : decode (go_cc mx_X8_takeWord) 1 = .ok (.invokevirtual 26, 3) := by decide +kernel
theorem dx_X8_takeWord_4 : decode (go_cc mx_X8_takeWord) 4 = .ok (.lconst 0, 1) := by decide +kernel
theorem dx_X8_takeWord_5 : decode (go_cc mx_X8_takeWord) 5 = .ok (.lstore_n 2, 1) := by decide +kernel
theorem dx_X8_takeWord_6 : decode (go_cc mx_X8_takeWord) 6 = .ok (.iconst 0, 1) := by decide +kernel
theorem dx_X8_takeWord_7 : decode (go_cc mx_X8_takeWord) 7 = .ok (.istore 4, 2) := by decide +kernel
theorem dx_X8_takeWord_9 : decode (go_cc mx_X8_takeWord) 9 = .ok (.iload 4, 2) := by decide +kernel
theorem dx_X8_takeWord_11 : decode (go_cc mx_X8_takeWord) 11 = .ok (.iload_n 1, 1) := by decide +kernel
theorem dx_X8_takeWord_12 : decode (go_cc mx_X8_takeWord) 12 = .ok (.if_icmp .ge 69, 3) := by decide +kernel
theorem dx_X8_takeWord_15 : decode (go_cc mx_X8_takeWord) 15 = .ok (.aload_n 0, 1) := by decide +kernel
theorem dx_X8_takeWord_16 : decode (go_cc mx_X8_takeWord) 16 = .ok (.getfield 9, 3) := by decide +kernel
theorem dx_X8_takeWord_19 : decode (go_cc mx_X8_takeWord) 19 = .ok (.iload 4, 2) := by decide +kernel
theorem dx_X8_takeWord_21 : decode (go_cc mx_X8_takeWord) 21 = .ok (.invokestatic 29, 3) := by decide +kernel
theorem dx_X8_takeWord_24 : decode (go_cc mx_X8_takeWord) 24 = .ok (.invokestatic 33, 3) := by decide +kernel
theorem dx_X8_takeWord_27 : decode (go_cc mx_X8_takeWord) 27 = .ok (.istore 5, 2) := by decide +kernel
theorem dx_X8_takeWord_29 : decode (go_cc mx_X8_takeWord) 29 = .ok (.iload 4, 2) := by decide +kernel
theorem dx_X8_takeWord_31 : decode (go_cc mx_X8_takeWord) 31 = .ok (.bipush 14, 2) := by decide +kernel
theorem dx_X8_takeWord_33 : decode (go_cc mx_X8_takeWord) 33 = .ok (.if_icmp .lt 12, 3) := by decide +kernel
theorem dx_X8_takeWord_36 : decode (go_cc mx_X8_takeWord) 36 = .ok (.aload_n 0, 1) := by decide +kernel
theorem dx_X8_takeWord_37 : decode (go_cc mx_X8_takeWord) 37 = .ok (.iconst 3, 1) := by decide +kernel
theorem dx_X8_takeWord_38 : decode (go_cc mx_X8_takeWord) 38 = .ok (.iload 4, 2) := by decide +kernel
theorem dx_X8_takeWord_40 : decode (go_cc mx_X8_takeWord) 40 = .ok (.invokevirtual 37, 3) := by decide +kernel
theorem dx_X8_takeWord_43 : decode (go_cc mx_X8_takeWord) 43 = .ok (.i2l, 1) := by decide +kernel
theorem dx_X8_takeWord_44 : decode (go_cc mx_X8_takeWord) 44 = .ok (.lreturn, 1) := by decide +kernel
theorem dx_X8_takeWord_45 : decode (go_cc mx_X8_takeWord) 45 = .ok (.iload 5, 2) := by decide +kernel
theorem dx_X8_takeWord_47 : decode (go_cc mx_X8_takeWord) 47 = .ok (.bipush 8, 2) := by decide +kernel
theorem dx_X8_takeWord_49 : decode (go_cc mx_X8_takeWord) 49 = .ok (.if_icmp .ge 12, 3) := by decide +kernel
theorem dx_X8_takeWord_52 : decode (go_cc mx_X8_takeWord) 52 = .ok (.aload_n 0, 1) := by decide +kernel
theorem dx_X8_takeWord_53 : decode (go_cc mx_X8_takeWord) 53 = .ok (.iconst 1, 1) := by decide +kernel
theorem dx_X8_takeWord_54 : decode (go_cc mx_X8_takeWord) 54 = .ok (.iload 4, 2) := by decide +kernel
theorem dx_X8_takeWord_56 : decode (go_cc mx_X8_takeWord) 56 = .ok (.invokevirtual 37, 3) := by decide +kernel
theorem dx_X8_takeWord_59 : decode (go_cc mx_X8_takeWord) 59 = .ok (.i2l, 1) := by decide +kernel
theorem dx_X8_takeWord_60 : decode (go_cc mx_X8_takeWord) 60 = .ok (.lreturn, 1) := by decide +kernel
theorem dx_X8_takeWord_61 : decode (go_cc mx_X8_takeWord) 61 = .ok (.lload_n 2, 1) := by decide +kernel
theorem dx_X8_takeWord_62 : decode (go_cc mx_X8_takeWord) 62 = .ok (.iload 5, 2) := by decide +kernel
theorem dx_X8_takeWord_64 : decode (go_cc mx_X8_takeWord) 64 = .ok (.bipush 8, 2) := by decide +kernel
theorem dx_X8_takeWord_66 : decode (go_cc mx_X8_takeWord) 66 = .ok (.isub, 1) := by decide +kernel
theorem dx_X8_takeWord_67 : decode (go_cc mx_X8_takeWord) 67 = .ok (.i2l, 1) := by decide +kernel
theorem dx_X8_takeWord_68 : decode (go_cc mx_X8_takeWord) 68 = .ok (.iconst 3, 1) := by decide +kernel
theorem dx_X8_takeWord_69 : decode (go_cc mx_X8_takeWord) 69 = .ok (.iload 4, 2) := by decide +kernel
theorem dx_X8_takeWord_71 : decode (go_cc mx_X8_takeWord) 71 = .ok (.imul, 1) := by decide +kernel
theorem dx_X8_takeWord_72 : decode (go_cc mx_X8_takeWord) 72 = .ok (.lshl, 1) := by decide +kernel
theorem dx_X8_takeWord_73 : decode (go_cc mx_X8_takeWord) 73 = .ok (.lor, 1) := by decide +kernel
theorem dx_X8_takeWord_74 : decode (go_cc mx_X8_takeWord) 74 = .ok (.lstore_n 2, 1) := by decide +kernel
theorem dx_X8_takeWord_75 : decode (go_cc mx_X8_takeWord) 75 = .ok (.iinc 4 1, 3) := by decide +kernel
theorem dx_X8_takeWord_78 : decode (go_cc mx_X8_takeWord) 78 = .ok (.goto (-69), 3) := by decide +kernel
theorem dx_X8_takeWord_81 : decode (go_cc mx_X8_takeWord) 81 = .ok (.lload_n 2, 1) := by decide +kernel
theorem dx_X8_takeWord_82 : decode (go_cc mx_X8_takeWord) 82 = .ok (.lreturn, 1) := by decide +kernel
theorem dx_X8_clear_0 : decode (go_cc mx_X8_clear) 0 = .ok (.aload_n 0, 1) := by decide +kernel
theorem dx_X8_clear_1 : decode (go_cc mx_X8_clear) 1 = .ok (.iconst 0, 1) := by decide +kernel
theorem dx_X8_clear_2 : decode (go_cc mx_X8_clear) 2 = .ok (.putfield 19, 3) := by decide +kernel
theorem dx_X8_clear_5 : decode (go_cc mx_X8_clear) 5 = .ok (.aload_n 0, 1) := by decide +kernel
theorem dx_X8_clear_6 : decode (go_cc mx_X8_clear) 6 = .ok (.iconst 0, 1) := by decide +kernel
theorem dx_X8_clear_7 : decode (go_cc mx_X8_clear) 7 = .ok (.putfield 41, 3) := by decide +kernel
theorem dx_X8_clear_10 : decode (go_cc mx_X8_clear) 10 = .ok (.aload_n 0, 1) := by decide +kernel
theorem dx_X8_clear_11 : decode (go_cc mx_X8_clear) 11 = .ok (.iconst (-1), 1) := by decide +kernel
theorem dx_X8_clear_12 : decode (go_cc mx_X8_clear) 12 = .ok (.putfield 15, 3) := by decide +kernel
theorem dx_X8_clear_15 : decode (go_cc mx_X8_clear) 15 = .ok (.return_, 1) := by decide +kernel
theorem dx_X8_fail_0 : decode (go_cc mx_X8_fail) 0 = .ok (.aload_n 0, 1) := by decide +kernel
theorem dx_X8_fail_1 : decode (go_cc mx_X8_fail) 1 = .ok (.iload_n 1, 1) := by decide +kernel
theorem dx_X8_fail_2 : decode (go_cc mx_X8_fail) 2 = .ok (.putfield 41, 3) := by decide +kernel
theorem dx_X8_fail_5 : decode (go_cc mx_X8_fail) 5 = .ok (.aload_n 0, 1) := by decide +kernel
theorem dx_X8_fail_6 : decode (go_cc mx_X8_fail) 6 = .ok (.iload_n 2, 1) := by decide +kernel
theorem dx_X8_fail_7 : decode (go_cc mx_X8_fail) 7 = .ok (.putfield 15, 3) := by decide +kernel
theorem dx_X8_fail_10 : decode (go_cc mx_X8_fail) 10 = .ok (.iconst 0, 1) := by decide +kernel
theorem dx_X8_fail_11 : decode (go_cc mx_X8_fail) 11 = .ok (.ireturn, 1) := by decide +kernel
theorem dx_X8_symbolOf_0 : decode (go_cc mx_X8_symbolOf) 0 = .ok (.iload_n 0, 1) := by decide +kernel
theorem dx_X8_symbolOf_1 : decode (go_cc mx_X8_symbolOf) 1 = .ok (.bipush 65, 2) := by decide +kernel
theorem dx_X8_symbolOf_3 : decode (go_cc mx_X8_symbolOf) 3 = .ok (.if_icmp .lt 14, 3) := by decide +kernel
theorem dx_X8_symbolOf_6 : decode (go_cc mx_X8_symbolOf) 6 = .ok (.iload_n 0, 1) := by decide +kernel
theorem dx_X8_symbolOf_7 : decode (go_cc mx_X8_symbolOf) 7 = .ok (.bipush 72, 2) := by decide +kernel
theorem dx_X8_symbolOf_9 : decode (go_cc mx_X8_symbolOf) 9 = .ok (.if_icmp .gt 8, 3) := by decide +kernel
theorem dx_X8_symbolOf_12 : decode (go_cc mx_X8_symbolOf) 12 = .ok (.iload_n 0, 1) := by decide +kernel
theorem dx_X8_symbolOf_13 : decode (go_cc mx_X8_symbolOf) 13 = .ok (.bipush 65, 2) := by decide +kernel
theorem dx_X8_symbolOf_15 : decode (go_cc mx_X8_symbolOf) 15 = .ok (.isub, 1) := by decide +kernel
theorem dx_X8_symbolOf_16 : decode (go_cc mx_X8_symbolOf) 16 = .ok (.ireturn, 1) := by decide +kernel
theorem dx_X8_symbolOf_17 : decode (go_cc mx_X8_symbolOf) 17 = .ok (.iload_n 0, 1) := by decide +kernel
theorem dx_X8_symbolOf_18 : decode (go_cc mx_X8_symbolOf) 18 = .ok (.bipush 97, 2) := by decide +kernel
theorem dx_X8_symbolOf_20 : decode (go_cc mx_X8_symbolOf) 20 = .ok (.if_icmp .lt 19, 3) := by decide +kernel
theorem dx_X8_symbolOf_23 : decode (go_cc mx_X8_symbolOf) 23 = .ok (.iload_n 0, 1) := by decide +kernel
theorem dx_X8_symbolOf_24 : decode (go_cc mx_X8_symbolOf) 24 = .ok (.bipush 102, 2) := by decide +kernel
theorem dx_X8_symbolOf_26 : decode (go_cc mx_X8_symbolOf) 26 = .ok (.if_icmp .gt 13, 3) := by decide +kernel
theorem dx_X8_symbolOf_29 : decode (go_cc mx_X8_symbolOf) 29 = .ok (.iload_n 0, 1) := by decide +kernel
theorem dx_X8_symbolOf_30 : decode (go_cc mx_X8_symbolOf) 30 = .ok (.bipush 97, 2) := by decide +kernel
theorem dx_X8_symbolOf_32 : decode (go_cc mx_X8_symbolOf) 32 = .ok (.isub, 1) := by decide +kernel
theorem dx_X8_symbolOf_33 : decode (go_cc mx_X8_symbolOf) 33 = .ok (.bipush 8, 2) := by decide +kernel
theorem dx_X8_symbolOf_35 : decode (go_cc mx_X8_symbolOf) 35 = .ok (.iadd, 1) := by decide +kernel
theorem dx_X8_symbolOf_36 : decode (go_cc mx_X8_symbolOf) 36 = .ok (.goto 4, 3) := by decide +kernel
theorem dx_X8_symbolOf_39 : decode (go_cc mx_X8_symbolOf) 39 = .ok (.iconst (-1), 1) := by decide +kernel
theorem dx_X8_symbolOf_40 : decode (go_cc mx_X8_symbolOf) 40 = .ok (.ireturn, 1) := by decide +kernel
theorem dx_X9_init_0 : decode (go_cc mx_X9_init) 0 = .ok (.aload_n 0, 1) := by decide +kernel
theorem dx_X9_init_1 : decode (go_cc mx_X9_init) 1 = .ok (.invokespecial 3, 3) := by decide +kernel
theorem dx_X9_init_4 : decode (go_cc mx_X9_init) 4 = .ok (.aload_n 0, 1) := by decide +kernel
theorem dx_X9_init_5 : decode (go_cc mx_X9_init) 5 = .ok (.bipush 16, 2) := by decide +kernel
theorem dx_X9_init_7 : decode (go_cc mx_X9_init) 7 = .ok (.newarray .int, 2) := by decide +kernel
theorem dx_X9_init_9 : decode (go_cc mx_X9_init) 9 = .ok (.putfield 9, 3) := by decide +kernel
theorem dx_X9_init_12 : decode (go_cc mx_X9_init) 12 = .ok (.return_, 1) := by decide +kernel
theorem dx_X9_takeFrom_0 : decode (go_cc mx_X9_takeFrom) 0 = .ok (.iconst 0, 1) := by decide +kernel
theorem dx_X9_takeFrom_1 : decode (go_cc mx_X9_takeFrom) 1 = .ok (.istore_n 2, 1) := by decide +kernel
theorem dx_X9_takeFrom_2 : decode (go_cc mx_X9_takeFrom) 2 = .ok (.iload_n 2, 1) := by decide +kernel
theorem dx_X9_takeFrom_3 : decode (go_cc mx_X9_takeFrom) 3 = .ok (.aload_n 0, 1) := by decide +kernel
theorem dx_X9_takeFrom_4 : decode (go_cc mx_X9_takeFrom) 4 = .ok (.getfield 9, 3) := by decide +kernel
theorem dx_X9_takeFrom_7 : decode (go_cc mx_X9_takeFrom) 7 = .ok (.arraylength, 1) := by decide +kernel
theorem dx_X9_takeFrom_8 : decode (go_cc mx_X9_takeFrom) 8 = .ok (.if_icmp .ge 20, 3) := by decide +kernel
theorem dx_X9_takeFrom_11 : decode (go_cc mx_X9_takeFrom) 11 = .ok (.aload_n 0, 1) := by decide +kernel
theorem dx_X9_takeFrom_12 : decode (go_cc mx_X9_takeFrom) 12 = .ok (.getfield 9, 3) := by decide +kernel
theorem dx_X9_takeFrom_15 : decode (go_cc mx_X9_takeFrom) 15 = .ok (.iload_n 2, 1) := by decide +kernel
theorem dx_X9_takeFrom_16 : decode (go_cc mx_X9_takeFrom) 16 = .ok (.aload_n 1, 1) := by decide +kernel
theorem dx_X9_takeFrom_17 : decode (go_cc mx_X9_takeFrom) 17 = .ok (.iload_n 2, 1) := by decide +kernel
theorem dx_X9_takeFrom_18 : decode (go_cc mx_X9_takeFrom) 18 = .ok (.invokevirtual 15, 3) := by decide +kernel
theorem dx_X9_takeFrom_21 : decode (go_cc mx_X9_takeFrom) 21 = .ok (.iastore, 1) := by decide +kernel
theorem dx_X9_takeFrom_22 : decode (go_cc mx_X9_takeFrom) 22 = .ok (.iinc 2 1, 3) := by decide +kernel
theorem dx_X9_takeFrom_25 : decode (go_cc mx_X9_takeFrom) 25 = .ok (.goto (-23), 3) := by decide +kernel
theorem dx_X9_takeFrom_28 : decode (go_cc mx_X9_takeFrom) 28 = .ok (.aload_n 0, 1) := by decide +kernel
theorem dx_X9_takeFrom_29 : decode (go_cc mx_X9_takeFrom) 29 = .ok (.aload_n 1, 1) := by decide +kernel
theorem dx_X9_takeFrom_30 : decode (go_cc mx_X9_takeFrom) 30 = .ok (.getfield 19, 3) := by decide +kernel
theorem dx_X9_takeFrom_33 : decode (go_cc mx_X9_takeFrom) 33 = .ok (.putfield 19, 3) := by decide +kernel
theorem dx_X9_takeFrom_36 : decode (go_cc mx_X9_takeFrom) 36 = .ok (.aload_n 0, 1) := by decide +kernel
theorem dx_X9_takeFrom_37 : decode (go_cc mx_X9_takeFrom) 37 = .ok (.aload_n 1, 1) := by decide +kernel
theorem dx_X9_takeFrom_38 : decode (go_cc mx_X9_takeFrom) 38 = .ok (.getfield 23, 3) := by decide +kernel
theorem dx_X9_takeFrom_41 : decode (go_cc mx_X9_takeFrom) 41 = .ok (.putfield 23, 3) := by decide +kernel
theorem dx_X9_takeFrom_44 : decode (go_cc mx_X9_takeFrom) 44 = .ok (.aload_n 0, 1) := by decide +kernel
theorem dx_X9_takeFrom_45 : decode (go_cc mx_X9_takeFrom) 45 = .ok (.aload_n 1, 1) := by decide +kernel
theorem dx_X9_takeFrom_46 : decode (go_cc mx_X9_takeFrom) 46 = .ok (.getfield 27, 3) := by decide +kernel
theorem dx_X9_takeFrom_49 : decode (go_cc mx_X9_takeFrom) 49 = .ok (.putfield 27, 3) := by decide +kernel
theorem dx_X9_takeFrom_52 : decode (go_cc mx_X9_takeFrom) 52 = .ok (.return_, 1) := by decide +kernel
theorem dx_X9_ruleAt_0 : decode (go_cc mx_X9_ruleAt) 0 = .ok (.aload_n 0, 1) := by decide +kernel
theorem dx_X9_ruleAt_1 : decode (go_cc mx_X9_ruleAt) 1 = .ok (.getfield 9, 3) := by decide +kernel
theorem dx_X9_ruleAt_4 : decode (go_cc mx_X9_ruleAt) 4 = .ok (.iload_n 1, 1) := by decide +kernel
theorem dx_X9_ruleAt_5 : decode (go_cc mx_X9_ruleAt) 5 = .ok (.invokestatic 30, 3) := by decide +kernel
theorem dx_X9_ruleAt_8 : decode (go_cc mx_X9_ruleAt) 8 = .ok (.ireturn, 1) := by decide +kernel
theorem dx_X9_setRule_0 : decode (go_cc mx_X9_setRule) 0 = .ok (.aload_n 0, 1) := by decide +kernel
theorem dx_X9_setRule_1 : decode (go_cc mx_X9_setRule) 1 = .ok (.getfield 9, 3) := by decide +kernel
theorem dx_X9_setRule_4 : decode (go_cc mx_X9_setRule) 4 = .ok (.iload_n 1, 1) := by decide +kernel
theorem dx_X9_setRule_5 : decode (go_cc mx_X9_setRule) 5 = .ok (.iload_n 2, 1) := by decide +kernel
theorem dx_X9_setRule_6 : decode (go_cc mx_X9_setRule) 6 = .ok (.invokestatic 34, 3) := by decide +kernel
theorem dx_X9_setRule_9 : decode (go_cc mx_X9_setRule) 9 = .ok (.return_, 1) := by decide +kernel
theorem dx_X9_setWord_0 : decode (go_cc mx_X9_setWord) 0 = .ok (.aload_n 0, 1) := by decide +kernel
theorem dx_X9_setWord_1 : decode (go_cc mx_X9_setWord) 1 = .ok (.lload_n 1, 1) := by decide +kernel
theorem dx_X9_setWord_2 : decode (go_cc mx_X9_setWord) 2 = .ok (.putfield 23, 3) := by decide +kernel
theorem dx_X9_setWord_5 : decode (go_cc mx_X9_setWord) 5 = .ok (.aload_n 0, 1) := by decide +kernel
theorem dx_X9_setWord_6 : decode (go_cc mx_X9_setWord) 6 = .ok (.iload_n 3, 1) := by decide +kernel
theorem dx_X9_setWord_7 : decode (go_cc mx_X9_setWord) 7 = .ok (.putfield 27, 3) := by decide +kernel
theorem dx_X9_setWord_10 : decode (go_cc mx_X9_setWord) 10 = .ok (.return_, 1) := by decide +kernel
theorem dx_X9_letterAt_0 : decode (go_cc mx_X9_letterAt) 0 = .ok (.bipush 8, 2) := by decide +kernel
theorem dx_X9_letterAt_2 : decode (go_cc mx_X9_letterAt) 2 = .ok (.aload_n 0, 1) := by decide +kernel
theorem dx_X9_letterAt_3 : decode (go_cc mx_X9_letterAt) 3 = .ok (.getfield 23, 3) := by decide +kernel
theorem dx_X9_letterAt_6 : decode (go_cc mx_X9_letterAt) 6 = .ok (.iconst 3, 1) := by decide +kernel
theorem dx_X9_letterAt_7 : decode (go_cc mx_X9_letterAt) 7 = .ok (.iload_n 1, 1) := by decide +kernel
theorem dx_X9_letterAt_8 : decode (go_cc mx_X9_letterAt) 8 = .ok (.imul, 1) := by decide +kernel
theorem dx_X9_letterAt_9 : decode (go_cc mx_X9_letterAt) 9 = .ok (.lushr, 1) := by decide +kernel
theorem dx_X9_letterAt_10 : decode (go_cc mx_X9_letterAt) 10 = .ok (.ldc2_w 38, 3) := by decide +kernel
theorem dx_X9_letterAt_13 : decode (go_cc mx_X9_letterAt) 13 = .ok (.land, 1) := by decide +kernel
theorem dx_X9_letterAt_14 : decode (go_cc mx_X9_letterAt) 14 = .ok (.l2i, 1) := by decide +kernel
theorem dx_X9_letterAt_15 : decode (go_cc mx_X9_letterAt) 15 = .ok (.iadd, 1) := by decide +kernel
theorem dx_X9_letterAt_16 : decode (go_cc mx_X9_letterAt) 16 = .ok (.ireturn, 1) := by decide +kernel
theorem dx_X9_ruleBits_0 : decode (go_cc mx_X9_ruleBits) 0 = .ok (.iconst 0, 1) := by decide +kernel
theorem dx_X9_ruleBits_1 : decode (go_cc mx_X9_ruleBits) 1 = .ok (.istore_n 1, 1) := by decide +kernel
theorem dx_X9_ruleBits_2 : decode (go_cc mx_X9_ruleBits) 2 = .ok (.iconst 0, 1) := by decide +kernel
theorem dx_X9_ruleBits_3 : decode (go_cc mx_X9_ruleBits) 3 = .ok (.istore_n 2, 1) := by decide +kernel
theorem dx_X9_ruleBits_4 : decode (go_cc mx_X9_ruleBits) 4 = .ok (.iload_n 2, 1) := by decide +kernel
theorem dx_X9_ruleBits_5 : decode (go_cc mx_X9_ruleBits) 5 = .ok (.aload_n 0, 1) := by decide +kernel
theorem dx_X9_ruleBits_6 : decode (go_cc mx_X9_ruleBits) 6 = .ok (.getfield 9, 3) := by decide +kernel
theorem dx_X9_ruleBits_9 : decode (go_cc mx_X9_ruleBits) 9 = .ok (.arraylength, 1) := by decide +kernel
theorem dx_X9_ruleBits_10 : decode (go_cc mx_X9_ruleBits) 10 = .ok (.if_icmp .ge 24, 3) := by decide +kernel
theorem dx_X9_ruleBits_13 : decode (go_cc mx_X9_ruleBits) 13 = .ok (.aload_n 0, 1) := by decide +kernel
theorem dx_X9_ruleBits_14 : decode (go_cc mx_X9_ruleBits) 14 = .ok (.getfield 9, 3) := by decide +kernel
theorem dx_X9_ruleBits_17 : decode (go_cc mx_X9_ruleBits) 17 = .ok (.iload_n 2, 1) := by decide +kernel
theorem dx_X9_ruleBits_18 : decode (go_cc mx_X9_ruleBits) 18 = .ok (.iaload, 1) := by decide +kernel
theorem dx_X9_ruleBits_19 : decode (go_cc mx_X9_ruleBits) 19 = .ok (.ifCond .eq 9, 3) := by decide +kernel
theorem dx_X9_ruleBits_22 : decode (go_cc mx_X9_ruleBits) 22 = .ok (.iload_n 1, 1) := by decide +kernel
theorem dx_X9_ruleBits_23 : decode (go_cc mx_X9_ruleBits) 23 = .ok (.iconst 1, 1) := by decide +kernel
theorem dx_X9_ruleBits_24 : decode (go_cc mx_X9_ruleBits) 24 = .ok (.iload_n 2, 1) := by decide +kernel
theorem dx_X9_ruleBits_25 : decode (go_cc mx_X9_ruleBits) 25 = .ok (.ishl, 1) := by decide +kernel
theorem dx_X9_ruleBits_26 : decode (go_cc mx_X9_ruleBits) 26 = .ok (.ior, 1) := by decide +kernel
theorem dx_X9_ruleBits_27 : decode (go_cc mx_X9_ruleBits) 27 = .ok (.istore_n 1, 1) := by decide +kernel
theorem dx_X9_ruleBits_28 : decode (go_cc mx_X9_ruleBits) 28 = .ok (.iinc 2 1, 3) := by decide +kernel
theorem dx_X9_ruleBits_31 : decode (go_cc mx_X9_ruleBits) 31 = .ok (.goto (-27), 3) := by decide +kernel
theorem dx_X9_ruleBits_34 : decode (go_cc mx_X9_ruleBits) 34 = .ok (.iload_n 1, 1) := by decide +kernel
theorem dx_X9_ruleBits_35 : decode (go_cc mx_X9_ruleBits) 35 = .ok (.ireturn, 1) := by decide +kernel
theorem dx_X9_lowestFree_0 : decode (go_cc mx_X9_lowestFree) 0 = .ok (.iconst 0, 1) := by decide +kernel
theorem dx_X9_lowestFree_1 : decode (go_cc mx_X9_lowestFree) 1 = .ok (.istore_n 1, 1) := by decide +kernel
theorem dx_X9_lowestFree_2 : decode (go_cc mx_X9_lowestFree) 2 = .ok (.iload_n 1, 1) := by decide +kernel
theorem dx_X9_lowestFree_3 : decode (go_cc mx_X9_lowestFree) 3 = .ok (.aload_n 0, 1) := by decide +kernel
theorem dx_X9_lowestFree_4 : decode (go_cc mx_X9_lowestFree) 4 = .ok (.getfield 9, 3) := by decide +kernel
theorem dx_X9_lowestFree_7 : decode (go_cc mx_X9_lowestFree) 7 = .ok (.arraylength, 1) := by decide +kernel
theorem dx_X9_lowestFree_8 : decode (go_cc mx_X9_lowestFree) 8 = .ok (.if_icmp .ge 20, 3) := by decide +kernel
theorem dx_X9_lowestFree_11 : decode (go_cc mx_X9_lowestFree) 11 = .ok (.aload_n 0, 1) := by decide +kernel
theorem dx_X9_lowestFree_12 : decode (go_cc mx_X9_lowestFree) 12 = .ok (.getfield 9, 3) := by decide +kernel
theorem dx_X9_lowestFree_15 : decode (go_cc mx_X9_lowestFree) 15 = .ok (.iload_n 1, 1) := by decide +kernel
theorem dx_X9_lowestFree_16 : decode (go_cc mx_X9_lowestFree) 16 = .ok (.iaload, 1) := by decide +kernel
theorem dx_X9_lowestFree_17 : decode (go_cc mx_X9_lowestFree) 17 = .ok (.ifCond .ne 5, 3) := by decide +kernel
theorem dx_X9_lowestFree_20 : decode (go_cc mx_X9_lowestFree) 20 = .ok (.iload_n 1, 1) := by decide +kernel
theorem dx_X9_lowestFree_21 : decode (go_cc mx_X9_lowestFree) 21 = .ok (.ireturn, 1) := by decide +kernel
theorem dx_X9_lowestFree_22 : decode (go_cc mx_X9_lowestFree) 22 = .ok (.iinc 1 1, 3) := by decide +kernel
theorem dx_X9_lowestFree_25 : decode (go_cc mx_X9_lowestFree) 25 = .ok (.goto (-23), 3) := by decide +kernel
theorem dx_X9_lowestFree_28 : decode (go_cc mx_X9_lowestFree) 28 = .ok (.iconst (-1), 1) := by decide +kernel
theorem dx_X9_lowestFree_29 : decode (go_cc mx_X9_lowestFree) 29 = .ok (.ireturn, 1) := by decide +kernel
theorem dx_X9_hasAlike_0 : decode (go_cc mx_X9_hasAlike) 0 = .ok (.iconst 0, 1) := by decide +kernel
theorem dx_X9_hasAlike_1 : decode (go_cc mx_X9_hasAlike) 1 = .ok (.istore_n 2, 1) := by decide +kernel
theorem dx_X9_hasAlike_2 : decode (go_cc mx_X9_hasAlike) 2 = .ok (.iload_n 2, 1) := by decide +kernel
theorem dx_X9_hasAlike_3 : decode (go_cc mx_X9_hasAlike) 3 = .ok (.aload_n 0, 1) := by decide +kernel
theorem dx_X9_hasAlike_4 : decode (go_cc mx_X9_hasAlike) 4 = .ok (.getfield 9, 3) := by decide +kernel
theorem dx_X9_hasAlike_7 : decode (go_cc mx_X9_hasAlike) 7 = .ok (.arraylength, 1) := by decide +kernel
theorem dx_X9_hasAlike_8 : decode (go_cc mx_X9_hasAlike) 8 = .ok (.if_icmp .ge 21, 3) := by decide +kernel
theorem dx_X9_hasAlike_11 : decode (go_cc mx_X9_hasAlike) 11 = .ok (.aload_n 0, 1) := by decide +kernel
theorem dx_X9_hasAlike_12 : decode (go_cc mx_X9_hasAlike) 12 = .ok (.getfield 9, 3) := by decide +kernel
theorem dx_X9_hasAlike_15 : decode (go_cc mx_X9_hasAlike) 15 = .ok (.iload_n 2, 1) := by decide +kernel
theorem dx_X9_hasAlike_16 : decode (go_cc mx_X9_hasAlike) 16 = .ok (.iaload, 1) := by decide +kernel
theorem dx_X9_hasAlike_17 : decode (go_cc mx_X9_hasAlike) 17 = .ok (.iload_n 1, 1) := by decide +kernel
theorem dx_X9_hasAlike_18 : decode (go_cc mx_X9_hasAlike) 18 = .ok (.if_icmp .ne 5, 3) := by decide +kernel
theorem dx_X9_hasAlike_21 : decode (go_cc mx_X9_hasAlike) 21 = .ok (.iconst 1, 1) := by decide +kernel
theorem dx_X9_hasAlike_22 : decode (go_cc mx_X9_hasAlike) 22 = .ok (.ireturn, 1) := by decide +kernel
theorem dx_X9_hasAlike_23 : decode (go_cc mx_X9_hasAlike) 23 = .ok (.iinc 2 1, 3) := by decide +kernel
theorem dx_X9_hasAlike_26 : decode (go_cc mx_X9_hasAlike) 26 = .ok (.goto (-24), 3) := by decide +kernel
theorem dx_X9_hasAlike_29 : decode (go_cc mx_X9_hasAlike) 29 = .ok (.iconst 0, 1) := by decide +kernel
theorem dx_X9_hasAlike_30 : decode (go_cc mx_X9_hasAlike) 30 = .ok (.ireturn, 1) := by decide +kernel
theorem dx_X10_init_0 : decode (go_cc mx_X10_init) 0 = .ok (.aload_n 0, 1) := by decide +kernel
theorem dx_X10_init_1 : decode (go_cc mx_X10_init) 1 = .ok (.invokespecial 3, 3) := by decide +kernel
theorem dx_X10_init_4 : decode (go_cc mx_X10_init) 4 = .ok (.aload_n 0, 1) := by decide +kernel
theorem dx_X10_init_5 : decode (go_cc mx_X10_init) 5 = .ok (.sipush 1674, 3) := by decide +kernel
theorem dx_X10_init_8 : decode (go_cc mx_X10_init) 8 = .ok (.newarray .long, 2) := by decide +kernel
theorem dx_X10_init_10 : decode (go_cc mx_X10_init) 10 = .ok (.putfield 11, 3) := by decide +kernel
theorem dx_X10_init_13 : decode (go_cc mx_X10_init) 13 = .ok (.return_, 1) := by decide +kernel
theorem dx_X10_fill_0 : decode (go_cc mx_X10_fill) 0 = .ok (.iconst 0, 1) := by decide +kernel
theorem dx_X10_fill_1 : decode (go_cc mx_X10_fill) 1 = .ok (.istore_n 2, 1) := by decide +kernel
theorem dx_X10_fill_2 : decode (go_cc mx_X10_fill) 2 = .ok (.iload_n 2, 1) := by decide +kernel
theorem dx_X10_fill_3 : decode (go_cc mx_X10_fill) 3 = .ok (.aload_n 0, 1) := by decide +kernel
theorem dx_X10_fill_4 : decode (go_cc mx_X10_fill) 4 = .ok (.getfield 11, 3) := by decide +kernel
theorem dx_X10_fill_7 : decode (go_cc mx_X10_fill) 7 = .ok (.arraylength, 1) := by decide +kernel
theorem dx_X10_fill_8 : decode (go_cc mx_X10_fill) 8 = .ok (.if_icmp .ge 16, 3) := by decide +kernel
theorem dx_X10_fill_11 : decode (go_cc mx_X10_fill) 11 = .ok (.aload_n 0, 1) := by decide +kernel
theorem dx_X10_fill_12 : decode (go_cc mx_X10_fill) 12 = .ok (.getfield 11, 3) := by decide +kernel
theorem dx_X10_fill_15 : decode (go_cc mx_X10_fill) 15 = .ok (.iload_n 2, 1) := by decide +kernel
theorem dx_X10_fill_16 : decode (go_cc mx_X10_fill) 16 = .ok (.lconst 0, 1) := by decide +kernel
theorem dx_X10_fill_17 : decode (go_cc mx_X10_fill) 17 = .ok (.lastore, 1) := by decide +kernel
theorem dx_X10_fill_18 : decode (go_cc mx_X10_fill) 18 = .ok (.iinc 2 1, 3) := by decide +kernel
theorem dx_X10_fill_21 : decode (go_cc mx_X10_fill) 21 = .ok (.goto (-19), 3) := by decide +kernel
theorem dx_X10_fill_24 : decode (go_cc mx_X10_fill) 24 = .ok (.bipush 8, 2) := by decide +kernel
theorem dx_X10_fill_26 : decode (go_cc mx_X10_fill) 26 = .ok (.istore_n 2, 1) := by decide +kernel
theorem dx_X10_fill_27 : decode (go_cc mx_X10_fill) 27 = .ok (.iload_n 2, 1) := by decide +kernel
theorem dx_X10_fill_28 : decode (go_cc mx_X10_fill) 28 = .ok (.bipush 14, 2) := by decide +kernel
theorem dx_X10_fill_30 : decode (go_cc mx_X10_fill) 30 = .ok (.if_icmp .ge 26, 3) := by decide +kernel
theorem dx_X10_fill_33 : decode (go_cc mx_X10_fill) 33 = .ok (.aload_n 0, 1) := by decide +kernel
theorem dx_X10_fill_34 : decode (go_cc mx_X10_fill) 34 = .ok (.getfield 11, 3) := by decide +kernel
theorem dx_X10_fill_37 : decode (go_cc mx_X10_fill) 37 = .ok (.iload_n 2, 1) := by decide +kernel
theorem dx_X10_fill_38 : decode (go_cc mx_X10_fill) 38 = .ok (.bipush 27, 2) := by decide +kernel
theorem dx_X10_fill_40 : decode (go_cc mx_X10_fill) 40 = .ok (.imul, 1) := by decide +kernel
theorem dx_X10_fill_41 : decode (go_cc mx_X10_fill) 41 = .ok (.lconst 1, 1) := by decide +kernel
theorem dx_X10_fill_42 : decode (go_cc mx_X10_fill) 42 = .ok (.iload_n 2, 1) := by decide +kernel
theorem dx_X10_fill_43 : decode (go_cc mx_X10_fill) 43 = .ok (.bipush 8, 2) := by decide +kernel
theorem dx_X10_fill_45 : decode (go_cc mx_X10_fill) 45 = .ok (.isub, 1) := by decide +kernel
theorem dx_X10_fill_46 : decode (go_cc mx_X10_fill) 46 = .ok (.lshl, 1) := by decide +kernel
theorem dx_X10_fill_47 : decode (go_cc mx_X10_fill) 47 = .ok (.invokestatic 15, 3) := by decide +kernel
theorem dx_X10_fill_50 : decode (go_cc mx_X10_fill) 50 = .ok (.iinc 2 1, 3) := by decide +kernel
theorem dx_X10_fill_53 : decode (go_cc mx_X10_fill) 53 = .ok (.goto (-26), 3) := by decide +kernel
theorem dx_X10_fill_56 : decode (go_cc mx_X10_fill) 56 = .ok (.iconst 1, 1) := by decide +kernel
theorem dx_X10_fill_57 : decode (go_cc mx_X10_fill) 57 = .ok (.istore_n 2, 1) := by decide +kernel
theorem dx_X10_fill_58 : decode (go_cc mx_X10_fill) 58 = .ok (.iload_n 2, 1) := by decide +kernel
theorem dx_X10_fill_59 : decode (go_cc mx_X10_fill) 59 = .ok (.iconst 4, 1) := by decide +kernel
theorem dx_X10_fill_60 : decode (go_cc mx_X10_fill) 60 = .ok (.if_icmp .gt 64, 3) := by decide +kernel
theorem dx_X10_fill_63 : decode (go_cc mx_X10_fill) 63 = .ok (.iconst 0, 1) := by decide +kernel
theorem dx_X10_fill_64 : decode (go_cc mx_X10_fill) 64 = .ok (.istore_n 3, 1) := by decide +kernel
theorem dx_X10_fill_65 : decode (go_cc mx_X10_fill) 65 = .ok (.iload_n 3, 1) := by decide +kernel
theorem dx_X10_fill_66 : decode (go_cc mx_X10_fill) 66 = .ok (.aload_n 1, 1) := by decide +kernel
theorem dx_X10_fill_67 : decode (go_cc mx_X10_fill) 67 = .ok (.getfield 19, 3) := by decide +kernel
theorem dx_X10_fill_70 : decode (go_cc mx_X10_fill) 70 = .ok (.if_icmp .ge 42, 3) := by decide +kernel
theorem dx_X10_fill_73 : decode (go_cc mx_X10_fill) 73 = .ok (.iconst 1, 1) := by decide +kernel
theorem dx_X10_fill_74 : decode (go_cc mx_X10_fill) 74 = .ok (.istore 4, 2) := by decide +kernel
theorem dx_X10_fill_76 : decode (go_cc mx_X10_fill) 76 = .ok (.iload 4, 2) := by decide +kernel
theorem dx_X10_fill_78 : decode (go_cc mx_X10_fill) 78 = .ok (.iload_n 2, 1) := by decide +kernel
theorem dx_X10_fill_79 : decode (go_cc mx_X10_fill) 79 = .ok (.if_icmp .ge 27, 3) := by decide +kernel
theorem dx_X10_fill_82 : decode (go_cc mx_X10_fill) 82 = .ok (.aload_n 0, 1) := by decide +kernel
theorem dx_X10_fill_83 : decode (go_cc mx_X10_fill) 83 = .ok (.aload_n 1, 1) := by decide +kernel
theorem dx_X10_fill_84 : decode (go_cc mx_X10_fill) 84 = .ok (.getfield 25, 3) := by decide +kernel
theorem dx_X10_fill_87 : decode (go_cc mx_X10_fill) 87 = .ok (.iload_n 3, 1) := by decide +kernel
theorem dx_X10_fill_88 : decode (go_cc mx_X10_fill) 88 = .ok (.invokestatic 29, 3) := by decide +kernel
theorem dx_X10_fill_91 : decode (go_cc mx_X10_fill) 91 = .ok (.iload 4, 2) := by decide +kernel
theorem dx_X10_fill_93 : decode (go_cc mx_X10_fill) 93 = .ok (.iload_n 2, 1) := by decide +kernel
theorem dx_X10_fill_94 : decode (go_cc mx_X10_fill) 94 = .ok (.iload 4, 2) := by decide +kernel
theorem dx_X10_fill_96 : decode (go_cc mx_X10_fill) 96 = .ok (.isub, 1) := by decide +kernel
theorem dx_X10_fill_97 : decode (go_cc mx_X10_fill) 97 = .ok (.invokevirtual 33, 3) := by decide +kernel
theorem dx_X10_fill_100 : decode (go_cc mx_X10_fill) 100 = .ok (.iinc 4 1, 3) := by decide +kernel
theorem dx_X10_fill_103 : decode (go_cc mx_X10_fill) 103 = .ok (.goto (-27), 3) := by decide +kernel
theorem dx_X10_fill_106 : decode (go_cc mx_X10_fill) 106 = .ok (.iinc 3 1, 3) := by decide +kernel
theorem dx_X10_fill_109 : decode (go_cc mx_X10_fill) 109 = .ok (.goto (-44), 3) := by decide +kernel
theorem dx_X10_fill_112 : decode (go_cc mx_X10_fill) 112 = .ok (.aload_n 0, 1) := by decide +kernel
theorem dx_X10_fill_113 : decode (go_cc mx_X10_fill) 113 = .ok (.aload_n 1, 1) := by decide +kernel
theorem dx_X10_fill_114 : decode (go_cc mx_X10_fill) 114 = .ok (.iload_n 2, 1) := by decide +kernel
theorem dx_X10_fill_115 : decode (go_cc mx_X10_fill) 115 = .ok (.invokevirtual 37, 3) := by decide +kernel
theorem dx_X10_fill_118 : decode (go_cc mx_X10_fill) 118 = .ok (.iinc 2 1, 3) := by decide +kernel
theorem dx_X10_fill_121 : decode (go_cc mx_X10_fill) 121 = .ok (.goto (-63), 3) := by decide +kernel
theorem dx_X10_fill_124 : decode (go_cc mx_X10_fill) 124 = .ok (.return_, 1) := by decide +kernel
theorem dx_X10_joinSets_0 : decode (go_cc mx_X10_joinSets) 0 = .ok (.iload_n 1, 1) := by decide +kernel
theorem dx_X10_joinSets_1 : decode (go_cc mx_X10_joinSets) 1 = .ok (.invokestatic 41, 3) := by decide +kernel
theorem dx_X10_joinSets_4 : decode (go_cc mx_X10_joinSets) 4 = .ok (.bipush 27, 2) := by decide +kernel
theorem dx_X10_joinSets_6 : decode (go_cc mx_X10_joinSets) 6 = .ok (.imul, 1) := by decide +kernel
theorem dx_X10_joinSets_7 : decode (go_cc mx_X10_joinSets) 7 = .ok (.getstatic 45, 3) := by decide +kernel
theorem dx_X10_joinSets_10 : decode (go_cc mx_X10_joinSets) 10 = .ok (.iload_n 2, 1) := by decide +kernel
theorem dx_X10_joinSets_11 : decode (go_cc mx_X10_joinSets) 11 = .ok (.invokestatic 29, 3) := by decide +kernel
theorem dx_X10_joinSets_14 : decode (go_cc mx_X10_joinSets) 14 = .ok (.iadd, 1) := by decide +kernel
theorem dx_X10_joinSets_15 : decode (go_cc mx_X10_joinSets) 15 = .ok (.istore 4, 2) := by decide +kernel
theorem dx_X10_joinSets_17 : decode (go_cc mx_X10_joinSets) 17 = .ok (.iload_n 1, 1) := by decide +kernel
theorem dx_X10_joinSets_18 : decode (go_cc mx_X10_joinSets) 18 = .ok (.invokestatic 48, 3) := by decide +kernel
theorem dx_X10_joinSets_21 : decode (go_cc mx_X10_joinSets) 21 = .ok (.bipush 27, 2) := by decide +kernel
theorem dx_X10_joinSets_23 : decode (go_cc mx_X10_joinSets) 23 = .ok (.imul, 1) := by decide +kernel
theorem dx_X10_joinSets_24 : decode (go_cc mx_X10_joinSets) 24 = .ok (.getstatic 45, 3) := by decide +kernel
theorem dx_X10_joinSets_27 : decode (go_cc mx_X10_joinSets) 27 = .ok (.iload_n 3, 1) := by decide +kernel
theorem dx_X10_joinSets_28 : decode (go_cc mx_X10_joinSets) 28 = .ok (.invokestatic 29, 3) := by decide +kernel
theorem dx_X10_joinSets_31 : decode (go_cc mx_X10_joinSets) 31 = .ok (.iadd, 1) := by decide +kernel
theorem dx_X10_joinSets_32 : decode (go_cc mx_X10_joinSets) 32 = .ok (.istore 5, 2) := by decide +kernel
theorem dx_X10_joinSets_34 : decode (go_cc mx_X10_joinSets) 34 = .ok (.getstatic 45, 3) := by decide +kernel
theorem dx_X10_joinSets_37 : decode (go_cc mx_X10_joinSets) 37 = .ok (.iload_n 3, 1) := by decide +kernel
theorem dx_X10_joinSets_38 : decode (go_cc mx_X10_joinSets) 38 = .ok (.iconst 1, 1) := by decide +kernel
theorem dx_X10_joinSets_39 : decode (go_cc mx_X10_joinSets) 39 = .ok (.iadd, 1) := by decide +kernel
theorem dx_X10_joinSets_40 : decode (go_cc mx_X10_joinSets) 40 = .ok (.invokestatic 29, 3) := by decide +kernel
theorem dx_X10_joinSets_43 : decode (go_cc mx_X10_joinSets) 43 = .ok (.getstatic 45, 3) := by decide +kernel
theorem dx_X10_joinSets_46 : decode (go_cc mx_X10_joinSets) 46 = .ok (.iload_n 3, 1) := by decide +kernel
theorem dx_X10_joinSets_47 : decode (go_cc mx_X10_joinSets) 47 = .ok (.invokestatic 29, 3) := by decide +kernel
theorem dx_X10_joinSets_50 : decode (go_cc mx_X10_joinSets) 50 = .ok (.isub, 1) := by decide +kernel
theorem dx_X10_joinSets_51 : decode (go_cc mx_X10_joinSets) 51 = .ok (.istore 6, 2) := by decide +kernel
theorem dx_X10_joinSets_53 : decode (go_cc mx_X10_joinSets) 53 = .ok (.iload_n 1, 1) := by decide +kernel
theorem dx_X10_joinSets_54 : decode (go_cc mx_X10_joinSets) 54 = .ok (.invokestatic 51, 3) := by decide +kernel
theorem dx_X10_joinSets_57 : decode (go_cc mx_X10_joinSets) 57 = .ok (.bipush 27, 2) := by decide +kernel
theorem dx_X10_joinSets_59 : decode (go_cc mx_X10_joinSets) 59 = .ok (.imul, 1) := by decide +kernel
theorem dx_X10_joinSets_60 : decode (go_cc mx_X10_joinSets) 60 = .ok (.getstatic 45, 3) := by decide +kernel
theorem dx_X10_joinSets_63 : decode (go_cc mx_X10_joinSets) 63 = .ok (.iload_n 2, 1) := by decide +kernel
theorem dx_X10_joinSets_64 : decode (go_cc mx_X10_joinSets) 64 = .ok (.iload_n 3, 1) := by decide +kernel
theorem dx_X10_joinSets_65 : decode (go_cc mx_X10_joinSets) 65 = .ok (.iadd, 1) := by decide +kernel
theorem dx_X10_joinSets_66 : decode (go_cc mx_X10_joinSets) 66 = .ok (.invokestatic 29, 3) := by decide +kernel
theorem dx_X10_joinSets_69 : decode (go_cc mx_X10_joinSets) 69 = .ok (.iadd, 1) := by decide +kernel
theorem dx_X10_joinSets_70 : decode (go_cc mx_X10_joinSets) 70 = .ok (.istore 7, 2) := by decide +kernel
theorem dx_X10_joinSets_72 : decode (go_cc mx_X10_joinSets) 72 = .ok (.getstatic 54, 3) := by decide +kernel
theorem dx_X10_joinSets_75 : decode (go_cc mx_X10_joinSets) 75 = .ok (.iload_n 2, 1) := by decide +kernel
theorem dx_X10_joinSets_76 : decode (go_cc mx_X10_joinSets) 76 = .ok (.invokestatic 29, 3) := by decide +kernel
theorem dx_X10_joinSets_79 : decode (go_cc mx_X10_joinSets) 79 = .ok (.istore 8, 2) := by decide +kernel
theorem dx_X10_joinSets_81 : decode (go_cc mx_X10_joinSets) 81 = .ok (.iconst 0, 1) := by decide +kernel
theorem dx_X10_joinSets_82 : decode (go_cc mx_X10_joinSets) 82 = .ok (.istore 9, 2) := by decide +kernel
theorem dx_X10_joinSets_84 : decode (go_cc mx_X10_joinSets) 84 = .ok (.iload 9, 2) := by decide +kernel
theorem dx_X10_joinSets_86 : decode (go_cc mx_X10_joinSets) 86 = .ok (.iload 8, 2) := by decide +kernel
theorem dx_X10_joinSets_88 : decode (go_cc mx_X10_joinSets) 88 = .ok (.if_icmp .ge 91, 3) := by decide +kernel
theorem dx_X10_joinSets_91 : decode (go_cc mx_X10_joinSets) 91 = .ok (.aload_n 0, 1) := by decide +kernel
theorem dx_X10_joinSets_92 : decode (go_cc mx_X10_joinSets) 92 = .ok (.getfield 11, 3) := by decide +kernel
theorem dx_X10_joinSets_95 : decode (go_cc mx_X10_joinSets) 95 = .ok (.iload 4, 2) := by decide +kernel
theorem dx_X10_joinSets_97 : decode (go_cc mx_X10_joinSets) 97 = .ok (.iload 9, 2) := by decide +kernel
theorem dx_X10_joinSets_99 : decode (go_cc mx_X10_joinSets) 99 = .ok (.bipush 6, 2) := by decide +kernel
theorem dx_X10_joinSets_101 : decode (go_cc mx_X10_joinSets) 101 = .ok (.iushr, 1) := by decide +kernel
theorem dx_X10_joinSets_102 : decode (go_cc mx_X10_joinSets) 102 = .ok (.iadd, 1) := by decide +kernel
theorem dx_X10_joinSets_103 : decode (go_cc mx_X10_joinSets) 103 = .ok (.invokestatic 57, 3) := by decide +kernel
theorem dx_X10_joinSets_106 : decode (go_cc mx_X10_joinSets) 106 = .ok (.iload 9, 2) := by decide +kernel
theorem dx_X10_joinSets_108 : decode (go_cc mx_X10_joinSets) 108 = .ok (.bipush 63, 2) := by decide +kernel
theorem dx_X10_joinSets_110 : decode (go_cc mx_X10_joinSets) 110 = .ok (.iand, 1) := by decide +kernel
theorem dx_X10_joinSets_111 : decode (go_cc mx_X10_joinSets) 111 = .ok (.lushr, 1) := by decide +kernel
theorem dx_X10_joinSets_112 : decode (go_cc mx_X10_joinSets) 112 = .ok (.lconst 1, 1) := by decide +kernel
theorem dx_X10_joinSets_113 : decode (go_cc mx_X10_joinSets) 113 = .ok (.land, 1) := by decide +kernel
theorem dx_X10_joinSets_114 : decode (go_cc mx_X10_joinSets) 114 = .ok (.lconst 0, 1) := by decide +kernel
theorem dx_X10_joinSets_115 : decode (go_cc mx_X10_joinSets) 115 = .ok (.lcmp, 1) := by decide +kernel
theorem dx_X10_joinSets_116 : decode (go_cc mx_X10_joinSets) 116 = .ok (.ifCond .eq 57, 3) := by decide +kernel
theorem dx_X10_joinSets_119 : decode (go_cc mx_X10_joinSets) 119 = .ok (.iload 9, 2) := by decide +kernel
theorem dx_X10_joinSets_121 : decode (go_cc mx_X10_joinSets) 121 = .ok (.getstatic 54, 3) := by decide +kernel
theorem dx_X10_joinSets_124 : decode (go_cc mx_X10_joinSets) 124 = .ok (.iload_n 3, 1) := by decide +kernel
theorem dx_X10_joinSets_125 : decode (go_cc mx_X10_joinSets) 125 = .ok (.invokestatic 29, 3) := by decide +kernel
theorem dx_X10_joinSets_128 : decode (go_cc mx_X10_joinSets) 128 = .ok (.imul, 1) := by decide +kernel
theorem dx_X10_joinSets_129 : decode (go_cc mx_X10_joinSets) 129 = .ok (.istore 10, 2) := by decide +kernel
theorem dx_X10_joinSets_131 : decode (go_cc mx_X10_joinSets) 131 = .ok (.iconst 0, 1) := by decide +kernel
theorem dx_X10_joinSets_132 : decode (go_cc mx_X10_joinSets) 132 = .ok (.istore 11, 2) := by decide +kernel
theorem dx_X10_joinSets_134 : decode (go_cc mx_X10_joinSets) 134 = .ok (.iload 11, 2) := by decide +kernel
theorem dx_X10_joinSets_136 : decode (go_cc mx_X10_joinSets) 136 = .ok (.iload 6, 2) := by decide +kernel
theorem dx_X10_joinSets_138 : decode (go_cc mx_X10_joinSets) 138 = .ok (.if_icmp .ge 35, 3) := by decide +kernel
theorem dx_X10_joinSets_141 : decode (go_cc mx_X10_joinSets) 141 = .ok (.aload_n 0, 1) := by decide +kernel
theorem dx_X10_joinSets_142 : decode (go_cc mx_X10_joinSets) 142 = .ok (.iload 7, 2) := by decide +kernel
theorem dx_X10_joinSets_144 : decode (go_cc mx_X10_joinSets) 144 = .ok (.iload 10, 2) := by decide +kernel
theorem dx_X10_joinSets_146 : decode (go_cc mx_X10_joinSets) 146 = .ok (.bipush 64, 2) := by decide +kernel
theorem dx_X10_joinSets_148 : decode (go_cc mx_X10_joinSets) 148 = .ok (.iload 11, 2) := by decide +kernel
theorem dx_X10_joinSets_150 : decode (go_cc mx_X10_joinSets) 150 = .ok (.imul, 1) := by decide +kernel
theorem dx_X10_joinSets_151 : decode (go_cc mx_X10_joinSets) 151 = .ok (.iadd, 1) := by decide +kernel
theorem dx_X10_joinSets_152 : decode (go_cc mx_X10_joinSets) 152 = .ok (.aload_n 0, 1) := by decide +kernel
theorem dx_X10_joinSets_153 : decode (go_cc mx_X10_joinSets) 153 = .ok (.getfield 11, 3) := by decide +kernel
theorem dx_X10_joinSets_156 : decode (go_cc mx_X10_joinSets) 156 = .ok (.iload 5, 2) := by decide +kernel
theorem dx_X10_joinSets_158 : decode (go_cc mx_X10_joinSets) 158 = .ok (.iload 11, 2) := by decide +kernel
theorem dx_X10_joinSets_160 : decode (go_cc mx_X10_joinSets) 160 = .ok (.iadd, 1) := by decide +kernel
theorem dx_X10_joinSets_161 : decode (go_cc mx_X10_joinSets) 161 = .ok (.invokestatic 57, 3) := by decide +kernel
theorem dx_X10_joinSets_164 : decode (go_cc mx_X10_joinSets) 164 = .ok (.invokevirtual 61, 3) := by decide +kernel
theorem dx_X10_joinSets_167 : decode (go_cc mx_X10_joinSets) 167 = .ok (.iinc 11 1, 3) := by decide +kernel
theorem dx_X10_joinSets_170 : decode (go_cc mx_X10_joinSets) 170 = .ok (.goto (-36), 3) := by decide +kernel
theorem dx_X10_joinSets_173 : decode (go_cc mx_X10_joinSets) 173 = .ok (.iinc 9 1, 3) := by decide +kernel
theorem dx_X10_joinSets_176 : decode (go_cc mx_X10_joinSets) 176 = .ok (.goto (-92), 3) := by decide +kernel
theorem dx_X10_joinSets_179 : decode (go_cc mx_X10_joinSets) 179 = .ok (.return_, 1) := by decide +kernel
theorem dx_X10_addBits_0 : decode (go_cc mx_X10_addBits) 0 = .ok (.iload_n 1, 1) := by decide +kernel
theorem dx_X10_addBits_1 : decode (go_cc mx_X10_addBits) 1 = .ok (.iload_n 2, 1) := by decide +kernel
theorem dx_X10_addBits_2 : decode (go_cc mx_X10_addBits) 2 = .ok (.bipush 6, 2) := by decide +kernel
theorem dx_X10_addBits_4 : decode (go_cc mx_X10_addBits) 4 = .ok (.iushr, 1) := by decide +kernel
theorem dx_X10_addBits_5 : decode (go_cc mx_X10_addBits) 5 = .ok (.iadd, 1) := by decide +kernel
theorem dx_X10_addBits_6 : decode (go_cc mx_X10_addBits) 6 = .ok (.istore 5, 2) := by decide +kernel
theorem dx_X10_addBits_8 : decode (go_cc mx_X10_addBits) 8 = .ok (.iload_n 2, 1) := by decide +kernel
theorem dx_X10_addBits_9 : decode (go_cc mx_X10_addBits) 9 = .ok (.bipush 63, 2) := by decide +kernel
theorem dx_X10_addBits_11 : decode (go_cc mx_X10_addBits) 11 = .ok (.iand, 1) := by decide +kernel
theorem dx_X10_addBits_12 : decode (go_cc mx_X10_addBits) 12 = .ok (.istore 6, 2) := by decide +kernel
theorem dx_X10_addBits_14 : decode (go_cc mx_X10_addBits) 14 = .ok (.aload_n 0, 1) := by decide +kernel
theorem dx_X10_addBits_15 : decode (go_cc mx_X10_addBits) 15 = .ok (.getfield 11, 3) := by decide +kernel
theorem dx_X10_addBits_18 : decode (go_cc mx_X10_addBits) 18 = .ok (.iload 5, 2) := by decide +kernel
theorem dx_X10_addBits_20 : decode (go_cc mx_X10_addBits) 20 = .ok (.aload_n 0, 1) := by decide +kernel
theorem dx_X10_addBits_21 : decode (go_cc mx_X10_addBits) 21 = .ok (.getfield 11, 3) := by decide +kernel
theorem dx_X10_addBits_24 : decode (go_cc mx_X10_addBits) 24 = .ok (.iload 5, 2) := by decide +kernel
theorem dx_X10_addBits_26 : decode (go_cc mx_X10_addBits) 26 = .ok (.invokestatic 57, 3) := by decide +kernel
theorem dx_X10_addBits_29 : decode (go_cc mx_X10_addBits) 29 = .ok (.lload_n 3, 1) := by decide +kernel
theorem dx_X10_addBits_30 : decode (go_cc mx_X10_addBits) 30 = .ok (.iload 6, 2) := by decide +kernel
theorem dx_X10_addBits_32 : decode (go_cc mx_X10_addBits) 32 = .ok (.lshl, 1) := by decide +kernel
theorem dx_X10_addBits_33 : decode (go_cc mx_X10_addBits) 33 = .ok (.lor, 1) := by decide +kernel
theorem dx_X10_addBits_34 : decode (go_cc mx_X10_addBits) 34 = .ok (.invokestatic 15, 3) := by decide +kernel
theorem dx_X10_addBits_37 : decode (go_cc mx_X10_addBits) 37 = .ok (.iload 6, 2) := by decide +kernel
theorem dx_X10_addBits_39 : decode (go_cc mx_X10_addBits) 39 = .ok (.ifCond .ne 7, 3) := by decide +kernel
theorem dx_X10_addBits_42 : decode (go_cc mx_X10_addBits) 42 = .ok (.lconst 0, 1) := by decide +kernel
theorem dx_X10_addBits_43 : decode (go_cc mx_X10_addBits) 43 = .ok (.goto 10, 3) := by decide +kernel
theorem dx_X10_addBits_46 : decode (go_cc mx_X10_addBits) 46 = .ok (.lload_n 3, 1) := by decide +kernel
theorem dx_X10_addBits_47 : decode (go_cc mx_X10_addBits) 47 = .ok (.bipush 64, 2) := by decide +kernel
theorem dx_X10_addBits_49 : decode (go_cc mx_X10_addBits) 49 = .ok (.iload 6, 2) := by decide +kernel
theorem dx_X10_addBits_51 : decode (go_cc mx_X10_addBits) 51 = .ok (.isub, 1) := by decide +kernel
theorem dx_X10_addBits_52 : decode (go_cc mx_X10_addBits) 52 = .ok (.lushr, 1) := by decide +kernel
theorem dx_X10_addBits_53 : decode (go_cc mx_X10_addBits) 53 = .ok (.lstore 7, 2) := by decide +kernel
theorem dx_X10_addBits_55 : decode (go_cc mx_X10_addBits) 55 = .ok (.lload 7, 2) := by decide +kernel
theorem dx_X10_addBits_57 : decode (go_cc mx_X10_addBits) 57 = .ok (.lconst 0, 1) := by decide +kernel
theorem dx_X10_addBits_58 : decode (go_cc mx_X10_addBits) 58 = .ok (.lcmp, 1) := by decide +kernel
theorem dx_X10_addBits_59 : decode (go_cc mx_X10_addBits) 59 = .ok (.ifCond .eq 28, 3) := by decide +kernel
theorem dx_X10_addBits_62 : decode (go_cc mx_X10_addBits) 62 = .ok (.aload_n 0, 1) := by decide +kernel
theorem dx_X10_addBits_63 : decode (go_cc mx_X10_addBits) 63 = .ok (.getfield 11, 3) := by decide +kernel
theorem dx_X10_addBits_66 : decode (go_cc mx_X10_addBits) 66 = .ok (.iload 5, 2) := by decide +kernel
theorem dx_X10_addBits_68 : decode (go_cc mx_X10_addBits) 68 = .ok (.iconst 1, 1) := by decide +kernel
theorem dx_X10_addBits_69 : decode (go_cc mx_X10_addBits) 69 = .ok (.iadd, 1) := by decide +kernel
theorem dx_X10_addBits_70 : decode (go_cc mx_X10_addBits) 70 = .ok (.aload_n 0, 1) := by decide +kernel
theorem dx_X10_addBits_71 : decode (go_cc mx_X10_addBits) 71 = .ok (.getfield 11, 3) := by decide +kernel
theorem dx_X10_addBits_74 : decode (go_cc mx_X10_addBits) 74 = .ok (.iload 5, 2) := by decide +kernel
theorem dx_X10_addBits_76 : decode (go_cc mx_X10_addBits) 76 = .ok (.iconst 1, 1) := by decide +kernel
theorem dx_X10_addBits_77 : decode (go_cc mx_X10_addBits) 77 = .ok (.iadd, 1) := by decide +kernel
theorem dx_X10_addBits_78 : decode (go_cc mx_X10_addBits) 78 = .ok (.invokestatic 57, 3) := by decide +kernel
theorem dx_X10_addBits_81 : decode (go_cc mx_X10_addBits) 81 = .ok (.lload 7, 2) := by decide +kernel
theorem dx_X10_addBits_83 : decode (go_cc mx_X10_addBits) 83 = .ok (.lor, 1) := by decide +kernel
theorem dx_X10_addBits_84 : decode (go_cc mx_X10_addBits) 84 = .ok (.invokestatic 15, 3) := by decide +kernel
theorem dx_X10_addBits_87 : decode (go_cc mx_X10_addBits) 87 = .ok (.return_, 1) := by decide +kernel
theorem dx_X10_liftSets_0 : decode (go_cc mx_X10_liftSets) 0 = .ok (.iconst 0, 1) := by decide +kernel
theorem dx_X10_liftSets_1 : decode (go_cc mx_X10_liftSets) 1 = .ok (.istore_n 3, 1) := by decide +kernel
theorem dx_X10_liftSets_2 : decode (go_cc mx_X10_liftSets) 2 = .ok (.iload_n 3, 1) := by decide +kernel
theorem dx_X10_liftSets_3 : decode (go_cc mx_X10_liftSets) 3 = .ok (.bipush 8, 2) := by decide +kernel
theorem dx_X10_liftSets_5 : decode (go_cc mx_X10_liftSets) 5 = .ok (.if_icmp .ge 59, 3) := by decide +kernel
theorem dx_X10_liftSets_8 : decode (go_cc mx_X10_liftSets) 8 = .ok (.aload_n 1, 1) := by decide +kernel
theorem dx_X10_liftSets_9 : decode (go_cc mx_X10_liftSets) 9 = .ok (.getfield 65, 3) := by decide +kernel
theorem dx_X10_liftSets_12 : decode (go_cc mx_X10_liftSets) 12 = .ok (.iload_n 3, 1) := by decide +kernel
theorem dx_X10_liftSets_13 : decode (go_cc mx_X10_liftSets) 13 = .ok (.invokestatic 29, 3) := by decide +kernel
theorem dx_X10_liftSets_16 : decode (go_cc mx_X10_liftSets) 16 = .ok (.istore 4, 2) := by decide +kernel
theorem dx_X10_liftSets_18 : decode (go_cc mx_X10_liftSets) 18 = .ok (.iconst 0, 1) := by decide +kernel
theorem dx_X10_liftSets_19 : decode (go_cc mx_X10_liftSets) 19 = .ok (.istore 5, 2) := by decide +kernel
theorem dx_X10_liftSets_21 : decode (go_cc mx_X10_liftSets) 21 = .ok (.iload 5, 2) := by decide +kernel
theorem dx_X10_liftSets_23 : decode (go_cc mx_X10_liftSets) 23 = .ok (.bipush 14, 2) := by decide +kernel
theorem dx_X10_liftSets_25 : decode (go_cc mx_X10_liftSets) 25 = .ok (.if_icmp .ge 33, 3) := by decide +kernel
theorem dx_X10_liftSets_28 : decode (go_cc mx_X10_liftSets) 28 = .ok (.iload 4, 2) := by decide +kernel
theorem dx_X10_liftSets_30 : decode (go_cc mx_X10_liftSets) 30 = .ok (.iload 5, 2) := by decide +kernel
theorem dx_X10_liftSets_32 : decode (go_cc mx_X10_liftSets) 32 = .ok (.iushr, 1) := by decide +kernel
theorem dx_X10_liftSets_33 : decode (go_cc mx_X10_liftSets) 33 = .ok (.iconst 1, 1) := by decide +kernel
theorem dx_X10_liftSets_34 : decode (go_cc mx_X10_liftSets) 34 = .ok (.iand, 1) := by decide +kernel
theorem dx_X10_liftSets_35 : decode (go_cc mx_X10_liftSets) 35 = .ok (.ifCond .eq 17, 3) := by decide +kernel
theorem dx_X10_liftSets_38 : decode (go_cc mx_X10_liftSets) 38 = .ok (.aload_n 0, 1) := by decide +kernel
theorem dx_X10_liftSets_39 : decode (go_cc mx_X10_liftSets) 39 = .ok (.iload_n 3, 1) := by decide +kernel
theorem dx_X10_liftSets_40 : decode (go_cc mx_X10_liftSets) 40 = .ok (.bipush 27, 2) := by decide +kernel
theorem dx_X10_liftSets_42 : decode (go_cc mx_X10_liftSets) 42 = .ok (.imul, 1) := by decide +kernel
theorem dx_X10_liftSets_43 : decode (go_cc mx_X10_liftSets) 43 = .ok (.iload 5, 2) := by decide +kernel
theorem dx_X10_liftSets_45 : decode (go_cc mx_X10_liftSets) 45 = .ok (.bipush 27, 2) := by decide +kernel
theorem dx_X10_liftSets_47 : decode (go_cc mx_X10_liftSets) 47 = .ok (.imul, 1) := by decide +kernel
theorem dx_X10_liftSets_48 : decode (go_cc mx_X10_liftSets) 48 = .ok (.iload_n 2, 1) := by decide +kernel
theorem dx_X10_liftSets_49 : decode (go_cc mx_X10_liftSets) 49 = .ok (.invokevirtual 68, 3) := by decide +kernel
theorem dx_X10_liftSets_52 : decode (go_cc mx_X10_liftSets) 52 = .ok (.iinc 5 1, 3) := by decide +kernel
theorem dx_X10_liftSets_55 : decode (go_cc mx_X10_liftSets) 55 = .ok (.goto (-34), 3) := by decide +kernel
theorem dx_X10_liftSets_58 : decode (go_cc mx_X10_liftSets) 58 = .ok (.iinc 3 1, 3) := by decide +kernel
theorem dx_X10_liftSets_61 : decode (go_cc mx_X10_liftSets) 61 = .ok (.goto (-59), 3) := by decide +kernel
theorem dx_X10_liftSets_64 : decode (go_cc mx_X10_liftSets) 64 = .ok (.return_, 1) := by decide +kernel
theorem dx_X10_addSet_0 : decode (go_cc mx_X10_addSet) 0 = .ok (.getstatic 45, 3) := by decide +kernel
theorem dx_X10_addSet_3 : decode (go_cc mx_X10_addSet) 3 = .ok (.iload_n 3, 1) := by decide +kernel
theorem dx_X10_addSet_4 : decode (go_cc mx_X10_addSet) 4 = .ok (.iconst 1, 1) := by decide +kernel
theorem dx_X10_addSet_5 : decode (go_cc mx_X10_addSet) 5 = .ok (.iadd, 1) := by decide +kernel
theorem dx_X10_addSet_6 : decode (go_cc mx_X10_addSet) 6 = .ok (.invokestatic 29, 3) := by decide +kernel
theorem dx_X10_addSet_9 : decode (go_cc mx_X10_addSet) 9 = .ok (.istore 4, 2) := by decide +kernel
theorem dx_X10_addSet_11 : decode (go_cc mx_X10_addSet) 11 = .ok (.getstatic 45, 3) := by decide +kernel
theorem dx_X10_addSet_14 : decode (go_cc mx_X10_addSet) 14 = .ok (.iload_n 3, 1) := by decide +kernel
theorem dx_X10_addSet_15 : decode (go_cc mx_X10_addSet) 15 = .ok (.invokestatic 29, 3) := by decide +kernel
theorem dx_X10_addSet_18 : decode (go_cc mx_X10_addSet) 18 = .ok (.istore 5, 2) := by decide +kernel
theorem dx_X10_addSet_20 : decode (go_cc mx_X10_addSet) 20 = .ok (.iload 5, 2) := by decide +kernel
theorem dx_X10_addSet_22 : decode (go_cc mx_X10_addSet) 22 = .ok (.iload 4, 2) := by decide +kernel
theorem dx_X10_addSet_24 : decode (go_cc mx_X10_addSet) 24 = .ok (.if_icmp .ge 43, 3) := by decide +kernel
theorem dx_X10_addSet_27 : decode (go_cc mx_X10_addSet) 27 = .ok (.aload_n 0, 1) := by decide +kernel
theorem dx_X10_addSet_28 : decode (go_cc mx_X10_addSet) 28 = .ok (.getfield 11, 3) := by decide +kernel
theorem dx_X10_addSet_31 : decode (go_cc mx_X10_addSet) 31 = .ok (.iload_n 1, 1) := by decide +kernel
theorem dx_X10_addSet_32 : decode (go_cc mx_X10_addSet) 32 = .ok (.iload 5, 2) := by decide +kernel
theorem dx_X10_addSet_34 : decode (go_cc mx_X10_addSet) 34 = .ok (.iadd, 1) := by decide +kernel
theorem dx_X10_addSet_35 : decode (go_cc mx_X10_addSet) 35 = .ok (.aload_n 0, 1) := by decide +kernel
theorem dx_X10_addSet_36 : decode (go_cc mx_X10_addSet) 36 = .ok (.getfield 11, 3) := by decide +kernel
theorem dx_X10_addSet_39 : decode (go_cc mx_X10_addSet) 39 = .ok (.iload_n 1, 1) := by decide +kernel
theorem dx_X10_addSet_40 : decode (go_cc mx_X10_addSet) 40 = .ok (.iload 5, 2) := by decide +kernel
theorem dx_X10_addSet_42 : decode (go_cc mx_X10_addSet) 42 = .ok (.iadd, 1) := by decide +kernel
theorem dx_X10_addSet_43 : decode (go_cc mx_X10_addSet) 43 = .ok (.invokestatic 57, 3) := by decide +kernel
theorem dx_X10_addSet_46 : decode (go_cc mx_X10_addSet) 46 = .ok (.aload_n 0, 1) := by decide +kernel
theorem dx_X10_addSet_47 : decode (go_cc mx_X10_addSet) 47 = .ok (.getfield 11, 3) := by decide +kernel
theorem dx_X10_addSet_50 : decode (go_cc mx_X10_addSet) 50 = .ok (.iload_n 2, 1) := by decide +kernel
theorem dx_X10_addSet_51 : decode (go_cc mx_X10_addSet) 51 = .ok (.iload 5, 2) := by decide +kernel
theorem dx_X10_addSet_53 : decode (go_cc mx_X10_addSet) 53 = .ok (.iadd, 1) := by decide +kernel
theorem dx_X10_addSet_54 : decode (go_cc mx_X10_addSet) 54 = .ok (.invokestatic 57, 3) := by decide +kernel
theorem dx_X10_addSet_57 : decode (go_cc mx_X10_addSet) 57 = .ok (.lor, 1) := by decide +kernel
theorem dx_X10_addSet_58 : decode (go_cc mx_X10_addSet) 58 = .ok (.invokestatic 15, 3) := by decide +kernel
theorem dx_X10_addSet_61 : decode (go_cc mx_X10_addSet) 61 = .ok (.iinc 5 1, 3) := by decide +kernel
theorem dx_X10_addSet_64 : decode (go_cc mx_X10_addSet) 64 = .ok (.goto (-44), 3) := by decide +kernel
theorem dx_X10_addSet_67 : decode (go_cc mx_X10_addSet) 67 = .ok (.return_, 1) := by decide +kernel
theorem dx_X10_sizeOfSet_0 : decode (go_cc mx_X10_sizeOfSet) 0 = .ok (.iconst 0, 1) := by decide +kernel
theorem dx_X10_sizeOfSet_1 : decode (go_cc mx_X10_sizeOfSet) 1 = .ok (.istore_n 3, 1) := by decide +kernel
theorem dx_X10_sizeOfSet_2 : decode (go_cc mx_X10_sizeOfSet) 2 = .ok (.getstatic 45, 3) := by decide +kernel
theorem dx_X10_sizeOfSet_5 : decode (go_cc mx_X10_sizeOfSet) 5 = .ok (.iload_n 2, 1) := by decide +kernel
theorem dx_X10_sizeOfSet_6 : decode (go_cc mx_X10_sizeOfSet) 6 = .ok (.iconst 1, 1) := by decide +kernel
theorem dx_X10_sizeOfSet_7 : decode (go_cc mx_X10_sizeOfSet) 7 = .ok (.iadd, 1) := by decide +kernel
theorem dx_X10_sizeOfSet_8 : decode (go_cc mx_X10_sizeOfSet) 8 = .ok (.invokestatic 29, 3) := by decide +kernel
theorem dx_X10_sizeOfSet_11 : decode (go_cc mx_X10_sizeOfSet) 11 = .ok (.istore 4, 2) := by decide +kernel
theorem dx_X10_sizeOfSet_13 : decode (go_cc mx_X10_sizeOfSet) 13 = .ok (.getstatic 45, 3) := by decide +kernel
theorem dx_X10_sizeOfSet_16 : decode (go_cc mx_X10_sizeOfSet) 16 = .ok (.iload_n 2, 1) := by decide +kernel
theorem dx_X10_sizeOfSet_17 : decode (go_cc mx_X10_sizeOfSet) 17 = .ok (.invokestatic 29, 3) := by decide +kernel
theorem dx_X10_sizeOfSet_20 : decode (go_cc mx_X10_sizeOfSet) 20 = .ok (.istore 5, 2) := by decide +kernel
theorem dx_X10_sizeOfSet_22 : decode (go_cc mx_X10_sizeOfSet) 22 = .ok (.iload 5, 2) := by decide +kernel
theorem dx_X10_sizeOfSet_24 : decode (go_cc mx_X10_sizeOfSet) 24 = .ok (.iload 4, 2) := by decide +kernel
theorem dx_X10_sizeOfSet_26 : decode (go_cc mx_X10_sizeOfSet) 26 = .ok (.if_icmp .ge 29, 3) := by decide +kernel
theorem dx_X10_sizeOfSet_29 : decode (go_cc mx_X10_sizeOfSet) 29 = .ok (.iload_n 3, 1) := by decide +kernel
theorem dx_X10_sizeOfSet_30 : decode (go_cc mx_X10_sizeOfSet) 30 = .ok (.aload_n 0, 1) := by decide +kernel
theorem dx_X10_sizeOfSet_31 : decode (go_cc mx_X10_sizeOfSet) 31 = .ok (.getfield 11, 3) := by decide +kernel
theorem dx_X10_sizeOfSet_34 : decode (go_cc mx_X10_sizeOfSet) 34 = .ok (.iload_n 1, 1) := by decide +kernel
theorem dx_X10_sizeOfSet_35 : decode (go_cc mx_X10_sizeOfSet) 35 = .ok (.bipush 27, 2) := by decide +kernel
theorem dx_X10_sizeOfSet_37 : decode (go_cc mx_X10_sizeOfSet) 37 = .ok (.imul, 1) := by decide +kernel
theorem dx_X10_sizeOfSet_38 : decode (go_cc mx_X10_sizeOfSet) 38 = .ok (.iload 5, 2) := by decide +kernel
theorem dx_X10_sizeOfSet_40 : decode (go_cc mx_X10_sizeOfSet) 40 = .ok (.iadd, 1) := by decide +kernel
theorem dx_X10_sizeOfSet_41 : decode (go_cc mx_X10_sizeOfSet) 41 = .ok (.invokestatic 57, 3) := by decide +kernel
theorem dx_X10_sizeOfSet_44 : decode (go_cc mx_X10_sizeOfSet) 44 = .ok (.invokestatic 71, 3) := by decide +kernel
theorem dx_X10_sizeOfSet_47 : decode (go_cc mx_X10_sizeOfSet) 47 = .ok (.iadd, 1) := by decide +kernel
theorem dx_X10_sizeOfSet_48 : decode (go_cc mx_X10_sizeOfSet) 48 = .ok (.istore_n 3, 1) := by decide +kernel
theorem dx_X10_sizeOfSet_49 : decode (go_cc mx_X10_sizeOfSet) 49 = .ok (.iinc 5 1, 3) := by decide +kernel
theorem dx_X10_sizeOfSet_52 : decode (go_cc mx_X10_sizeOfSet) 52 = .ok (.goto (-30), 3) := by decide +kernel
theorem dx_X10_sizeOfSet_55 : decode (go_cc mx_X10_sizeOfSet) 55 = .ok (.iload_n 3, 1) := by decide +kernel
theorem dx_X10_sizeOfSet_56 : decode (go_cc mx_X10_sizeOfSet) 56 = .ok (.ireturn, 1) := by decide +kernel
theorem dx_X10_letterOfFirst_0 : decode (go_cc mx_X10_letterOfFirst) 0 = .ok (.getstatic 45, 3) := by decide +kernel
theorem dx_X10_letterOfFirst_3 : decode (go_cc mx_X10_letterOfFirst) 3 = .ok (.iload_n 2, 1) := by decide +kernel
theorem dx_X10_letterOfFirst_4 : decode (go_cc mx_X10_letterOfFirst) 4 = .ok (.invokestatic 29, 3) := by decide +kernel
theorem dx_X10_letterOfFirst_7 : decode (go_cc mx_X10_letterOfFirst) 7 = .ok (.istore 4, 2) := by decide +kernel
theorem dx_X10_letterOfFirst_9 : decode (go_cc mx_X10_letterOfFirst) 9 = .ok (.getstatic 45, 3) := by decide +kernel
theorem dx_X10_letterOfFirst_12 : decode (go_cc mx_X10_letterOfFirst) 12 = .ok (.iload_n 2, 1) := by decide +kernel
theorem dx_X10_letterOfFirst_13 : decode (go_cc mx_X10_letterOfFirst) 13 = .ok (.iconst 1, 1) := by decide +kernel
theorem dx_X10_letterOfFirst_14 : decode (go_cc mx_X10_letterOfFirst) 14 = .ok (.iadd, 1) := by decide +kernel
theorem dx_X10_letterOfFirst_15 : decode (go_cc mx_X10_letterOfFirst) 15 = .ok (.invokestatic 29, 3) := by decide +kernel
theorem dx_X10_letterOfFirst_18 : decode (go_cc mx_X10_letterOfFirst) 18 = .ok (.istore 5, 2) := by decide +kernel
theorem dx_X10_letterOfFirst_20 : decode (go_cc mx_X10_letterOfFirst) 20 = .ok (.iload 4, 2) := by decide +kernel
theorem dx_X10_letterOfFirst_22 : decode (go_cc mx_X10_letterOfFirst) 22 = .ok (.istore 6, 2) := by decide +kernel
theorem dx_X10_letterOfFirst_24 : decode (go_cc mx_X10_letterOfFirst) 24 = .ok (.iload 6, 2) := by decide +kernel
theorem dx_X10_letterOfFirst_26 : decode (go_cc mx_X10_letterOfFirst) 26 = .ok (.iload 5, 2) := by decide +kernel
theorem dx_X10_letterOfFirst_28 : decode (go_cc mx_X10_letterOfFirst) 28 = .ok (.if_icmp .ge 82, 3) := by decide +kernel
theorem dx_X10_letterOfFirst_31 : decode (go_cc mx_X10_letterOfFirst) 31 = .ok (.aload_n 0, 1) := by decide +kernel
theorem dx_X10_letterOfFirst_32 : decode (go_cc mx_X10_letterOfFirst) 32 = .ok (.getfield 11, 3) := by decide +kernel
theorem dx_X10_letterOfFirst_35 : decode (go_cc mx_X10_letterOfFirst) 35 = .ok (.iload_n 1, 1) := by decide +kernel
theorem dx_X10_letterOfFirst_36 : decode (go_cc mx_X10_letterOfFirst) 36 = .ok (.bipush 27, 2) := by decide +kernel
theorem dx_X10_letterOfFirst_38 : decode (go_cc mx_X10_letterOfFirst) 38 = .ok (.imul, 1) := by decide +kernel
theorem dx_X10_letterOfFirst_39 : decode (go_cc mx_X10_letterOfFirst) 39 = .ok (.iload 6, 2) := by decide +kernel
theorem dx_X10_letterOfFirst_41 : decode (go_cc mx_X10_letterOfFirst) 41 = .ok (.iadd, 1) := by decide +kernel
theorem dx_X10_letterOfFirst_42 : decode (go_cc mx_X10_letterOfFirst) 42 = .ok (.invokestatic 57, 3) := by decide +kernel
theorem dx_X10_letterOfFirst_45 : decode (go_cc mx_X10_letterOfFirst) 45 = .ok (.lstore 7, 2) := by decide +kernel
theorem dx_X10_letterOfFirst_47 : decode (go_cc mx_X10_letterOfFirst) 47 = .ok (.lload 7, 2) := by decide +kernel
theorem dx_X10_letterOfFirst_49 : decode (go_cc mx_X10_letterOfFirst) 49 = .ok (.lconst 0, 1) := by decide +kernel
theorem dx_X10_letterOfFirst_50 : decode (go_cc mx_X10_letterOfFirst) 50 = .ok (.lcmp, 1) := by decide +kernel
theorem dx_X10_letterOfFirst_51 : decode (go_cc mx_X10_letterOfFirst) 51 = .ok (.ifCond .eq 53, 3) := by decide +kernel
theorem dx_X10_letterOfFirst_54 : decode (go_cc mx_X10_letterOfFirst) 54 = .ok (.bipush 64, 2) := by decide +kernel
theorem dx_X10_letterOfFirst_56 : decode (go_cc mx_X10_letterOfFirst) 56 = .ok (.iload 6, 2) := by decide +kernel
theorem dx_X10_letterOfFirst_58 : decode (go_cc mx_X10_letterOfFirst) 58 = .ok (.iload 4, 2) := by decide +kernel
theorem dx_X10_letterOfFirst_60 : decode (go_cc mx_X10_letterOfFirst) 60 = .ok (.isub, 1) := by decide +kernel
theorem dx_X10_letterOfFirst_61 : decode (go_cc mx_X10_letterOfFirst) 61 = .ok (.imul, 1) := by decide +kernel
theorem dx_X10_letterOfFirst_62 : decode (go_cc mx_X10_letterOfFirst) 62 = .ok (.lload 7, 2) := by decide +kernel
theorem dx_X10_letterOfFirst_64 : decode (go_cc mx_X10_letterOfFirst) 64 = .ok (.invokestatic 77, 3) := by decide +kernel
theorem dx_X10_letterOfFirst_67 : decode (go_cc mx_X10_letterOfFirst) 67 = .ok (.iadd, 1) := by decide +kernel
theorem dx_X10_letterOfFirst_68 : decode (go_cc mx_X10_letterOfFirst) 68 = .ok (.istore 9, 2) := by decide +kernel
theorem dx_X10_letterOfFirst_70 : decode (go_cc mx_X10_letterOfFirst) 70 = .ok (.getstatic 54, 3) := by decide +kernel
theorem dx_X10_letterOfFirst_73 : decode (go_cc mx_X10_letterOfFirst) 73 = .ok (.iload_n 2, 1) := by decide +kernel
theorem dx_X10_letterOfFirst_74 : decode (go_cc mx_X10_letterOfFirst) 74 = .ok (.iconst 1, 1) := by decide +kernel
theorem dx_X10_letterOfFirst_75 : decode (go_cc mx_X10_letterOfFirst) 75 = .ok (.isub, 1) := by decide +kernel
theorem dx_X10_letterOfFirst_76 : decode (go_cc mx_X10_letterOfFirst) 76 = .ok (.iload_n 3, 1) := by decide +kernel
theorem dx_X10_letterOfFirst_77 : decode (go_cc mx_X10_letterOfFirst) 77 = .ok (.isub, 1) := by decide +kernel
theorem dx_X10_letterOfFirst_78 : decode (go_cc mx_X10_letterOfFirst) 78 = .ok (.invokestatic 29, 3) := by decide +kernel
theorem dx_X10_letterOfFirst_81 : decode (go_cc mx_X10_letterOfFirst) 81 = .ok (.istore 10, 2) := by decide +kernel
theorem dx_X10_letterOfFirst_83 : decode (go_cc mx_X10_letterOfFirst) 83 = .ok (.iload 10, 2) := by decide +kernel
theorem dx_X10_letterOfFirst_85 : decode (go_cc mx_X10_letterOfFirst) 85 = .ok (.ifCond .le 17, 3) := by decide +kernel
theorem dx_X10_letterOfFirst_88 : decode (go_cc mx_X10_letterOfFirst) 88 = .ok (.bipush 8, 2) := by decide +kernel
theorem dx_X10_letterOfFirst_90 : decode (go_cc mx_X10_letterOfFirst) 90 = .ok (.iload 9, 2) := by decide +kernel
theorem dx_X10_letterOfFirst_92 : decode (go_cc mx_X10_letterOfFirst) 92 = .ok (.iload 10, 2) := by decide +kernel
theorem dx_X10_letterOfFirst_94 : decode (go_cc mx_X10_letterOfFirst) 94 = .ok (.idiv, 1) := by decide +kernel
theorem dx_X10_letterOfFirst_95 : decode (go_cc mx_X10_letterOfFirst) 95 = .ok (.bipush 6, 2) := by decide +kernel
theorem dx_X10_letterOfFirst_97 : decode (go_cc mx_X10_letterOfFirst) 97 = .ok (.irem, 1) := by decide +kernel
theorem dx_X10_letterOfFirst_98 : decode (go_cc mx_X10_letterOfFirst) 98 = .ok (.iadd, 1) := by decide +kernel
theorem dx_X10_letterOfFirst_99 : decode (go_cc mx_X10_letterOfFirst) 99 = .ok (.goto 4, 3) := by decide +kernel
theorem dx_X10_letterOfFirst_102 : decode (go_cc mx_X10_letterOfFirst) 102 = .ok (.iconst (-1), 1) := by decide +kernel
theorem dx_X10_letterOfFirst_103 : decode (go_cc mx_X10_letterOfFirst) 103 = .ok (.ireturn, 1) := by decide +kernel
theorem dx_X10_letterOfFirst_104 : decode (go_cc mx_X10_letterOfFirst) 104 = .ok (.iinc 6 1, 3) := by decide +kernel
theorem dx_X10_letterOfFirst_107 : decode (go_cc mx_X10_letterOfFirst) 107 = .ok (.goto (-83), 3) := by decide +kernel
theorem dx_X10_letterOfFirst_110 : decode (go_cc mx_X10_letterOfFirst) 110 = .ok (.iconst (-1), 1) := by decide +kernel
theorem dx_X10_letterOfFirst_111 : decode (go_cc mx_X10_letterOfFirst) 111 = .ok (.ireturn, 1) := by decide +kernel
theorem dx_X11_init_0 : decode (go_cc mx_X11_init) 0 = .ok (.aload_n 0, 1) := by decide +kernel
theorem dx_X11_init_1 : decode (go_cc mx_X11_init) 1 = .ok (.invokespecial 3, 3) := by decide +kernel
theorem dx_X11_init_4 : decode (go_cc mx_X11_init) 4 = .ok (.aload_n 0, 1) := by decide +kernel
theorem dx_X11_init_5 : decode (go_cc mx_X11_init) 5 = .ok (.new 9, 3) := by decide +kernel
theorem dx_X11_init_8 : decode (go_cc mx_X11_init) 8 = .ok (.dup, 1) := by decide +kernel
theorem dx_X11_init_9 : decode (go_cc mx_X11_init) 9 = .ok (.invokespecial 11, 3) := by decide +kernel
theorem dx_X11_init_12 : decode (go_cc mx_X11_init) 12 = .ok (.putfield 12, 3) := by decide +kernel
theorem dx_X11_init_15 : decode (go_cc mx_X11_init) 15 = .ok (.aload_n 0, 1) := by decide +kernel
theorem dx_X11_init_16 : decode (go_cc mx_X11_init) 16 = .ok (.new 16, 3) := by decide +kernel
theorem dx_X11_init_19 : decode (go_cc mx_X11_init) 19 = .ok (.dup, 1) := by decide +kernel
theorem dx_X11_init_20 : decode (go_cc mx_X11_init) 20 = .ok (.invokespecial 18, 3) := by decide +kernel
theorem dx_X11_init_23 : decode (go_cc mx_X11_init) 23 = .ok (.putfield 19, 3) := by decide +kernel
theorem dx_X11_init_26 : decode (go_cc mx_X11_init) 26 = .ok (.aload_n 0, 1) := by decide +kernel
theorem dx_X11_init_27 : decode (go_cc mx_X11_init) 27 = .ok (.new 23, 3) := by decide +kernel
theorem dx_X11_init_30 : decode (go_cc mx_X11_init) 30 = .ok (.dup, 1) := by decide +kernel
theorem dx_X11_init_31 : decode (go_cc mx_X11_init) 31 = .ok (.invokespecial 25, 3) := by decide +kernel
theorem dx_X11_init_34 : decode (go_cc mx_X11_init) 34 = .ok (.putfield 26, 3) := by decide +kernel
theorem dx_X11_init_37 : decode (go_cc mx_X11_init) 37 = .ok (.aload_n 0, 1) := by decide +kernel
theorem dx_X11_init_38 : decode (go_cc mx_X11_init) 38 = .ok (.new 30, 3) := by decide +kernel
theorem dx_X11_init_41 : decode (go_cc mx_X11_init) 41 = .ok (.dup, 1) := by decide +kernel
theorem dx_X11_init_42 : decode (go_cc mx_X11_init) 42 = .ok (.invokespecial 32, 3) := by decide +kernel
theorem dx_X11_init_45 : decode (go_cc mx_X11_init) 45 = .ok (.putfield 33, 3) := by decide +kernel
theorem dx_X11_init_48 : decode (go_cc mx_X11_init) 48 = .ok (.aload_n 0, 1) := by decide +kernel
theorem dx_X11_init_49 : decode (go_cc mx_X11_init) 49 = .ok (.new 37, 3) := by decide +kernel
theorem dx_X11_init_52 : decode (go_cc mx_X11_init) 52 = .ok (.dup, 1) := by decide +kernel
theorem dx_X11_init_53 : decode (go_cc mx_X11_init) 53 = .ok (.iconst 0, 1) := by decide +kernel
theorem dx_X11_init_54 : decode (go_cc mx_X11_init) 54 = .ok (.invokespecial 39, 3) := by decide +kernel
theorem dx_X11_init_57 : decode (go_cc mx_X11_init) 57 = .ok (.putfield 42, 3) := by decide +kernel
theorem dx_X11_init_60 : decode (go_cc mx_X11_init) 60 = .ok (.aload_n 0, 1) := by decide +kernel
theorem dx_X11_init_61 : decode (go_cc mx_X11_init) 61 = .ok (.new 46, 3) := by decide +kernel
theorem dx_X11_init_64 : decode (go_cc mx_X11_init) 64 = .ok (.dup, 1) := by decide +kernel
theorem dx_X11_init_65 : decode (go_cc mx_X11_init) 65 = .ok (.aload_n 0, 1) := by decide +kernel
theorem dx_X11_init_66 : decode (go_cc mx_X11_init) 66 = .ok (.getfield 33, 3) := by decide +kernel
theorem dx_X11_init_69 : decode (go_cc mx_X11_init) 69 = .ok (.aload_n 0, 1) := by decide +kernel
theorem dx_X11_init_70 : decode (go_cc mx_X11_init) 70 = .ok (.getfield 42, 3) := by decide +kernel
theorem dx_X11_init_73 : decode (go_cc mx_X11_init) 73 = .ok (.invokespecial 48, 3) := by decide +kernel
theorem dx_X11_init_76 : decode (go_cc mx_X11_init) 76 = .ok (.putfield 51, 3) := by decide +kernel
theorem dx_X11_init_79 : decode (go_cc mx_X11_init) 79 = .ok (.aload_n 0, 1) := by decide +kernel
theorem dx_X11_init_80 : decode (go_cc mx_X11_init) 80 = .ok (.new 55, 3) := by decide +kernel
theorem dx_X11_init_83 : decode (go_cc mx_X11_init) 83 = .ok (.dup, 1) := by decide +kernel
theorem dx_X11_init_84 : decode (go_cc mx_X11_init) 84 = .ok (.aload_n 0, 1) := by decide +kernel
theorem dx_X11_init_85 : decode (go_cc mx_X11_init) 85 = .ok (.getfield 33, 3) := by decide +kernel
theorem dx_X11_init_88 : decode (go_cc mx_X11_init) 88 = .ok (.aload_n 0, 1) := by decide +kernel
theorem dx_X11_init_89 : decode (go_cc mx_X11_init) 89 = .ok (.getfield 42, 3) := by decide +kernel
theorem dx_X11_init_92 : decode (go_cc mx_X11_init) 92 = .ok (.iconst 0, 1) := by decide +kernel
theorem dx_X11_init_93 : decode (go_cc mx_X11_init) 93 = .ok (.invokespecial 57, 3) := by decide +kernel
theorem dx_X11_init_96 : decode (go_cc mx_X11_init) 96 = .ok (.putfield 60, 3) := by decide +kernel
theorem dx_X11_init_99 : decode (go_cc mx_X11_init) 99 = .ok (.aload_n 0, 1) := by decide +kernel
theorem dx_X11_init_100 : decode (go_cc mx_X11_init) 100 = .ok (.new 64, 3) := by decide +kernel
theorem dx_X11_init_103 : decode (go_cc mx_X11_init) 103 = .ok (.dup, 1) := by decide +kernel
theorem dx_X11_init_104 : decode (go_cc mx_X11_init) 104 = .ok (.aload_n 0, 1) := by decide +kernel
theorem dx_X11_init_105 : decode (go_cc mx_X11_init) 105 = .ok (.getfield 19, 3) := by decide +kernel
theorem dx_X11_init_108 : decode (go_cc mx_X11_init) 108 = .ok (.aload_n 0, 1) := by decide +kernel
theorem dx_X11_init_109 : decode (go_cc mx_X11_init) 109 = .ok (.getfield 33, 3) := by decide +kernel
theorem dx_X11_init_112 : decode (go_cc mx_X11_init) 112 = .ok (.aload_n 0, 1) := by decide +kernel
theorem dx_X11_init_113 : decode (go_cc mx_X11_init) 113 = .ok (.getfield 60, 3) := by decide +kernel
theorem dx_X11_init_116 : decode (go_cc mx_X11_init) 116 = .ok (.invokespecial 66, 3) := by decide +kernel
theorem dx_X11_init_119 : decode (go_cc mx_X11_init) 119 = .ok (.putfield 69, 3) := by decide +kernel
theorem dx_X11_init_122 : decode (go_cc mx_X11_init) 122 = .ok (.aload_n 0, 1) := by decide +kernel
theorem dx_X11_init_123 : decode (go_cc mx_X11_init) 123 = .ok (.new 37, 3) := by decide +kernel
theorem dx_X11_init_126 : decode (go_cc mx_X11_init) 126 = .ok (.dup, 1) := by decide +kernel
theorem dx_X11_init_127 : decode (go_cc mx_X11_init) 127 = .ok (.iconst 1, 1) := by decide +kernel
theorem dx_X11_init_128 : decode (go_cc mx_X11_init) 128 = .ok (.invokespecial 39, 3) := by decide +kernel
theorem dx_X11_init_131 : decode (go_cc mx_X11_init) 131 = .ok (.putfield 73, 3) := by decide +kernel
theorem dx_X11_init_134 : decode (go_cc mx_X11_init) 134 = .ok (.aload_n 0, 1) := by decide +kernel
theorem dx_X11_init_135 : decode (go_cc mx_X11_init) 135 = .ok (.new 55, 3) := by decide +kernel
theorem dx_X11_init_138 : decode (go_cc mx_X11_init) 138 = .ok (.dup, 1) := by decide +kernel
theorem dx_X11_init_139 : decode (go_cc mx_X11_init) 139 = .ok (.aload_n 0, 1) := by decide +kernel
theorem dx_X11_init_140 : decode (go_cc mx_X11_init) 140 = .ok (.getfield 33, 3) := by decide +kernel
theorem dx_X11_init_143 : decode (go_cc mx_X11_init) 143 = .ok (.aload_n 0, 1) := by decide +kernel
theorem dx_X11_init_144 : decode (go_cc mx_X11_init) 144 = .ok (.getfield 73, 3) := by decide +kernel
theorem dx_X11_init_147 : decode (go_cc mx_X11_init) 147 = .ok (.iconst 1, 1) := by decide +kernel
theorem dx_X11_init_148 : decode (go_cc mx_X11_init) 148 = .ok (.invokespecial 57, 3) := by decide +kernel
theorem dx_X11_init_151 : decode (go_cc mx_X11_init) 151 = .ok (.putfield 76, 3) := by decide +kernel
theorem dx_X11_init_154 : decode (go_cc mx_X11_init) 154 = .ok (.aload_n 0, 1) := by decide +kernel
theorem dx_X11_init_155 : decode (go_cc mx_X11_init) 155 = .ok (.new 79, 3) := by decide +kernel
theorem dx_X11_init_158 : decode (go_cc mx_X11_init) 158 = .ok (.dup, 1) := by decide +kernel
theorem dx_X11_init_159 : decode (go_cc mx_X11_init) 159 = .ok (.aload_n 0, 1) := by decide +kernel
theorem dx_X11_init_160 : decode (go_cc mx_X11_init) 160 = .ok (.getfield 33, 3) := by decide +kernel
theorem dx_X11_init_163 : decode (go_cc mx_X11_init) 163 = .ok (.aload_n 0, 1) := by decide +kernel
theorem dx_X11_init_164 : decode (go_cc mx_X11_init) 164 = .ok (.getfield 73, 3) := by decide +kernel
theorem dx_X11_init_167 : decode (go_cc mx_X11_init) 167 = .ok (.aload_n 0, 1) := by decide +kernel
theorem dx_X11_init_168 : decode (go_cc mx_X11_init) 168 = .ok (.getfield 19, 3) := by decide +kernel
theorem dx_X11_init_171 : decode (go_cc mx_X11_init) 171 = .ok (.invokespecial 81, 3) := by decide +kernel
theorem dx_X11_init_174 : decode (go_cc mx_X11_init) 174 = .ok (.putfield 84, 3) := by decide +kernel
theorem dx_X11_init_177 : decode (go_cc mx_X11_init) 177 = .ok (.aload_n 0, 1) := by decide +kernel
theorem dx_X11_init_178 : decode (go_cc mx_X11_init) 178 = .ok (.new 88, 3) := by decide +kernel
theorem dx_X11_init_181 : decode (go_cc mx_X11_init) 181 = .ok (.dup, 1) := by decide +kernel
theorem dx_X11_init_182 : decode (go_cc mx_X11_init) 182 = .ok (.invokespecial 90, 3) := by decide +kernel
theorem dx_X11_init_185 : decode (go_cc mx_X11_init) 185 = .ok (.putfield 91, 3) := by decide +kernel
theorem dx_X11_init_188 : decode (go_cc mx_X11_init) 188 = .ok (.aload_n 0, 1) := by decide +kernel
theorem dx_X11_init_189 : decode (go_cc mx_X11_init) 189 = .ok (.new 30, 3) := by decide +kernel
theorem dx_X11_init_192 : decode (go_cc mx_X11_init) 192 = .ok (.dup, 1) := by decide +kernel
theorem dx_X11_init_193 : decode (go_cc mx_X11_init) 193 = .ok (.invokespecial 32, 3) := by decide +kernel
theorem dx_X11_init_196 : decode (go_cc mx_X11_init) 196 = .ok (.putfield 95, 3) := by decide +kernel
theorem dx_X11_init_199 : decode (go_cc mx_X11_init) 199 = .ok (.aload_n 0, 1) := by decide +kernel
theorem dx_X11_init_200 : decode (go_cc mx_X11_init) 200 = .ok (.new 37, 3) := by decide +kernel
theorem dx_X11_init_203 : decode (go_cc mx_X11_init) 203 = .ok (.dup, 1) := by decide +kernel
theorem dx_X11_init_204 : decode (go_cc mx_X11_init) 204 = .ok (.iconst 0, 1) := by decide +kernel
theorem dx_X11_init_205 : decode (go_cc mx_X11_init) 205 = .ok (.invokespecial 39, 3) := by decide +kernel
theorem dx_X11_init_208 : decode (go_cc mx_X11_init) 208 = .ok (.putfield 98, 3) := by decide +kernel
theorem dx_X11_init_211 : decode (go_cc mx_X11_init) 211 = .ok (.aload_n 0, 1) := by decide +kernel
theorem dx_X11_init_212 : decode (go_cc mx_X11_init) 212 = .ok (.bipush 60, 2) := by decide +kernel
theorem dx_X11_init_214 : decode (go_cc mx_X11_init) 214 = .ok (.newarray .long, 2) := by decide +kernel
theorem dx_X11_init_216 : decode (go_cc mx_X11_init) 216 = .ok (.putfield 101, 3) := by decide +kernel
theorem dx_X11_init_219 : decode (go_cc mx_X11_init) 219 = .ok (.aload_n 0, 1) := by decide +kernel
theorem dx_X11_init_220 : decode (go_cc mx_X11_init) 220 = .ok (.iconst 3, 1) := by decide +kernel
theorem dx_X11_init_221 : decode (go_cc mx_X11_init) 221 = .ok (.newarray .int, 2) := by decide +kernel
theorem dx_X11_init_223 : decode (go_cc mx_X11_init) 223 = .ok (.putfield 105, 3) := by decide +kernel
theorem dx_X11_init_226 : decode (go_cc mx_X11_init) 226 = .ok (.iconst 0, 1) := by decide +kernel
theorem dx_X11_init_227 : decode (go_cc mx_X11_init) 227 = .ok (.istore_n 1, 1) := by decide +kernel
theorem dx_X11_init_228 : decode (go_cc mx_X11_init) 228 = .ok (.iload_n 1, 1) := by decide +kernel
theorem dx_X11_init_229 : decode (go_cc mx_X11_init) 229 = .ok (.aload_n 0, 1) := by decide +kernel
theorem dx_X11_init_230 : decode (go_cc mx_X11_init) 230 = .ok (.getfield 105, 3) := by decide +kernel
theorem dx_X11_init_233 : decode (go_cc mx_X11_init) 233 = .ok (.arraylength, 1) := by decide +kernel
theorem dx_X11_init_234 : decode (go_cc mx_X11_init) 234 = .ok (.if_icmp .ge 16, 3) := by decide +kernel
theorem dx_X11_init_237 : decode (go_cc mx_X11_init) 237 = .ok (.aload_n 0, 1) := by decide +kernel
theorem dx_X11_init_238 : decode (go_cc mx_X11_init) 238 = .ok (.getfield 105, 3) := by decide +kernel
theorem dx_X11_init_241 : decode (go_cc mx_X11_init) 241 = .ok (.iload_n 1, 1) := by decide +kernel
theorem dx_X11_init_242 : decode (go_cc mx_X11_init) 242 = .ok (.iconst (-1), 1) := by decide +kernel
theorem dx_X11_init_243 : decode (go_cc mx_X11_init) 243 = .ok (.iastore, 1) := by decide +kernel
theorem dx_X11_init_244 : decode (go_cc mx_X11_init) 244 = .ok (.iinc 1 1, 3) := by decide +kernel
theorem dx_X11_init_247 : decode (go_cc mx_X11_init) 247 = .ok (.goto (-19), 3) := by decide +kernel
theorem dx_X11_init_250 : decode (go_cc mx_X11_init) 250 = .ok (.aload_n 0, 1) := by decide +kernel
theorem dx_X11_init_251 : decode (go_cc mx_X11_init) 251 = .ok (.iconst 1, 1) := by decide +kernel
theorem dx_X11_init_252 : decode (go_cc mx_X11_init) 252 = .ok (.putfield 109, 3) := by decide +kernel
theorem dx_X11_init_255 : decode (go_cc mx_X11_init) 255 = .ok (.aload_n 0, 1) := by decide +kernel
theorem dx_X11_init_256 : decode (go_cc mx_X11_init) 256 = .ok (.iconst 0, 1) := by decide +kernel
theorem dx_X11_init_257 : decode (go_cc mx_X11_init) 257 = .ok (.putfield 113, 3) := by decide +kernel
theorem dx_X11_init_260 : decode (go_cc mx_X11_init) 260 = .ok (.return_, 1) := by decide +kernel
theorem dx_X11_feed_0 : decode (go_cc mx_X11_feed) 0 = .ok (.aload_n 0, 1) := by decide +kernel
theorem dx_X11_feed_1 : decode (go_cc mx_X11_feed) 1 = .ok (.getfield 12, 3) := by decide +kernel
theorem dx_X11_feed_4 : decode (go_cc mx_X11_feed) 4 = .ok (.getfield 116, 3) := by decide +kernel
theorem dx_X11_feed_7 : decode (go_cc mx_X11_feed) 7 = .ok (.bipush 20, 2) := by decide +kernel
theorem dx_X11_feed_9 : decode (go_cc mx_X11_feed) 9 = .ok (.if_icmp .le 6, 3) := by decide +kernel
theorem dx_X11_feed_12 : decode (go_cc mx_X11_feed) 12 = .ok (.bipush (-4), 2) := by decide +kernel
theorem dx_X11_feed_14 : decode (go_cc mx_X11_feed) 14 = .ok (.ireturn, 1) := by decide +kernel
theorem dx_X11_feed_15 : decode (go_cc mx_X11_feed) 15 = .ok (.aload_n 0, 1) := by decide +kernel
theorem dx_X11_feed_16 : decode (go_cc mx_X11_feed) 16 = .ok (.getfield 12, 3) := by decide +kernel
theorem dx_X11_feed_19 : decode (go_cc mx_X11_feed) 19 = .ok (.iload_n 1, 1) := by decide +kernel
theorem dx_X11_feed_20 : decode (go_cc mx_X11_feed) 20 = .ok (.invokevirtual 119, 3) := by decide +kernel
theorem dx_X11_feed_23 : decode (go_cc mx_X11_feed) 23 = .ok (.aload_n 0, 1) := by decide +kernel
theorem dx_X11_feed_24 : decode (go_cc mx_X11_feed) 24 = .ok (.getfield 12, 3) := by decide +kernel
theorem dx_X11_feed_27 : decode (go_cc mx_X11_feed) 27 = .ok (.iload_n 2, 1) := by decide +kernel
theorem dx_X11_feed_28 : decode (go_cc mx_X11_feed) 28 = .ok (.invokevirtual 119, 3) := by decide +kernel
theorem dx_X11_feed_31 : decode (go_cc mx_X11_feed) 31 = .ok (.aload_n 0, 1) := by decide +kernel
theorem dx_X11_feed_32 : decode (go_cc mx_X11_feed) 32 = .ok (.getfield 12, 3) := by decide +kernel
theorem dx_X11_feed_35 : decode (go_cc mx_X11_feed) 35 = .ok (.iload_n 3, 1) := by decide +kernel
theorem dx_X11_feed_36 : decode (go_cc mx_X11_feed) 36 = .ok (.invokevirtual 119, 3) := by decide +kernel
theorem dx_X11_feed_39 : decode (go_cc mx_X11_feed) 39 = .ok (.aload_n 0, 1) := by decide +kernel
theorem dx_X11_feed_40 : decode (go_cc mx_X11_feed) 40 = .ok (.getfield 12, 3) := by decide +kernel
theorem dx_X11_feed_43 : decode (go_cc mx_X11_feed) 43 = .ok (.iload 4, 2) := by decide +kernel
theorem dx_X11_feed_45 : decode (go_cc mx_X11_feed) 45 = .ok (.invokevirtual 119, 3) := by decide +kernel
theorem dx_X11_feed_48 : decode (go_cc mx_X11_feed) 48 = .ok (.aload_n 0, 1) := by decide +kernel
theorem dx_X11_feed_49 : decode (go_cc mx_X11_feed) 49 = .ok (.getfield 12, 3) := by decide +kernel
theorem dx_X11_feed_52 : decode (go_cc mx_X11_feed) 52 = .ok (.iload 5, 2) := by decide +kernel
theorem dx_X11_feed_54 : decode (go_cc mx_X11_feed) 54 = .ok (.invokevirtual 119, 3) := by decide +kernel
theorem dx_X11_feed_57 : decode (go_cc mx_X11_feed) 57 = .ok (.aload_n 0, 1) := by decide +kernel
theorem dx_X11_feed_58 : decode (go_cc mx_X11_feed) 58 = .ok (.getfield 12, 3) := by decide +kernel
theorem dx_X11_feed_61 : decode (go_cc mx_X11_feed) 61 = .ok (.getfield 116, 3) := by decide +kernel
theorem dx_X11_feed_64 : decode (go_cc mx_X11_feed) 64 = .ok (.ireturn, 1) := by decide +kernel
theorem dx_X11_rule_0 : decode (go_cc mx_X11_rule) 0 = .ok (.iload_n 1, 1) := by decide +kernel
theorem dx_X11_rule_1 : decode (go_cc mx_X11_rule) 1 = .ok (.ifCond .lt 14, 3) := by decide +kernel
theorem dx_X11_rule_4 : decode (go_cc mx_X11_rule) 4 = .ok (.iload_n 1, 1) := by decide +kernel
theorem dx_X11_rule_5 : decode (go_cc mx_X11_rule) 5 = .ok (.aload_n 0, 1) := by decide +kernel
theorem dx_X11_rule_6 : decode (go_cc mx_X11_rule) 6 = .ok (.getfield 12, 3) := by decide +kernel
theorem dx_X11_rule_9 : decode (go_cc mx_X11_rule) 9 = .ok (.getfield 116, 3) := by decide +kernel
theorem dx_X11_rule_12 : decode (go_cc mx_X11_rule) 12 = .ok (.if_icmp .le 6, 3) := by decide +kernel
theorem dx_X11_rule_15 : decode (go_cc mx_X11_rule) 15 = .ok (.bipush (-3), 2) := by decide +kernel
theorem dx_X11_rule_17 : decode (go_cc mx_X11_rule) 17 = .ok (.ireturn, 1) := by decide +kernel
theorem dx_X11_rule_18 : decode (go_cc mx_X11_rule) 18 = .ok (.aload_n 0, 1) := by decide +kernel
theorem dx_X11_rule_19 : decode (go_cc mx_X11_rule) 19 = .ok (.getfield 19, 3) := by decide +kernel
theorem dx_X11_rule_22 : decode (go_cc mx_X11_rule) 22 = .ok (.invokevirtual 123, 3) := by decide +kernel
theorem dx_X11_rule_25 : decode (go_cc mx_X11_rule) 25 = .ok (.iconst (-1), 1) := by decide +kernel
theorem dx_X11_rule_26 : decode (go_cc mx_X11_rule) 26 = .ok (.if_icmp .ne 6, 3) := by decide +kernel
theorem dx_X11_rule_29 : decode (go_cc mx_X11_rule) 29 = .ok (.bipush (-4), 2) := by decide +kernel
theorem dx_X11_rule_31 : decode (go_cc mx_X11_rule) 31 = .ok (.ireturn, 1) := by decide +kernel
theorem dx_X11_rule_32 : decode (go_cc mx_X11_rule) 32 = .ok (.aload_n 0, 1) := by decide +kernel
theorem dx_X11_rule_33 : decode (go_cc mx_X11_rule) 33 = .ok (.getfield 12, 3) := by decide +kernel
theorem dx_X11_rule_36 : decode (go_cc mx_X11_rule) 36 = .ok (.iload_n 1, 1) := by decide +kernel
theorem dx_X11_rule_37 : decode (go_cc mx_X11_rule) 37 = .ok (.invokevirtual 127, 3) := by decide +kernel
theorem dx_X11_rule_40 : decode (go_cc mx_X11_rule) 40 = .ok (.istore_n 2, 1) := by decide +kernel
theorem dx_X11_rule_41 : decode (go_cc mx_X11_rule) 41 = .ok (.aload_n 0, 1) := by decide +kernel
theorem dx_X11_rule_42 : decode (go_cc mx_X11_rule) 42 = .ok (.getfield 12, 3) := by decide +kernel
theorem dx_X11_rule_45 : decode (go_cc mx_X11_rule) 45 = .ok (.getfield 131, 3) := by decide +kernel
theorem dx_X11_rule_48 : decode (go_cc mx_X11_rule) 48 = .ok (.ifCond .eq 14, 3) := by decide +kernel
theorem dx_X11_rule_51 : decode (go_cc mx_X11_rule) 51 = .ok (.bipush (-30), 2) := by decide +kernel
theorem dx_X11_rule_53 : decode (go_cc mx_X11_rule) 53 = .ok (.aload_n 0, 1) := by decide +kernel
theorem dx_X11_rule_54 : decode (go_cc mx_X11_rule) 54 = .ok (.getfield 12, 3) := by decide +kernel
theorem dx_X11_rule_57 : decode (go_cc mx_X11_rule) 57 = .ok (.getfield 131, 3) := by decide +kernel
theorem dx_X11_rule_60 : decode (go_cc mx_X11_rule) 60 = .ok (.isub, 1) := by decide +kernel
theorem dx_X11_rule_61 : decode (go_cc mx_X11_rule) 61 = .ok (.ireturn, 1) := by decide +kernel
theorem dx_X11_rule_62 : decode (go_cc mx_X11_rule) 62 = .ok (.aload_n 0, 1) := by decide +kernel
theorem dx_X11_rule_63 : decode (go_cc mx_X11_rule) 63 = .ok (.getfield 19, 3) := by decide +kernel
theorem dx_X11_rule_66 : decode (go_cc mx_X11_rule) 66 = .ok (.iload_n 2, 1) := by decide +kernel
theorem dx_X11_rule_67 : decode (go_cc mx_X11_rule) 67 = .ok (.invokevirtual 134, 3) := by decide +kernel
theorem dx_X11_rule_70 : decode (go_cc mx_X11_rule) 70 = .ok (.ifCond .eq 6, 3) := by decide +kernel
theorem dx_X11_rule_73 : decode (go_cc mx_X11_rule) 73 = .ok (.bipush (-5), 2) := by decide +kernel
theorem dx_X11_rule_75 : decode (go_cc mx_X11_rule) 75 = .ok (.ireturn, 1) := by decide +kernel
theorem dx_X11_rule_76 : decode (go_cc mx_X11_rule) 76 = .ok (.aload_n 0, 1) := by decide +kernel
theorem dx_X11_rule_77 : decode (go_cc mx_X11_rule) 77 = .ok (.invokevirtual 138, 3) := by decide +kernel
theorem dx_X11_rule_80 : decode (go_cc mx_X11_rule) 80 = .ok (.aload_n 0, 1) := by decide +kernel
theorem dx_X11_rule_81 : decode (go_cc mx_X11_rule) 81 = .ok (.getfield 19, 3) := by decide +kernel
theorem dx_X11_rule_84 : decode (go_cc mx_X11_rule) 84 = .ok (.invokevirtual 123, 3) := by decide +kernel
theorem dx_X11_rule_87 : decode (go_cc mx_X11_rule) 87 = .ok (.istore_n 3, 1) := by decide +kernel
theorem dx_X11_rule_88 : decode (go_cc mx_X11_rule) 88 = .ok (.aload_n 0, 1) := by decide +kernel
theorem dx_X11_rule_89 : decode (go_cc mx_X11_rule) 89 = .ok (.getfield 19, 3) := by decide +kernel
theorem dx_X11_rule_92 : decode (go_cc mx_X11_rule) 92 = .ok (.iload_n 3, 1) := by decide +kernel
theorem dx_X11_rule_93 : decode (go_cc mx_X11_rule) 93 = .ok (.iload_n 2, 1) := by decide +kernel
theorem dx_X11_rule_94 : decode (go_cc mx_X11_rule) 94 = .ok (.invokevirtual 141, 3) := by decide +kernel
theorem dx_X11_rule_97 : decode (go_cc mx_X11_rule) 97 = .ok (.iload_n 3, 1) := by decide +kernel
theorem dx_X11_rule_98 : decode (go_cc mx_X11_rule) 98 = .ok (.ireturn, 1) := by decide +kernel
theorem dx_X11_word_0 : decode (go_cc mx_X11_word) 0 = .ok (.iload_n 1, 1) := by decide +kernel
theorem dx_X11_word_1 : decode (go_cc mx_X11_word) 1 = .ok (.ifCond .lt 14, 3) := by decide +kernel
theorem dx_X11_word_4 : decode (go_cc mx_X11_word) 4 = .ok (.iload_n 1, 1) := by decide +kernel
theorem dx_X11_word_5 : decode (go_cc mx_X11_word) 5 = .ok (.aload_n 0, 1) := by decide +kernel
theorem dx_X11_word_6 : decode (go_cc mx_X11_word) 6 = .ok (.getfield 12, 3) := by decide +kernel
theorem dx_X11_word_9 : decode (go_cc mx_X11_word) 9 = .ok (.getfield 116, 3) := by decide +kernel
theorem dx_X11_word_12 : decode (go_cc mx_X11_word) 12 = .ok (.if_icmp .le 6, 3) := by decide +kernel
theorem dx_X11_word_15 : decode (go_cc mx_X11_word) 15 = .ok (.bipush (-3), 2) := by decide +kernel
theorem dx_X11_word_17 : decode (go_cc mx_X11_word) 17 = .ok (.ireturn, 1) := by decide +kernel
theorem dx_X11_word_18 : decode (go_cc mx_X11_word) 18 = .ok (.aload_n 0, 1) := by decide +kernel
theorem dx_X11_word_19 : decode (go_cc mx_X11_word) 19 = .ok (.getfield 12, 3) := by decide +kernel
theorem dx_X11_word_22 : decode (go_cc mx_X11_word) 22 = .ok (.iload_n 1, 1) := by decide +kernel
theorem dx_X11_word_23 : decode (go_cc mx_X11_word) 23 = .ok (.invokevirtual 145, 3) := by decide +kernel
theorem dx_X11_word_26 : decode (go_cc mx_X11_word) 26 = .ok (.lstore_n 2, 1) := by decide +kernel
theorem dx_X11_word_27 : decode (go_cc mx_X11_word) 27 = .ok (.aload_n 0, 1) := by decide +kernel
theorem dx_X11_word_28 : decode (go_cc mx_X11_word) 28 = .ok (.getfield 12, 3) := by decide +kernel
theorem dx_X11_word_31 : decode (go_cc mx_X11_word) 31 = .ok (.getfield 131, 3) := by decide +kernel
theorem dx_X11_word_34 : decode (go_cc mx_X11_word) 34 = .ok (.ifCond .eq 14, 3) := by decide +kernel
theorem dx_X11_word_37 : decode (go_cc mx_X11_word) 37 = .ok (.bipush (-30), 2) := by decide +kernel
theorem dx_X11_word_39 : decode (go_cc mx_X11_word) 39 = .ok (.aload_n 0, 1) := by decide +kernel
theorem dx_X11_word_40 : decode (go_cc mx_X11_word) 40 = .ok (.getfield 12, 3) := by decide +kernel
theorem dx_X11_word_43 : decode (go_cc mx_X11_word) 43 = .ok (.getfield 131, 3) := by decide +kernel
theorem dx_X11_word_46 : decode (go_cc mx_X11_word) 46 = .ok (.isub, 1) := by decide +kernel
theorem dx_X11_word_47 : decode (go_cc mx_X11_word) 47 = .ok (.ireturn, 1) := by decide +kernel
theorem dx_X11_word_48 : decode (go_cc mx_X11_word) 48 = .ok (.aload_n 0, 1) := by decide +kernel
theorem dx_X11_word_49 : decode (go_cc mx_X11_word) 49 = .ok (.invokevirtual 138, 3) := by decide +kernel
theorem dx_X11_word_52 : decode (go_cc mx_X11_word) 52 = .ok (.aload_n 0, 1) := by decide +kernel
theorem dx_X11_word_53 : decode (go_cc mx_X11_word) 53 = .ok (.getfield 19, 3) := by decide +kernel
theorem dx_X11_word_56 : decode (go_cc mx_X11_word) 56 = .ok (.lload_n 2, 1) := by decide +kernel
theorem dx_X11_word_57 : decode (go_cc mx_X11_word) 57 = .ok (.iload_n 1, 1) := by decide +kernel
theorem dx_X11_word_58 : decode (go_cc mx_X11_word) 58 = .ok (.invokevirtual 149, 3) := by decide +kernel
theorem dx_X11_word_61 : decode (go_cc mx_X11_word) 61 = .ok (.iload_n 1, 1) := by decide +kernel
theorem dx_X11_word_62 : decode (go_cc mx_X11_word) 62 = .ok (.ireturn, 1) := by decide +kernel
theorem dx_X11_fault_0 : decode (go_cc mx_X11_fault) 0 = .ok (.iload_n 1, 1) := by decide +kernel
theorem dx_X11_fault_1 : decode (go_cc mx_X11_fault) 1 = .ok (.ifCond .ne 11, 3) := by decide +kernel
theorem dx_X11_fault_4 : decode (go_cc mx_X11_fault) 4 = .ok (.aload_n 0, 1) := by decide +kernel
theorem dx_X11_fault_5 : decode (go_cc mx_X11_fault) 5 = .ok (.getfield 12, 3) := by decide +kernel
theorem dx_X11_fault_8 : decode (go_cc mx_X11_fault) 8 = .ok (.getfield 131, 3) := by decide +kernel
theorem dx_X11_fault_11 : decode (go_cc mx_X11_fault) 11 = .ok (.ireturn, 1) := by decide +kernel
theorem dx_X11_fault_12 : decode (go_cc mx_X11_fault) 12 = .ok (.iload_n 1, 1) := by decide +kernel
theorem dx_X11_fault_13 : decode (go_cc mx_X11_fault) 13 = .ok (.iconst 1, 1) := by decide +kernel
theorem dx_X11_fault_14 : decode (go_cc mx_X11_fault) 14 = .ok (.if_icmp .ne 13, 3) := by decide +kernel
theorem dx_X11_fault_17 : decode (go_cc mx_X11_fault) 17 = .ok (.aload_n 0, 1) := by decide +kernel
theorem dx_X11_fault_18 : decode (go_cc mx_X11_fault) 18 = .ok (.getfield 12, 3) := by decide +kernel
theorem dx_X11_fault_21 : decode (go_cc mx_X11_fault) 21 = .ok (.getfield 153, 3) := by decide +kernel
theorem dx_X11_fault_24 : decode (go_cc mx_X11_fault) 24 = .ok (.goto 4, 3) := by decide +kernel
theorem dx_X11_fault_27 : decode (go_cc mx_X11_fault) 27 = .ok (.iconst (-1), 1) := by decide +kernel
theorem dx_X11_fault_28 : decode (go_cc mx_X11_fault) 28 = .ok (.ireturn, 1) := by decide +kernel
theorem dx_X11_drop_0 : decode (go_cc mx_X11_drop) 0 = .ok (.aload_n 0, 1) := by decide +kernel
theorem dx_X11_drop_1 : decode (go_cc mx_X11_drop) 1 = .ok (.getfield 19, 3) := by decide +kernel
theorem dx_X11_drop_4 : decode (go_cc mx_X11_drop) 4 = .ok (.iload_n 1, 1) := by decide +kernel
theorem dx_X11_drop_5 : decode (go_cc mx_X11_drop) 5 = .ok (.invokevirtual 156, 3) := by decide +kernel
theorem dx_X11_drop_8 : decode (go_cc mx_X11_drop) 8 = .ok (.ifCond .ne 6, 3) := by decide +kernel
theorem dx_X11_drop_11 : decode (go_cc mx_X11_drop) 11 = .ok (.bipush (-2), 2) := by decide +kernel
theorem dx_X11_drop_13 : decode (go_cc mx_X11_drop) 13 = .ok (.ireturn, 1) := by decide +kernel
theorem dx_X11_drop_14 : decode (go_cc mx_X11_drop) 14 = .ok (.aload_n 0, 1) := by decide +kernel
theorem dx_X11_drop_15 : decode (go_cc mx_X11_drop) 15 = .ok (.invokevirtual 138, 3) := by decide +kernel
theorem dx_X11_drop_18 : decode (go_cc mx_X11_drop) 18 = .ok (.aload_n 0, 1) := by decide +kernel
theorem dx_X11_drop_19 : decode (go_cc mx_X11_drop) 19 = .ok (.getfield 19, 3) := by decide +kernel
theorem dx_X11_drop_22 : decode (go_cc mx_X11_drop) 22 = .ok (.iload_n 1, 1) := by decide +kernel
theorem dx_X11_drop_23 : decode (go_cc mx_X11_drop) 23 = .ok (.iconst 0, 1) := by decide +kernel
theorem dx_X11_drop_24 : decode (go_cc mx_X11_drop) 24 = .ok (.invokevirtual 141, 3) := by decide +kernel
theorem dx_X11_drop_27 : decode (go_cc mx_X11_drop) 27 = .ok (.aload_n 0, 1) := by decide +kernel
theorem dx_X11_drop_28 : decode (go_cc mx_X11_drop) 28 = .ok (.getfield 19, 3) := by decide +kernel
theorem dx_X11_drop_31 : decode (go_cc mx_X11_drop) 31 = .ok (.invokevirtual 159, 3) := by decide +kernel
theorem dx_X11_drop_34 : decode (go_cc mx_X11_drop) 34 = .ok (.invokestatic 162, 3) := by decide +kernel
theorem dx_X11_drop_37 : decode (go_cc mx_X11_drop) 37 = .ok (.ireturn, 1) := by decide +kernel
theorem dx_X11_start_0 : decode (go_cc mx_X11_start) 0 = .ok (.aload_n 0, 1) := by decide +kernel
theorem dx_X11_start_1 : decode (go_cc mx_X11_start) 1 = .ok (.iload_n 1, 1) := by decide +kernel
theorem dx_X11_start_2 : decode (go_cc mx_X11_start) 2 = .ok (.invokevirtual 167, 3) := by decide +kernel
theorem dx_X11_start_5 : decode (go_cc mx_X11_start) 5 = .ok (.ifCond .ne 6, 3) := by decide +kernel
theorem dx_X11_start_8 : decode (go_cc mx_X11_start) 8 = .ok (.bipush (-2), 2) := by decide +kernel
theorem dx_X11_start_10 : decode (go_cc mx_X11_start) 10 = .ok (.ireturn, 1) := by decide +kernel
theorem dx_X11_start_11 : decode (go_cc mx_X11_start) 11 = .ok (.iload_n 1, 1) := by decide +kernel
theorem dx_X11_start_12 : decode (go_cc mx_X11_start) 12 = .ok (.aload_n 0, 1) := by decide +kernel
theorem dx_X11_start_13 : decode (go_cc mx_X11_start) 13 = .ok (.getfield 19, 3) := by decide +kernel
theorem dx_X11_start_16 : decode (go_cc mx_X11_start) 16 = .ok (.getfield 170, 3) := by decide +kernel
theorem dx_X11_start_19 : decode (go_cc mx_X11_start) 19 = .ok (.if_icmp .ne 6, 3) := by decide +kernel
theorem dx_X11_start_22 : decode (go_cc mx_X11_start) 22 = .ok (.bipush (-5), 2) := by decide +kernel
theorem dx_X11_start_24 : decode (go_cc mx_X11_start) 24 = .ok (.ireturn, 1) := by decide +kernel
theorem dx_X11_start_25 : decode (go_cc mx_X11_start) 25 = .ok (.aload_n 0, 1) := by decide +kernel
theorem dx_X11_start_26 : decode (go_cc mx_X11_start) 26 = .ok (.invokevirtual 138, 3) := by decide +kernel
theorem dx_X11_start_29 : decode (go_cc mx_X11_start) 29 = .ok (.aload_n 0, 1) := by decide +kernel
theorem dx_X11_start_30 : decode (go_cc mx_X11_start) 30 = .ok (.getfield 19, 3) := by decide +kernel
theorem dx_X11_start_33 : decode (go_cc mx_X11_start) 33 = .ok (.getfield 170, 3) := by decide +kernel
theorem dx_X11_start_36 : decode (go_cc mx_X11_start) 36 = .ok (.istore_n 2, 1) := by decide +kernel
theorem dx_X11_start_37 : decode (go_cc mx_X11_start) 37 = .ok (.aload_n 0, 1) := by decide +kernel
theorem dx_X11_start_38 : decode (go_cc mx_X11_start) 38 = .ok (.getfield 19, 3) := by decide +kernel
theorem dx_X11_start_41 : decode (go_cc mx_X11_start) 41 = .ok (.iload_n 1, 1) := by decide +kernel
theorem dx_X11_start_42 : decode (go_cc mx_X11_start) 42 = .ok (.putfield 170, 3) := by decide +kernel
theorem dx_X11_start_45 : decode (go_cc mx_X11_start) 45 = .ok (.iload_n 2, 1) := by decide +kernel
theorem dx_X11_start_46 : decode (go_cc mx_X11_start) 46 = .ok (.ireturn, 1) := by decide +kernel
theorem dx_X11_part_0 : decode (go_cc mx_X11_part) 0 = .ok (.aload_n 0, 1) := by decide +kernel
theorem dx_X11_part_1 : decode (go_cc mx_X11_part) 1 = .ok (.getfield 19, 3) := by decide +kernel
theorem dx_X11_part_4 : decode (go_cc mx_X11_part) 4 = .ok (.iload_n 1, 1) := by decide +kernel
theorem dx_X11_part_5 : decode (go_cc mx_X11_part) 5 = .ok (.invokevirtual 156, 3) := by decide +kernel
theorem dx_X11_part_8 : decode (go_cc mx_X11_part) 8 = .ok (.istore_n 3, 1) := by decide +kernel
theorem dx_X11_part_9 : decode (go_cc mx_X11_part) 9 = .ok (.iload_n 3, 1) := by decide +kernel
theorem dx_X11_part_10 : decode (go_cc mx_X11_part) 10 = .ok (.ifCond .ne 6, 3) := by decide +kernel
theorem dx_X11_part_13 : decode (go_cc mx_X11_part) 13 = .ok (.bipush (-2), 2) := by decide +kernel
theorem dx_X11_part_15 : decode (go_cc mx_X11_part) 15 = .ok (.ireturn, 1) := by decide +kernel
theorem dx_X11_part_16 : decode (go_cc mx_X11_part) 16 = .ok (.iload_n 2, 1) := by decide +kernel
theorem dx_X11_part_17 : decode (go_cc mx_X11_part) 17 = .ok (.iconst (-1), 1) := by decide +kernel
theorem dx_X11_part_18 : decode (go_cc mx_X11_part) 18 = .ok (.if_icmp .ge 6, 3) := by decide +kernel
theorem dx_X11_part_21 : decode (go_cc mx_X11_part) 21 = .ok (.bipush (-3), 2) := by decide +kernel
theorem dx_X11_part_23 : decode (go_cc mx_X11_part) 23 = .ok (.ireturn, 1) := by decide +kernel
theorem dx_X11_part_24 : decode (go_cc mx_X11_part) 24 = .ok (.iload_n 2, 1) := by decide +kernel
theorem dx_X11_part_25 : decode (go_cc mx_X11_part) 25 = .ok (.iconst (-1), 1) := by decide +kernel
theorem dx_X11_part_26 : decode (go_cc mx_X11_part) 26 = .ok (.if_icmp .ne 8, 3) := by decide +kernel
theorem dx_X11_part_29 : decode (go_cc mx_X11_part) 29 = .ok (.iload_n 3, 1) := by decide +kernel
theorem dx_X11_part_30 : decode (go_cc mx_X11_part) 30 = .ok (.invokestatic 173, 3) := by decide +kernel
theorem dx_X11_part_33 : decode (go_cc mx_X11_part) 33 = .ok (.ireturn, 1) := by decide +kernel
theorem dx_X11_part_34 : decode (go_cc mx_X11_part) 34 = .ok (.iload_n 2, 1) := by decide +kernel
theorem dx_X11_part_35 : decode (go_cc mx_X11_part) 35 = .ok (.iload_n 3, 1) := by decide +kernel
theorem dx_X11_part_36 : decode (go_cc mx_X11_part) 36 = .ok (.invokestatic 176, 3) := by decide +kernel
theorem dx_X11_part_39 : decode (go_cc mx_X11_part) 39 = .ok (.if_icmp .ge 11, 3) := by decide +kernel
theorem dx_X11_part_42 : decode (go_cc mx_X11_part) 42 = .ok (.iload_n 3, 1) := by decide +kernel
theorem dx_X11_part_43 : decode (go_cc mx_X11_part) 43 = .ok (.iload_n 2, 1) := by decide +kernel
theorem dx_X11_part_44 : decode (go_cc mx_X11_part) 44 = .ok (.invokestatic 179, 3) := by decide +kernel
theorem dx_X11_part_47 : decode (go_cc mx_X11_part) 47 = .ok (.goto 4, 3) := by decide +kernel
theorem dx_X11_part_50 : decode (go_cc mx_X11_part) 50 = .ok (.iconst (-1), 1) := by decide +kernel
theorem dx_X11_part_51 : decode (go_cc mx_X11_part) 51 = .ok (.ireturn, 1) := by decide +kernel
theorem dx_X11_pairs_0 : decode (go_cc mx_X11_pairs) 0 = .ok (.aload_n 0, 1) := by decide +kernel
theorem dx_X11_pairs_1 : decode (go_cc mx_X11_pairs) 1 = .ok (.invokevirtual 183, 3) := by decide +kernel
theorem dx_X11_pairs_4 : decode (go_cc mx_X11_pairs) 4 = .ok (.aload_n 0, 1) := by decide +kernel
theorem dx_X11_pairs_5 : decode (go_cc mx_X11_pairs) 5 = .ok (.getfield 33, 3) := by decide +kernel
theorem dx_X11_pairs_8 : decode (go_cc mx_X11_pairs) 8 = .ok (.getfield 186, 3) := by decide +kernel
theorem dx_X11_pairs_11 : decode (go_cc mx_X11_pairs) 11 = .ok (.ireturn, 1) := by decide +kernel
theorem dx_X11_pair_0 : decode (go_cc mx_X11_pair) 0 = .ok (.aload_n 0, 1) := by decide +kernel
theorem dx_X11_pair_1 : decode (go_cc mx_X11_pair) 1 = .ok (.invokevirtual 183, 3) := by decide +kernel
theorem dx_X11_pair_4 : decode (go_cc mx_X11_pair) 4 = .ok (.iload_n 1, 1) := by decide +kernel
theorem dx_X11_pair_5 : decode (go_cc mx_X11_pair) 5 = .ok (.ifCond .lt 14, 3) := by decide +kernel
theorem dx_X11_pair_8 : decode (go_cc mx_X11_pair) 8 = .ok (.iload_n 1, 1) := by decide +kernel
theorem dx_X11_pair_9 : decode (go_cc mx_X11_pair) 9 = .ok (.aload_n 0, 1) := by decide +kernel
theorem dx_X11_pair_10 : decode (go_cc mx_X11_pair) 10 = .ok (.getfield 33, 3) := by decide +kernel
theorem dx_X11_pair_13 : decode (go_cc mx_X11_pair) 13 = .ok (.getfield 186, 3) := by decide +kernel
theorem dx_X11_pair_16 : decode (go_cc mx_X11_pair) 16 = .ok (.if_icmp .lt 6, 3) := by decide +kernel
theorem dx_X11_pair_19 : decode (go_cc mx_X11_pair) 19 = .ok (.bipush (-2), 2) := by decide +kernel
theorem dx_X11_pair_21 : decode (go_cc mx_X11_pair) 21 = .ok (.ireturn, 1) := by decide +kernel
theorem dx_X11_pair_22 : decode (go_cc mx_X11_pair) 22 = .ok (.aload_n 0, 1) := by decide +kernel
theorem dx_X11_pair_23 : decode (go_cc mx_X11_pair) 23 = .ok (.getfield 33, 3) := by decide +kernel
theorem dx_X11_pair_26 : decode (go_cc mx_X11_pair) 26 = .ok (.getfield 189, 3) := by decide +kernel
theorem dx_X11_pair_29 : decode (go_cc mx_X11_pair) 29 = .ok (.iload_n 1, 1) := by decide +kernel
theorem dx_X11_pair_30 : decode (go_cc mx_X11_pair) 30 = .ok (.invokestatic 192, 3) := by decide +kernel
theorem dx_X11_pair_33 : decode (go_cc mx_X11_pair) 33 = .ok (.istore_n 3, 1) := by decide +kernel
theorem dx_X11_pair_34 : decode (go_cc mx_X11_pair) 34 = .ok (.iload_n 2, 1) := by decide +kernel
theorem dx_X11_pair_35 : decode (go_cc mx_X11_pair) 35 = .ok (.tableswitch 49 0 3 #[29, 34, 39, 44], 29) := by decide +kernel
theorem dx_X11_pair_64 : decode (go_cc mx_X11_pair) 64 = .ok (.iload_n 3, 1) := by decide +kernel
theorem dx_X11_pair_65 : decode (go_cc mx_X11_pair) 65 = .ok (.invokestatic 196, 3) := by decide +kernel
theorem dx_X11_pair_68 : decode (go_cc mx_X11_pair) 68 = .ok (.ireturn, 1) := by decide +kernel
theorem dx_X11_pair_69 : decode (go_cc mx_X11_pair) 69 = .ok (.iload_n 3, 1) := by decide +kernel
theorem dx_X11_pair_70 : decode (go_cc mx_X11_pair) 70 = .ok (.invokestatic 199, 3) := by decide +kernel
theorem dx_X11_pair_73 : decode (go_cc mx_X11_pair) 73 = .ok (.ireturn, 1) := by decide +kernel
theorem dx_X11_pair_74 : decode (go_cc mx_X11_pair) 74 = .ok (.iload_n 3, 1) := by decide +kernel
theorem dx_X11_pair_75 : decode (go_cc mx_X11_pair) 75 = .ok (.invokestatic 202, 3) := by decide +kernel
theorem dx_X11_pair_78 : decode (go_cc mx_X11_pair) 78 = .ok (.ireturn, 1) := by decide +kernel
theorem dx_X11_pair_79 : decode (go_cc mx_X11_pair) 79 = .ok (.iload_n 3, 1) := by decide +kernel
theorem dx_X11_pair_80 : decode (go_cc mx_X11_pair) 80 = .ok (.bipush 18, 2) := by decide +kernel
theorem dx_X11_pair_82 : decode (go_cc mx_X11_pair) 82 = .ok (.iushr, 1) := by decide +kernel
theorem dx_X11_pair_83 : decode (go_cc mx_X11_pair) 83 = .ok (.ireturn, 1) := by decide +kernel
theorem dx_X11_pair_84 : decode (go_cc mx_X11_pair) 84 = .ok (.bipush (-2), 2) := by decide +kernel
theorem dx_X11_pair_86 : decode (go_cc mx_X11_pair) 86 = .ok (.ireturn, 1) := by decide +kernel
theorem dx_X11_back_0 : decode (go_cc mx_X11_back) 0 = .ok (.aload_n 0, 1) := by decide +kernel
theorem dx_X11_back_1 : decode (go_cc mx_X11_back) 1 = .ok (.invokevirtual 183, 3) := by decide +kernel
theorem dx_X11_back_4 : decode (go_cc mx_X11_back) 4 = .ok (.iload_n 1, 1) := by decide +kernel
theorem dx_X11_back_5 : decode (go_cc mx_X11_back) 5 = .ok (.bipush 14, 2) := by decide +kernel
theorem dx_X11_back_7 : decode (go_cc mx_X11_back) 7 = .ok (.if_icmp .lt 11, 3) := by decide +kernel
theorem dx_X11_back_10 : decode (go_cc mx_X11_back) 10 = .ok (.aload_n 0, 1) := by decide +kernel
theorem dx_X11_back_11 : decode (go_cc mx_X11_back) 11 = .ok (.iload_n 1, 1) := by decide +kernel
theorem dx_X11_back_12 : decode (go_cc mx_X11_back) 12 = .ok (.invokevirtual 205, 3) := by decide +kernel
theorem dx_X11_back_15 : decode (go_cc mx_X11_back) 15 = .ok (.ifCond .ne 6, 3) := by decide +kernel
theorem dx_X11_back_18 : decode (go_cc mx_X11_back) 18 = .ok (.bipush (-2), 2) := by decide +kernel
theorem dx_X11_back_20 : decode (go_cc mx_X11_back) 20 = .ok (.ireturn, 1) := by decide +kernel
theorem dx_X11_back_21 : decode (go_cc mx_X11_back) 21 = .ok (.iload_n 2, 1) := by decide +kernel
theorem dx_X11_back_22 : decode (go_cc mx_X11_back) 22 = .ok (.ifCond .ne 18, 3) := by decide +kernel
theorem dx_X11_back_25 : decode (go_cc mx_X11_back) 25 = .ok (.aload_n 0, 1) := by decide +kernel
theorem dx_X11_back_26 : decode (go_cc mx_X11_back) 26 = .ok (.getfield 33, 3) := by decide +kernel
theorem dx_X11_back_29 : decode (go_cc mx_X11_back) 29 = .ok (.getfield 208, 3) := by decide +kernel
theorem dx_X11_back_32 : decode (go_cc mx_X11_back) 32 = .ok (.iload_n 1, 1) := by decide +kernel
theorem dx_X11_back_33 : decode (go_cc mx_X11_back) 33 = .ok (.bipush 14, 2) := by decide +kernel
theorem dx_X11_back_35 : decode (go_cc mx_X11_back) 35 = .ok (.isub, 1) := by decide +kernel
theorem dx_X11_back_36 : decode (go_cc mx_X11_back) 36 = .ok (.invokestatic 192, 3) := by decide +kernel
theorem dx_X11_back_39 : decode (go_cc mx_X11_back) 39 = .ok (.ireturn, 1) := by decide +kernel
theorem dx_X11_back_40 : decode (go_cc mx_X11_back) 40 = .ok (.iload_n 2, 1) := by decide +kernel
theorem dx_X11_back_41 : decode (go_cc mx_X11_back) 41 = .ok (.iconst 1, 1) := by decide +kernel
theorem dx_X11_back_42 : decode (go_cc mx_X11_back) 42 = .ok (.if_icmp .ne 20, 3) := by decide +kernel
theorem dx_X11_back_45 : decode (go_cc mx_X11_back) 45 = .ok (.aload_n 0, 1) := by decide +kernel
theorem dx_X11_back_46 : decode (go_cc mx_X11_back) 46 = .ok (.getfield 33, 3) := by decide +kernel
theorem dx_X11_back_49 : decode (go_cc mx_X11_back) 49 = .ok (.getfield 211, 3) := by decide +kernel
theorem dx_X11_back_52 : decode (go_cc mx_X11_back) 52 = .ok (.iload_n 1, 1) := by decide +kernel
theorem dx_X11_back_53 : decode (go_cc mx_X11_back) 53 = .ok (.bipush 14, 2) := by decide +kernel
theorem dx_X11_back_55 : decode (go_cc mx_X11_back) 55 = .ok (.isub, 1) := by decide +kernel
theorem dx_X11_back_56 : decode (go_cc mx_X11_back) 56 = .ok (.invokestatic 192, 3) := by decide +kernel
theorem dx_X11_back_59 : decode (go_cc mx_X11_back) 59 = .ok (.goto 5, 3) := by decide +kernel
theorem dx_X11_back_62 : decode (go_cc mx_X11_back) 62 = .ok (.bipush (-2), 2) := by decide +kernel
theorem dx_X11_back_64 : decode (go_cc mx_X11_back) 64 = .ok (.ireturn, 1) := by decide +kernel
theorem dx_X11_units_0 : decode (go_cc mx_X11_units) 0 = .ok (.aload_n 0, 1) := by decide +kernel
theorem dx_X11_units_1 : decode (go_cc mx_X11_units) 1 = .ok (.iload_n 1, 1) := by decide +kernel
theorem dx_X11_units_2 : decode (go_cc mx_X11_units) 2 = .ok (.invokevirtual 167, 3) := by decide +kernel
theorem dx_X11_units_5 : decode (go_cc mx_X11_units) 5 = .ok (.ifCond .ne 6, 3) := by decide +kernel
theorem dx_X11_units_8 : decode (go_cc mx_X11_units) 8 = .ok (.bipush (-2), 2) := by decide +kernel
theorem dx_X11_units_10 : decode (go_cc mx_X11_units) 10 = .ok (.ireturn, 1) := by decide +kernel
theorem dx_X11_units_11 : decode (go_cc mx_X11_units) 11 = .ok (.aload_n 0, 1) := by decide +kernel
theorem dx_X11_units_12 : decode (go_cc mx_X11_units) 12 = .ok (.invokevirtual 183, 3) := by decide +kernel
theorem dx_X11_units_15 : decode (go_cc mx_X11_units) 15 = .ok (.aload_n 0, 1) := by decide +kernel
theorem dx_X11_units_16 : decode (go_cc mx_X11_units) 16 = .ok (.getfield 33, 3) := by decide +kernel
theorem dx_X11_units_19 : decode (go_cc mx_X11_units) 19 = .ok (.getfield 214, 3) := by decide +kernel
theorem dx_X11_units_22 : decode (go_cc mx_X11_units) 22 = .ok (.iload_n 1, 1) := by decide +kernel
theorem dx_X11_units_23 : decode (go_cc mx_X11_units) 23 = .ok (.invokestatic 192, 3) := by decide +kernel
theorem dx_X11_units_26 : decode (go_cc mx_X11_units) 26 = .ok (.iconst 1, 1) := by decide +kernel
theorem dx_X11_units_27 : decode (go_cc mx_X11_units) 27 = .ok (.iload_n 1, 1) := by decide +kernel
theorem dx_X11_units_28 : decode (go_cc mx_X11_units) 28 = .ok (.ishl, 1) := by decide +kernel
theorem dx_X11_units_29 : decode (go_cc mx_X11_units) 29 = .ok (.ior, 1) := by decide +kernel
theorem dx_X11_units_30 : decode (go_cc mx_X11_units) 30 = .ok (.ireturn, 1) := by decide +kernel
theorem dx_X11_rounds_0 : decode (go_cc mx_X11_rounds) 0 = .ok (.aload_n 0, 1) := by decide +kernel
theorem dx_X11_rounds_1 : decode (go_cc mx_X11_rounds) 1 = .ok (.invokevirtual 183, 3) := by decide +kernel
theorem dx_X11_rounds_4 : decode (go_cc mx_X11_rounds) 4 = .ok (.iconst 0, 1) := by decide +kernel
theorem dx_X11_rounds_5 : decode (go_cc mx_X11_rounds) 5 = .ok (.istore_n 1, 1) := by decide +kernel
theorem dx_X11_rounds_6 : decode (go_cc mx_X11_rounds) 6 = .ok (.iconst 0, 1) := by decide +kernel
theorem dx_X11_rounds_7 : decode (go_cc mx_X11_rounds) 7 = .ok (.istore_n 2, 1) := by decide +kernel
theorem dx_X11_rounds_8 : decode (go_cc mx_X11_rounds) 8 = .ok (.iload_n 2, 1) := by decide +kernel
theorem dx_X11_rounds_9 : decode (go_cc mx_X11_rounds) 9 = .ok (.bipush 8, 2) := by decide +kernel
theorem dx_X11_rounds_11 : decode (go_cc mx_X11_rounds) 11 = .ok (.if_icmp .ge 27, 3) := by decide +kernel
theorem dx_X11_rounds_14 : decode (go_cc mx_X11_rounds) 14 = .ok (.iload_n 1, 1) := by decide +kernel
theorem dx_X11_rounds_15 : decode (go_cc mx_X11_rounds) 15 = .ok (.aload_n 0, 1) := by decide +kernel
theorem dx_X11_rounds_16 : decode (go_cc mx_X11_rounds) 16 = .ok (.getfield 33, 3) := by decide +kernel
theorem dx_X11_rounds_19 : decode (go_cc mx_X11_rounds) 19 = .ok (.getfield 214, 3) := by decide +kernel
theorem dx_X11_rounds_22 : decode (go_cc mx_X11_rounds) 22 = .ok (.iload_n 2, 1) := by decide +kernel
theorem dx_X11_rounds_23 : decode (go_cc mx_X11_rounds) 23 = .ok (.invokestatic 192, 3) := by decide +kernel
theorem dx_X11_rounds_26 : decode (go_cc mx_X11_rounds) 26 = .ok (.iconst 1, 1) := by decide +kernel
theorem dx_X11_rounds_27 : decode (go_cc mx_X11_rounds) 27 = .ok (.iload_n 2, 1) := by decide +kernel
theorem dx_X11_rounds_28 : decode (go_cc mx_X11_rounds) 28 = .ok (.ishl, 1) := by decide +kernel
theorem dx_X11_rounds_29 : decode (go_cc mx_X11_rounds) 29 = .ok (.iand, 1) := by decide +kernel
theorem dx_X11_rounds_30 : decode (go_cc mx_X11_rounds) 30 = .ok (.ior, 1) := by decide +kernel
theorem dx_X11_rounds_31 : decode (go_cc mx_X11_rounds) 31 = .ok (.istore_n 1, 1) := by decide +kernel
theorem dx_X11_rounds_32 : decode (go_cc mx_X11_rounds) 32 = .ok (.iinc 2 1, 3) := by decide +kernel
theorem dx_X11_rounds_35 : decode (go_cc mx_X11_rounds) 35 = .ok (.goto (-27), 3) := by decide +kernel
theorem dx_X11_rounds_38 : decode (go_cc mx_X11_rounds) 38 = .ok (.iload_n 1, 1) := by decide +kernel
theorem dx_X11_rounds_39 : decode (go_cc mx_X11_rounds) 39 = .ok (.ireturn, 1) := by decide +kernel
theorem dx_X11_least_0 : decode (go_cc mx_X11_least) 0 = .ok (.aload_n 0, 1) := by decide +kernel
theorem dx_X11_least_1 : decode (go_cc mx_X11_least) 1 = .ok (.invokevirtual 183, 3) := by decide +kernel
theorem dx_X11_least_4 : decode (go_cc mx_X11_least) 4 = .ok (.aload_n 0, 1) := by decide +kernel
theorem dx_X11_least_5 : decode (go_cc mx_X11_least) 5 = .ok (.iload_n 1, 1) := by decide +kernel
theorem dx_X11_least_6 : decode (go_cc mx_X11_least) 6 = .ok (.invokevirtual 205, 3) := by decide +kernel
theorem dx_X11_least_9 : decode (go_cc mx_X11_least) 9 = .ok (.ifCond .eq 17, 3) := by decide +kernel
theorem dx_X11_least_12 : decode (go_cc mx_X11_least) 12 = .ok (.aload_n 0, 1) := by decide +kernel
theorem dx_X11_least_13 : decode (go_cc mx_X11_least) 13 = .ok (.getfield 33, 3) := by decide +kernel
theorem dx_X11_least_16 : decode (go_cc mx_X11_least) 16 = .ok (.getfield 217, 3) := by decide +kernel
theorem dx_X11_least_19 : decode (go_cc mx_X11_least) 19 = .ok (.iload_n 1, 1) := by decide +kernel
theorem dx_X11_least_20 : decode (go_cc mx_X11_least) 20 = .ok (.invokestatic 192, 3) := by decide +kernel
theorem dx_X11_least_23 : decode (go_cc mx_X11_least) 23 = .ok (.goto 5, 3) := by decide +kernel
theorem dx_X11_least_26 : decode (go_cc mx_X11_least) 26 = .ok (.bipush (-2), 2) := by decide +kernel
theorem dx_X11_least_28 : decode (go_cc mx_X11_least) 28 = .ok (.ireturn, 1) := by decide +kernel
theorem dx_X11_reached_0 : decode (go_cc mx_X11_reached) 0 = .ok (.iload_n 1, 1) := by decide +kernel
theorem dx_X11_reached_1 : decode (go_cc mx_X11_reached) 1 = .ok (.ifCond .lt 8, 3) := by decide +kernel
theorem dx_X11_reached_4 : decode (go_cc mx_X11_reached) 4 = .ok (.iload_n 1, 1) := by decide +kernel
theorem dx_X11_reached_5 : decode (go_cc mx_X11_reached) 5 = .ok (.iconst 1, 1) := by decide +kernel
theorem dx_X11_reached_6 : decode (go_cc mx_X11_reached) 6 = .ok (.if_icmp .le 6, 3) := by decide +kernel
theorem dx_X11_reached_9 : decode (go_cc mx_X11_reached) 9 = .ok (.bipush (-2), 2) := by decide +kernel
theorem dx_X11_reached_11 : decode (go_cc mx_X11_reached) 11 = .ok (.ireturn, 1) := by decide +kernel
theorem dx_X11_reached_12 : decode (go_cc mx_X11_reached) 12 = .ok (.aload_n 0, 1) := by decide +kernel
theorem dx_X11_reached_13 : decode (go_cc mx_X11_reached) 13 = .ok (.invokevirtual 183, 3) := by decide +kernel
theorem dx_X11_reached_16 : decode (go_cc mx_X11_reached) 16 = .ok (.aload_n 0, 1) := by decide +kernel
theorem dx_X11_reached_17 : decode (go_cc mx_X11_reached) 17 = .ok (.getfield 33, 3) := by decide +kernel
theorem dx_X11_reached_20 : decode (go_cc mx_X11_reached) 20 = .ok (.aload_n 0, 1) := by decide +kernel
theorem dx_X11_reached_21 : decode (go_cc mx_X11_reached) 21 = .ok (.getfield 19, 3) := by decide +kernel
theorem dx_X11_reached_24 : decode (go_cc mx_X11_reached) 24 = .ok (.getfield 170, 3) := by decide +kernel
theorem dx_X11_reached_27 : decode (go_cc mx_X11_reached) 27 = .ok (.invokevirtual 220, 3) := by decide +kernel
theorem dx_X11_reached_30 : decode (go_cc mx_X11_reached) 30 = .ok (.istore_n 2, 1) := by decide +kernel
theorem dx_X11_reached_31 : decode (go_cc mx_X11_reached) 31 = .ok (.iload_n 1, 1) := by decide +kernel
theorem dx_X11_reached_32 : decode (go_cc mx_X11_reached) 32 = .ok (.ifCond .ne 7, 3) := by decide +kernel
theorem dx_X11_reached_35 : decode (go_cc mx_X11_reached) 35 = .ok (.iload_n 2, 1) := by decide +kernel
theorem dx_X11_reached_36 : decode (go_cc mx_X11_reached) 36 = .ok (.goto 17, 3) := by decide +kernel
theorem dx_X11_reached_39 : decode (go_cc mx_X11_reached) 39 = .ok (.iload_n 2, 1) := by decide +kernel
theorem dx_X11_reached_40 : decode (go_cc mx_X11_reached) 40 = .ok (.aload_n 0, 1) := by decide +kernel
theorem dx_X11_reached_41 : decode (go_cc mx_X11_reached) 41 = .ok (.getfield 33, 3) := by decide +kernel
theorem dx_X11_reached_44 : decode (go_cc mx_X11_reached) 44 = .ok (.getfield 223, 3) := by decide +kernel
theorem dx_X11_reached_47 : decode (go_cc mx_X11_reached) 47 = .ok (.ldc2_w 227, 3) := by decide +kernel
theorem dx_X11_reached_50 : decode (go_cc mx_X11_reached) 50 = .ok (.land, 1) := by decide +kernel
theorem dx_X11_reached_51 : decode (go_cc mx_X11_reached) 51 = .ok (.l2i, 1) := by decide +kernel
theorem dx_X11_reached_52 : decode (go_cc mx_X11_reached) 52 = .ok (.iand, 1) := by decide +kernel
theorem dx_X11_reached_53 : decode (go_cc mx_X11_reached) 53 = .ok (.ireturn, 1) := by decide +kernel
theorem dx_X11_cell_0 : decode (go_cc mx_X11_cell) 0 = .ok (.aload_n 0, 1) := by decide +kernel
theorem dx_X11_cell_1 : decode (go_cc mx_X11_cell) 1 = .ok (.invokevirtual 183, 3) := by decide +kernel
theorem dx_X11_cell_4 : decode (go_cc mx_X11_cell) 4 = .ok (.aload_n 0, 1) := by decide +kernel
theorem dx_X11_cell_5 : decode (go_cc mx_X11_cell) 5 = .ok (.getfield 42, 3) := by decide +kernel
theorem dx_X11_cell_8 : decode (go_cc mx_X11_cell) 8 = .ok (.iload_n 1, 1) := by decide +kernel
theorem dx_X11_cell_9 : decode (go_cc mx_X11_cell) 9 = .ok (.iload_n 2, 1) := by decide +kernel
theorem dx_X11_cell_10 : decode (go_cc mx_X11_cell) 10 = .ok (.invokevirtual 229, 3) := by decide +kernel
theorem dx_X11_cell_13 : decode (go_cc mx_X11_cell) 13 = .ok (.ifCond .eq 15, 3) := by decide +kernel
theorem dx_X11_cell_16 : decode (go_cc mx_X11_cell) 16 = .ok (.aload_n 0, 1) := by decide +kernel
theorem dx_X11_cell_17 : decode (go_cc mx_X11_cell) 17 = .ok (.getfield 42, 3) := by decide +kernel
theorem dx_X11_cell_20 : decode (go_cc mx_X11_cell) 20 = .ok (.iload_n 1, 1) := by decide +kernel
theorem dx_X11_cell_21 : decode (go_cc mx_X11_cell) 21 = .ok (.iload_n 2, 1) := by decide +kernel
theorem dx_X11_cell_22 : decode (go_cc mx_X11_cell) 22 = .ok (.invokevirtual 233, 3) := by decide +kernel
theorem dx_X11_cell_25 : decode (go_cc mx_X11_cell) 25 = .ok (.goto 6, 3) := by decide +kernel
theorem dx_X11_cell_28 : decode (go_cc mx_X11_cell) 28 = .ok (.ldc2_w 237, 3) := by decide +kernel
theorem dx_X11_cell_31 : decode (go_cc mx_X11_cell) 31 = .ok (.lreturn, 1) := by decide +kernel
theorem dx_X11_accepted_0 : decode (go_cc mx_X11_accepted) 0 = .ok (.aload_n 0, 1) := by decide +kernel
theorem dx_X11_accepted_1 : decode (go_cc mx_X11_accepted) 1 = .ok (.invokevirtual 183, 3) := by decide +kernel
theorem dx_X11_accepted_4 : decode (go_cc mx_X11_accepted) 4 = .ok (.aload_n 0, 1) := by decide +kernel
theorem dx_X11_accepted_5 : decode (go_cc mx_X11_accepted) 5 = .ok (.getfield 42, 3) := by decide +kernel
theorem dx_X11_accepted_8 : decode (go_cc mx_X11_accepted) 8 = .ok (.aload_n 0, 1) := by decide +kernel
theorem dx_X11_accepted_9 : decode (go_cc mx_X11_accepted) 9 = .ok (.getfield 19, 3) := by decide +kernel
theorem dx_X11_accepted_12 : decode (go_cc mx_X11_accepted) 12 = .ok (.getfield 170, 3) := by decide +kernel
theorem dx_X11_accepted_15 : decode (go_cc mx_X11_accepted) 15 = .ok (.iconst 0, 1) := by decide +kernel
theorem dx_X11_accepted_16 : decode (go_cc mx_X11_accepted) 16 = .ok (.aload_n 0, 1) := by decide +kernel
theorem dx_X11_accepted_17 : decode (go_cc mx_X11_accepted) 17 = .ok (.getfield 19, 3) := by decide +kernel
theorem dx_X11_accepted_20 : decode (go_cc mx_X11_accepted) 20 = .ok (.getfield 239, 3) := by decide +kernel
theorem dx_X11_accepted_23 : decode (go_cc mx_X11_accepted) 23 = .ok (.invokevirtual 242, 3) := by decide +kernel
theorem dx_X11_accepted_26 : decode (go_cc mx_X11_accepted) 26 = .ok (.ifCond .eq 7, 3) := by decide +kernel
theorem dx_X11_accepted_29 : decode (go_cc mx_X11_accepted) 29 = .ok (.iconst 1, 1) := by decide +kernel
theorem dx_X11_accepted_30 : decode (go_cc mx_X11_accepted) 30 = .ok (.goto 4, 3) := by decide +kernel
theorem dx_X11_accepted_33 : decode (go_cc mx_X11_accepted) 33 = .ok (.iconst 0, 1) := by decide +kernel
theorem dx_X11_accepted_34 : decode (go_cc mx_X11_accepted) 34 = .ok (.ireturn, 1) := by decide +kernel
theorem dx_X11_round_0 : decode (go_cc mx_X11_round) 0 = .ok (.aload_n 0, 1) := by decide +kernel
theorem dx_X11_round_1 : decode (go_cc mx_X11_round) 1 = .ok (.invokevirtual 183, 3) := by decide +kernel
theorem dx_X11_round_4 : decode (go_cc mx_X11_round) 4 = .ok (.aload_n 0, 1) := by decide +kernel
theorem dx_X11_round_5 : decode (go_cc mx_X11_round) 5 = .ok (.iload_n 1, 1) := by decide +kernel
theorem dx_X11_round_6 : decode (go_cc mx_X11_round) 6 = .ok (.invokevirtual 205, 3) := by decide +kernel
theorem dx_X11_round_9 : decode (go_cc mx_X11_round) 9 = .ok (.ifCond .eq 15, 3) := by decide +kernel
theorem dx_X11_round_12 : decode (go_cc mx_X11_round) 12 = .ok (.aload_n 0, 1) := by decide +kernel
theorem dx_X11_round_13 : decode (go_cc mx_X11_round) 13 = .ok (.getfield 42, 3) := by decide +kernel
theorem dx_X11_round_16 : decode (go_cc mx_X11_round) 16 = .ok (.iload_n 2, 1) := by decide +kernel
theorem dx_X11_round_17 : decode (go_cc mx_X11_round) 17 = .ok (.iload_n 3, 1) := by decide +kernel
theorem dx_X11_round_18 : decode (go_cc mx_X11_round) 18 = .ok (.invokevirtual 229, 3) := by decide +kernel
theorem dx_X11_round_21 : decode (go_cc mx_X11_round) 21 = .ok (.ifCond .ne 6, 3) := by decide +kernel
theorem dx_X11_round_24 : decode (go_cc mx_X11_round) 24 = .ok (.bipush (-2), 2) := by decide +kernel
theorem dx_X11_round_26 : decode (go_cc mx_X11_round) 26 = .ok (.ireturn, 1) := by decide +kernel
theorem dx_X11_round_27 : decode (go_cc mx_X11_round) 27 = .ok (.aload_n 0, 1) := by decide +kernel
theorem dx_X11_round_28 : decode (go_cc mx_X11_round) 28 = .ok (.getfield 42, 3) := by decide +kernel
theorem dx_X11_round_31 : decode (go_cc mx_X11_round) 31 = .ok (.iload_n 1, 1) := by decide +kernel
theorem dx_X11_round_32 : decode (go_cc mx_X11_round) 32 = .ok (.iload_n 2, 1) := by decide +kernel
theorem dx_X11_round_33 : decode (go_cc mx_X11_round) 33 = .ok (.iload_n 3, 1) := by decide +kernel
theorem dx_X11_round_34 : decode (go_cc mx_X11_round) 34 = .ok (.invokevirtual 242, 3) := by decide +kernel
theorem dx_X11_round_37 : decode (go_cc mx_X11_round) 37 = .ok (.ifCond .ne 5, 3) := by decide +kernel
theorem dx_X11_round_40 : decode (go_cc mx_X11_round) 40 = .ok (.iconst (-1), 1) := by decide +kernel
theorem dx_X11_round_41 : decode (go_cc mx_X11_round) 41 = .ok (.ireturn, 1) := by decide +kernel
theorem dx_X11_round_42 : decode (go_cc mx_X11_round) 42 = .ok (.aload_n 0, 1) := by decide +kernel
theorem dx_X11_round_43 : decode (go_cc mx_X11_round) 43 = .ok (.invokevirtual 246, 3) := by decide +kernel
theorem dx_X11_round_46 : decode (go_cc mx_X11_round) 46 = .ok (.aload_n 0, 1) := by decide +kernel
theorem dx_X11_round_47 : decode (go_cc mx_X11_round) 47 = .ok (.getfield 51, 3) := by decide +kernel
theorem dx_X11_round_50 : decode (go_cc mx_X11_round) 50 = .ok (.iload_n 1, 1) := by decide +kernel
theorem dx_X11_round_51 : decode (go_cc mx_X11_round) 51 = .ok (.iload_n 2, 1) := by decide +kernel
theorem dx_X11_round_52 : decode (go_cc mx_X11_round) 52 = .ok (.iload_n 3, 1) := by decide +kernel
theorem dx_X11_round_53 : decode (go_cc mx_X11_round) 53 = .ok (.invokevirtual 249, 3) := by decide +kernel
theorem dx_X11_round_56 : decode (go_cc mx_X11_round) 56 = .ok (.l2i, 1) := by decide +kernel
theorem dx_X11_round_57 : decode (go_cc mx_X11_round) 57 = .ok (.ireturn, 1) := by decide +kernel
theorem dx_X11_last_0 : decode (go_cc mx_X11_last) 0 = .ok (.aload_n 0, 1) := by decide +kernel
theorem dx_X11_last_1 : decode (go_cc mx_X11_last) 1 = .ok (.invokevirtual 183, 3) := by decide +kernel
theorem dx_X11_last_4 : decode (go_cc mx_X11_last) 4 = .ok (.aload_n 0, 1) := by decide +kernel
theorem dx_X11_last_5 : decode (go_cc mx_X11_last) 5 = .ok (.invokevirtual 246, 3) := by decide +kernel
theorem dx_X11_last_8 : decode (go_cc mx_X11_last) 8 = .ok (.ldc2_w 253, 3) := by decide +kernel
theorem dx_X11_last_11 : decode (go_cc mx_X11_last) 11 = .ok (.lstore_n 1, 1) := by decide +kernel
theorem dx_X11_last_12 : decode (go_cc mx_X11_last) 12 = .ok (.iconst 1, 1) := by decide +kernel
theorem dx_X11_last_13 : decode (go_cc mx_X11_last) 13 = .ok (.istore_n 3, 1) := by decide +kernel
theorem dx_X11_last_14 : decode (go_cc mx_X11_last) 14 = .ok (.iload_n 3, 1) := by decide +kernel
theorem dx_X11_last_15 : decode (go_cc mx_X11_last) 15 = .ok (.aload_n 0, 1) := by decide +kernel
theorem dx_X11_last_16 : decode (go_cc mx_X11_last) 16 = .ok (.getfield 19, 3) := by decide +kernel
theorem dx_X11_last_19 : decode (go_cc mx_X11_last) 19 = .ok (.getfield 239, 3) := by decide +kernel
theorem dx_X11_last_22 : decode (go_cc mx_X11_last) 22 = .ok (.if_icmp .gt 39, 3) := by decide +kernel
theorem dx_X11_last_25 : decode (go_cc mx_X11_last) 25 = .ok (.iconst 0, 1) := by decide +kernel
theorem dx_X11_last_26 : decode (go_cc mx_X11_last) 26 = .ok (.istore 4, 2) := by decide +kernel
theorem dx_X11_last_28 : decode (go_cc mx_X11_last) 28 = .ok (.iload 4, 2) := by decide +kernel
theorem dx_X11_last_30 : decode (go_cc mx_X11_last) 30 = .ok (.iload_n 3, 1) := by decide +kernel
theorem dx_X11_last_31 : decode (go_cc mx_X11_last) 31 = .ok (.if_icmp .ge 24, 3) := by decide +kernel
theorem dx_X11_last_34 : decode (go_cc mx_X11_last) 34 = .ok (.lload_n 1, 1) := by decide +kernel
theorem dx_X11_last_35 : decode (go_cc mx_X11_last) 35 = .ok (.aload_n 0, 1) := by decide +kernel
theorem dx_X11_last_36 : decode (go_cc mx_X11_last) 36 = .ok (.getfield 51, 3) := by decide +kernel
theorem dx_X11_last_39 : decode (go_cc mx_X11_last) 39 = .ok (.iload 4, 2) := by decide +kernel
theorem dx_X11_last_41 : decode (go_cc mx_X11_last) 41 = .ok (.iload_n 3, 1) := by decide +kernel
theorem dx_X11_last_42 : decode (go_cc mx_X11_last) 42 = .ok (.invokevirtual 255, 3) := by decide +kernel
theorem dx_X11_last_45 : decode (go_cc mx_X11_last) 45 = .ok (.invokestatic 258, 3) := by decide +kernel
theorem dx_X11_last_48 : decode (go_cc mx_X11_last) 48 = .ok (.lstore_n 1, 1) := by decide +kernel
theorem dx_X11_last_49 : decode (go_cc mx_X11_last) 49 = .ok (.iinc 4 1, 3) := by decide +kernel
theorem dx_X11_last_52 : decode (go_cc mx_X11_last) 52 = .ok (.goto (-24), 3) := by decide +kernel
theorem dx_X11_last_55 : decode (go_cc mx_X11_last) 55 = .ok (.iinc 3 1, 3) := by decide +kernel
theorem dx_X11_last_58 : decode (go_cc mx_X11_last) 58 = .ok (.goto (-44), 3) := by decide +kernel
theorem dx_X11_last_61 : decode (go_cc mx_X11_last) 61 = .ok (.lload_n 1, 1) := by decide +kernel
theorem dx_X11_last_62 : decode (go_cc mx_X11_last) 62 = .ok (.l2i, 1) := by decide +kernel
theorem dx_X11_last_63 : decode (go_cc mx_X11_last) 63 = .ok (.ireturn, 1) := by decide +kernel
theorem dx_X11_product_0 : decode (go_cc mx_X11_product) 0 = .ok (.aload_n 0, 1) := by decide +kernel
theorem dx_X11_product_1 : decode (go_cc mx_X11_product) 1 = .ok (.invokevirtual 183, 3) := by decide +kernel
theorem dx_X11_product_4 : decode (go_cc mx_X11_product) 4 = .ok (.aload_n 0, 1) := by decide +kernel
theorem dx_X11_product_5 : decode (go_cc mx_X11_product) 5 = .ok (.iload_n 1, 1) := by decide +kernel
theorem dx_X11_product_6 : decode (go_cc mx_X11_product) 6 = .ok (.invokevirtual 205, 3) := by decide +kernel
theorem dx_X11_product_9 : decode (go_cc mx_X11_product) 9 = .ok (.ifCond .eq 19, 3) := by decide +kernel
theorem dx_X11_product_12 : decode (go_cc mx_X11_product) 12 = .ok (.aload_n 0, 1) := by decide +kernel
theorem dx_X11_product_13 : decode (go_cc mx_X11_product) 13 = .ok (.iload_n 2, 1) := by decide +kernel
theorem dx_X11_product_14 : decode (go_cc mx_X11_product) 14 = .ok (.invokevirtual 205, 3) := by decide +kernel
theorem dx_X11_product_17 : decode (go_cc mx_X11_product) 17 = .ok (.ifCond .eq 11, 3) := by decide +kernel
theorem dx_X11_product_20 : decode (go_cc mx_X11_product) 20 = .ok (.aload_n 0, 1) := by decide +kernel
theorem dx_X11_product_21 : decode (go_cc mx_X11_product) 21 = .ok (.iload_n 3, 1) := by decide +kernel
theorem dx_X11_product_22 : decode (go_cc mx_X11_product) 22 = .ok (.invokevirtual 264, 3) := by decide +kernel
theorem dx_X11_product_25 : decode (go_cc mx_X11_product) 25 = .ok (.ifCond .ne 6, 3) := by decide +kernel
theorem dx_X11_product_28 : decode (go_cc mx_X11_product) 28 = .ok (.bipush (-2), 2) := by decide +kernel
theorem dx_X11_product_30 : decode (go_cc mx_X11_product) 30 = .ok (.ireturn, 1) := by decide +kernel
theorem dx_X11_product_31 : decode (go_cc mx_X11_product) 31 = .ok (.aload_n 0, 1) := by decide +kernel
theorem dx_X11_product_32 : decode (go_cc mx_X11_product) 32 = .ok (.getfield 42, 3) := by decide +kernel
theorem dx_X11_product_35 : decode (go_cc mx_X11_product) 35 = .ok (.iload_n 1, 1) := by decide +kernel
theorem dx_X11_product_36 : decode (go_cc mx_X11_product) 36 = .ok (.iload_n 3, 1) := by decide +kernel
theorem dx_X11_product_37 : decode (go_cc mx_X11_product) 37 = .ok (.invokevirtual 267, 3) := by decide +kernel
theorem dx_X11_product_40 : decode (go_cc mx_X11_product) 40 = .ok (.istore 4, 2) := by decide +kernel
theorem dx_X11_product_42 : decode (go_cc mx_X11_product) 42 = .ok (.iconst 0, 1) := by decide +kernel
theorem dx_X11_product_43 : decode (go_cc mx_X11_product) 43 = .ok (.istore 5, 2) := by decide +kernel
theorem dx_X11_product_45 : decode (go_cc mx_X11_product) 45 = .ok (.iload_n 3, 1) := by decide +kernel
theorem dx_X11_product_46 : decode (go_cc mx_X11_product) 46 = .ok (.iconst 1, 1) := by decide +kernel
theorem dx_X11_product_47 : decode (go_cc mx_X11_product) 47 = .ok (.iadd, 1) := by decide +kernel
theorem dx_X11_product_48 : decode (go_cc mx_X11_product) 48 = .ok (.istore 6, 2) := by decide +kernel
theorem dx_X11_product_50 : decode (go_cc mx_X11_product) 50 = .ok (.iload 6, 2) := by decide +kernel
theorem dx_X11_product_52 : decode (go_cc mx_X11_product) 52 = .ok (.aload_n 0, 1) := by decide +kernel
theorem dx_X11_product_53 : decode (go_cc mx_X11_product) 53 = .ok (.getfield 19, 3) := by decide +kernel
theorem dx_X11_product_56 : decode (go_cc mx_X11_product) 56 = .ok (.getfield 239, 3) := by decide +kernel
theorem dx_X11_product_59 : decode (go_cc mx_X11_product) 59 = .ok (.if_icmp .ge 34, 3) := by decide +kernel
theorem dx_X11_product_62 : decode (go_cc mx_X11_product) 62 = .ok (.iload 4, 2) := by decide +kernel
theorem dx_X11_product_64 : decode (go_cc mx_X11_product) 64 = .ok (.iload 6, 2) := by decide +kernel
theorem dx_X11_product_66 : decode (go_cc mx_X11_product) 66 = .ok (.iushr, 1) := by decide +kernel
theorem dx_X11_product_67 : decode (go_cc mx_X11_product) 67 = .ok (.iconst 1, 1) := by decide +kernel
theorem dx_X11_product_68 : decode (go_cc mx_X11_product) 68 = .ok (.iand, 1) := by decide +kernel
theorem dx_X11_product_69 : decode (go_cc mx_X11_product) 69 = .ok (.ifCond .eq 18, 3) := by decide +kernel
theorem dx_X11_product_72 : decode (go_cc mx_X11_product) 72 = .ok (.iload 5, 2) := by decide +kernel
theorem dx_X11_product_74 : decode (go_cc mx_X11_product) 74 = .ok (.aload_n 0, 1) := by decide +kernel
theorem dx_X11_product_75 : decode (go_cc mx_X11_product) 75 = .ok (.getfield 42, 3) := by decide +kernel
theorem dx_X11_product_78 : decode (go_cc mx_X11_product) 78 = .ok (.iload_n 2, 1) := by decide +kernel
theorem dx_X11_product_79 : decode (go_cc mx_X11_product) 79 = .ok (.iload 6, 2) := by decide +kernel
theorem dx_X11_product_81 : decode (go_cc mx_X11_product) 81 = .ok (.invokevirtual 267, 3) := by decide +kernel
theorem dx_X11_product_84 : decode (go_cc mx_X11_product) 84 = .ok (.ior, 1) := by decide +kernel
theorem dx_X11_product_85 : decode (go_cc mx_X11_product) 85 = .ok (.istore 5, 2) := by decide +kernel
theorem dx_X11_product_87 : decode (go_cc mx_X11_product) 87 = .ok (.iinc 6 1, 3) := by decide +kernel
theorem dx_X11_product_90 : decode (go_cc mx_X11_product) 90 = .ok (.goto (-40), 3) := by decide +kernel
theorem dx_X11_product_93 : decode (go_cc mx_X11_product) 93 = .ok (.iload 5, 2) := by decide +kernel
theorem dx_X11_product_95 : decode (go_cc mx_X11_product) 95 = .ok (.ireturn, 1) := by decide +kernel
theorem dx_X11_cuts_0 : decode (go_cc mx_X11_cuts) 0 = .ok (.aload_n 0, 1) := by decide +kernel
theorem dx_X11_cuts_1 : decode (go_cc mx_X11_cuts) 1 = .ok (.invokevirtual 183, 3) := by decide +kernel
theorem dx_X11_cuts_4 : decode (go_cc mx_X11_cuts) 4 = .ok (.aload_n 0, 1) := by decide +kernel
theorem dx_X11_cuts_5 : decode (go_cc mx_X11_cuts) 5 = .ok (.iload_n 1, 1) := by decide +kernel
theorem dx_X11_cuts_6 : decode (go_cc mx_X11_cuts) 6 = .ok (.invokevirtual 205, 3) := by decide +kernel
theorem dx_X11_cuts_9 : decode (go_cc mx_X11_cuts) 9 = .ok (.ifCond .eq 24, 3) := by decide +kernel
theorem dx_X11_cuts_12 : decode (go_cc mx_X11_cuts) 12 = .ok (.aload_n 0, 1) := by decide +kernel
theorem dx_X11_cuts_13 : decode (go_cc mx_X11_cuts) 13 = .ok (.iload_n 2, 1) := by decide +kernel
theorem dx_X11_cuts_14 : decode (go_cc mx_X11_cuts) 14 = .ok (.invokevirtual 205, 3) := by decide +kernel
theorem dx_X11_cuts_17 : decode (go_cc mx_X11_cuts) 17 = .ok (.ifCond .eq 16, 3) := by decide +kernel
theorem dx_X11_cuts_20 : decode (go_cc mx_X11_cuts) 20 = .ok (.aload_n 0, 1) := by decide +kernel
theorem dx_X11_cuts_21 : decode (go_cc mx_X11_cuts) 21 = .ok (.getfield 42, 3) := by decide +kernel
theorem dx_X11_cuts_24 : decode (go_cc mx_X11_cuts) 24 = .ok (.iload_n 3, 1) := by decide +kernel
theorem dx_X11_cuts_25 : decode (go_cc mx_X11_cuts) 25 = .ok (.iload 4, 2) := by decide +kernel
theorem dx_X11_cuts_27 : decode (go_cc mx_X11_cuts) 27 = .ok (.invokevirtual 229, 3) := by decide +kernel
theorem dx_X11_cuts_30 : decode (go_cc mx_X11_cuts) 30 = .ok (.ifCond .ne 6, 3) := by decide +kernel
theorem dx_X11_cuts_33 : decode (go_cc mx_X11_cuts) 33 = .ok (.bipush (-2), 2) := by decide +kernel
theorem dx_X11_cuts_35 : decode (go_cc mx_X11_cuts) 35 = .ok (.ireturn, 1) := by decide +kernel
theorem dx_X11_cuts_36 : decode (go_cc mx_X11_cuts) 36 = .ok (.iconst 0, 1) := by decide +kernel
theorem dx_X11_cuts_37 : decode (go_cc mx_X11_cuts) 37 = .ok (.istore 5, 2) := by decide +kernel
theorem dx_X11_cuts_39 : decode (go_cc mx_X11_cuts) 39 = .ok (.iload_n 3, 1) := by decide +kernel
theorem dx_X11_cuts_40 : decode (go_cc mx_X11_cuts) 40 = .ok (.iconst 1, 1) := by decide +kernel
theorem dx_X11_cuts_41 : decode (go_cc mx_X11_cuts) 41 = .ok (.iadd, 1) := by decide +kernel
theorem dx_X11_cuts_42 : decode (go_cc mx_X11_cuts) 42 = .ok (.istore 6, 2) := by decide +kernel
theorem dx_X11_cuts_44 : decode (go_cc mx_X11_cuts) 44 = .ok (.iload 6, 2) := by decide +kernel
theorem dx_X11_cuts_46 : decode (go_cc mx_X11_cuts) 46 = .ok (.iload 4, 2) := by decide +kernel
theorem dx_X11_cuts_48 : decode (go_cc mx_X11_cuts) 48 = .ok (.if_icmp .ge 41, 3) := by decide +kernel
theorem dx_X11_cuts_51 : decode (go_cc mx_X11_cuts) 51 = .ok (.aload_n 0, 1) := by decide +kernel
theorem dx_X11_cuts_52 : decode (go_cc mx_X11_cuts) 52 = .ok (.getfield 42, 3) := by decide +kernel
theorem dx_X11_cuts_55 : decode (go_cc mx_X11_cuts) 55 = .ok (.iload_n 1, 1) := by decide +kernel
theorem dx_X11_cuts_56 : decode (go_cc mx_X11_cuts) 56 = .ok (.iload_n 3, 1) := by decide +kernel
theorem dx_X11_cuts_57 : decode (go_cc mx_X11_cuts) 57 = .ok (.iload 6, 2) := by decide +kernel
theorem dx_X11_cuts_59 : decode (go_cc mx_X11_cuts) 59 = .ok (.invokevirtual 242, 3) := by decide +kernel
theorem dx_X11_cuts_62 : decode (go_cc mx_X11_cuts) 62 = .ok (.ifCond .eq 21, 3) := by decide +kernel
theorem dx_X11_cuts_65 : decode (go_cc mx_X11_cuts) 65 = .ok (.aload_n 0, 1) := by decide +kernel
theorem dx_X11_cuts_66 : decode (go_cc mx_X11_cuts) 66 = .ok (.getfield 42, 3) := by decide +kernel
theorem dx_X11_cuts_69 : decode (go_cc mx_X11_cuts) 69 = .ok (.iload_n 2, 1) := by decide +kernel
theorem dx_X11_cuts_70 : decode (go_cc mx_X11_cuts) 70 = .ok (.iload 6, 2) := by decide +kernel
theorem dx_X11_cuts_72 : decode (go_cc mx_X11_cuts) 72 = .ok (.iload 4, 2) := by decide +kernel
theorem dx_X11_cuts_74 : decode (go_cc mx_X11_cuts) 74 = .ok (.invokevirtual 242, 3) := by decide +kernel
theorem dx_X11_cuts_77 : decode (go_cc mx_X11_cuts) 77 = .ok (.ifCond .eq 6, 3) := by decide +kernel
theorem dx_X11_cuts_80 : decode (go_cc mx_X11_cuts) 80 = .ok (.iinc 5 1, 3) := by decide +kernel
theorem dx_X11_cuts_83 : decode (go_cc mx_X11_cuts) 83 = .ok (.iinc 6 1, 3) := by decide +kernel
theorem dx_X11_cuts_86 : decode (go_cc mx_X11_cuts) 86 = .ok (.goto (-42), 3) := by decide +kernel
theorem dx_X11_cuts_89 : decode (go_cc mx_X11_cuts) 89 = .ok (.iload 5, 2) := by decide +kernel
theorem dx_X11_cuts_91 : decode (go_cc mx_X11_cuts) 91 = .ok (.ireturn, 1) := by decide +kernel
theorem dx_X11_row_0 : decode (go_cc mx_X11_row) 0 = .ok (.aload_n 0, 1) := by decide +kernel
theorem dx_X11_row_1 : decode (go_cc mx_X11_row) 1 = .ok (.invokevirtual 183, 3) := by decide +kernel
theorem dx_X11_row_4 : decode (go_cc mx_X11_row) 4 = .ok (.aload_n 0, 1) := by decide +kernel
theorem dx_X11_row_5 : decode (go_cc mx_X11_row) 5 = .ok (.iload_n 1, 1) := by decide +kernel
theorem dx_X11_row_6 : decode (go_cc mx_X11_row) 6 = .ok (.invokevirtual 205, 3) := by decide +kernel
theorem dx_X11_row_9 : decode (go_cc mx_X11_row) 9 = .ok (.ifCond .eq 23, 3) := by decide +kernel
theorem dx_X11_row_12 : decode (go_cc mx_X11_row) 12 = .ok (.aload_n 0, 1) := by decide +kernel
theorem dx_X11_row_13 : decode (go_cc mx_X11_row) 13 = .ok (.iload_n 2, 1) := by decide +kernel
theorem dx_X11_row_14 : decode (go_cc mx_X11_row) 14 = .ok (.invokevirtual 264, 3) := by decide +kernel
theorem dx_X11_row_17 : decode (go_cc mx_X11_row) 17 = .ok (.ifCond .eq 15, 3) := by decide +kernel
theorem dx_X11_row_20 : decode (go_cc mx_X11_row) 20 = .ok (.aload_n 0, 1) := by decide +kernel
theorem dx_X11_row_21 : decode (go_cc mx_X11_row) 21 = .ok (.getfield 42, 3) := by decide +kernel
theorem dx_X11_row_24 : decode (go_cc mx_X11_row) 24 = .ok (.iload_n 1, 1) := by decide +kernel
theorem dx_X11_row_25 : decode (go_cc mx_X11_row) 25 = .ok (.iload_n 2, 1) := by decide +kernel
theorem dx_X11_row_26 : decode (go_cc mx_X11_row) 26 = .ok (.invokevirtual 267, 3) := by decide +kernel
theorem dx_X11_row_29 : decode (go_cc mx_X11_row) 29 = .ok (.goto 5, 3) := by decide +kernel
theorem dx_X11_row_32 : decode (go_cc mx_X11_row) 32 = .ok (.bipush (-2), 2) := by decide +kernel
theorem dx_X11_row_34 : decode (go_cc mx_X11_row) 34 = .ok (.ireturn, 1) := by decide +kernel
theorem dx_X11_spans_0 : decode (go_cc mx_X11_spans) 0 = .ok (.aload_n 0, 1) := by decide +kernel
theorem dx_X11_spans_1 : decode (go_cc mx_X11_spans) 1 = .ok (.invokevirtual 183, 3) := by decide +kernel
theorem dx_X11_spans_4 : decode (go_cc mx_X11_spans) 4 = .ok (.aload_n 0, 1) := by decide +kernel
theorem dx_X11_spans_5 : decode (go_cc mx_X11_spans) 5 = .ok (.iload_n 1, 1) := by decide +kernel
theorem dx_X11_spans_6 : decode (go_cc mx_X11_spans) 6 = .ok (.invokevirtual 205, 3) := by decide +kernel
theorem dx_X11_spans_9 : decode (go_cc mx_X11_spans) 9 = .ok (.ifCond .eq 12, 3) := by decide +kernel
theorem dx_X11_spans_12 : decode (go_cc mx_X11_spans) 12 = .ok (.iload_n 2, 1) := by decide +kernel
theorem dx_X11_spans_13 : decode (go_cc mx_X11_spans) 13 = .ok (.ifCond .lt 8, 3) := by decide +kernel
theorem dx_X11_spans_16 : decode (go_cc mx_X11_spans) 16 = .ok (.iload_n 2, 1) := by decide +kernel
theorem dx_X11_spans_17 : decode (go_cc mx_X11_spans) 17 = .ok (.iconst 2, 1) := by decide +kernel
theorem dx_X11_spans_18 : decode (go_cc mx_X11_spans) 18 = .ok (.if_icmp .le 6, 3) := by decide +kernel
theorem dx_X11_spans_21 : decode (go_cc mx_X11_spans) 21 = .ok (.bipush (-2), 2) := by decide +kernel
theorem dx_X11_spans_23 : decode (go_cc mx_X11_spans) 23 = .ok (.ireturn, 1) := by decide +kernel
theorem dx_X11_spans_24 : decode (go_cc mx_X11_spans) 24 = .ok (.iconst 0, 1) := by decide +kernel
theorem dx_X11_spans_25 : decode (go_cc mx_X11_spans) 25 = .ok (.istore_n 3, 1) := by decide +kernel
theorem dx_X11_spans_26 : decode (go_cc mx_X11_spans) 26 = .ok (.iconst 0, 1) := by decide +kernel
theorem dx_X11_spans_27 : decode (go_cc mx_X11_spans) 27 = .ok (.istore 4, 2) := by decide +kernel
theorem dx_X11_spans_29 : decode (go_cc mx_X11_spans) 29 = .ok (.iconst (-1), 1) := by decide +kernel
theorem dx_X11_spans_30 : decode (go_cc mx_X11_spans) 30 = .ok (.istore 5, 2) := by decide +kernel
theorem dx_X11_spans_32 : decode (go_cc mx_X11_spans) 32 = .ok (.iconst 0, 1) := by decide +kernel
theorem dx_X11_spans_33 : decode (go_cc mx_X11_spans) 33 = .ok (.istore 6, 2) := by decide +kernel
theorem dx_X11_spans_35 : decode (go_cc mx_X11_spans) 35 = .ok (.iload 6, 2) := by decide +kernel
theorem dx_X11_spans_37 : decode (go_cc mx_X11_spans) 37 = .ok (.aload_n 0, 1) := by decide +kernel
theorem dx_X11_spans_38 : decode (go_cc mx_X11_spans) 38 = .ok (.getfield 19, 3) := by decide +kernel
theorem dx_X11_spans_41 : decode (go_cc mx_X11_spans) 41 = .ok (.getfield 239, 3) := by decide +kernel
theorem dx_X11_spans_44 : decode (go_cc mx_X11_spans) 44 = .ok (.if_icmp .ge 60, 3) := by decide +kernel
theorem dx_X11_spans_47 : decode (go_cc mx_X11_spans) 47 = .ok (.aload_n 0, 1) := by decide +kernel
theorem dx_X11_spans_48 : decode (go_cc mx_X11_spans) 48 = .ok (.getfield 42, 3) := by decide +kernel
theorem dx_X11_spans_51 : decode (go_cc mx_X11_spans) 51 = .ok (.iload_n 1, 1) := by decide +kernel
theorem dx_X11_spans_52 : decode (go_cc mx_X11_spans) 52 = .ok (.iload 6, 2) := by decide +kernel
theorem dx_X11_spans_54 : decode (go_cc mx_X11_spans) 54 = .ok (.invokevirtual 267, 3) := by decide +kernel
theorem dx_X11_spans_57 : decode (go_cc mx_X11_spans) 57 = .ok (.istore 7, 2) := by decide +kernel
theorem dx_X11_spans_59 : decode (go_cc mx_X11_spans) 59 = .ok (.iload_n 3, 1) := by decide +kernel
theorem dx_X11_spans_60 : decode (go_cc mx_X11_spans) 60 = .ok (.iload 7, 2) := by decide +kernel
theorem dx_X11_spans_62 : decode (go_cc mx_X11_spans) 62 = .ok (.invokestatic 162, 3) := by decide +kernel
theorem dx_X11_spans_65 : decode (go_cc mx_X11_spans) 65 = .ok (.iadd, 1) := by decide +kernel
theorem dx_X11_spans_66 : decode (go_cc mx_X11_spans) 66 = .ok (.istore_n 3, 1) := by decide +kernel
theorem dx_X11_spans_67 : decode (go_cc mx_X11_spans) 67 = .ok (.bipush 31, 2) := by decide +kernel
theorem dx_X11_spans_69 : decode (go_cc mx_X11_spans) 69 = .ok (.iload 7, 2) := by decide +kernel
theorem dx_X11_spans_71 : decode (go_cc mx_X11_spans) 71 = .ok (.invokestatic 270, 3) := by decide +kernel
theorem dx_X11_spans_74 : decode (go_cc mx_X11_spans) 74 = .ok (.isub, 1) := by decide +kernel
theorem dx_X11_spans_75 : decode (go_cc mx_X11_spans) 75 = .ok (.istore 8, 2) := by decide +kernel
theorem dx_X11_spans_77 : decode (go_cc mx_X11_spans) 77 = .ok (.iload 8, 2) := by decide +kernel
theorem dx_X11_spans_79 : decode (go_cc mx_X11_spans) 79 = .ok (.iload 6, 2) := by decide +kernel
theorem dx_X11_spans_81 : decode (go_cc mx_X11_spans) 81 = .ok (.isub, 1) := by decide +kernel
theorem dx_X11_spans_82 : decode (go_cc mx_X11_spans) 82 = .ok (.iload 4, 2) := by decide +kernel
theorem dx_X11_spans_84 : decode (go_cc mx_X11_spans) 84 = .ok (.if_icmp .le 14, 3) := by decide +kernel
theorem dx_X11_spans_87 : decode (go_cc mx_X11_spans) 87 = .ok (.iload 8, 2) := by decide +kernel
theorem dx_X11_spans_89 : decode (go_cc mx_X11_spans) 89 = .ok (.iload 6, 2) := by decide +kernel
theorem dx_X11_spans_91 : decode (go_cc mx_X11_spans) 91 = .ok (.isub, 1) := by decide +kernel
theorem dx_X11_spans_92 : decode (go_cc mx_X11_spans) 92 = .ok (.istore 4, 2) := by decide +kernel
theorem dx_X11_spans_94 : decode (go_cc mx_X11_spans) 94 = .ok (.iload 6, 2) := by decide +kernel
theorem dx_X11_spans_96 : decode (go_cc mx_X11_spans) 96 = .ok (.istore 5, 2) := by decide +kernel
theorem dx_X11_spans_98 : decode (go_cc mx_X11_spans) 98 = .ok (.iinc 6 1, 3) := by decide +kernel
theorem dx_X11_spans_101 : decode (go_cc mx_X11_spans) 101 = .ok (.goto (-66), 3) := by decide +kernel
theorem dx_X11_spans_104 : decode (go_cc mx_X11_spans) 104 = .ok (.iload_n 2, 1) := by decide +kernel
theorem dx_X11_spans_105 : decode (go_cc mx_X11_spans) 105 = .ok (.ifCond .ne 5, 3) := by decide +kernel
theorem dx_X11_spans_108 : decode (go_cc mx_X11_spans) 108 = .ok (.iload_n 3, 1) := by decide +kernel
theorem dx_X11_spans_109 : decode (go_cc mx_X11_spans) 109 = .ok (.ireturn, 1) := by decide +kernel
theorem dx_X11_spans_110 : decode (go_cc mx_X11_spans) 110 = .ok (.iload_n 2, 1) := by decide +kernel
theorem dx_X11_spans_111 : decode (go_cc mx_X11_spans) 111 = .ok (.iconst 1, 1) := by decide +kernel
theorem dx_X11_spans_112 : decode (go_cc mx_X11_spans) 112 = .ok (.if_icmp .ne 8, 3) := by decide +kernel
theorem dx_X11_spans_115 : decode (go_cc mx_X11_spans) 115 = .ok (.iload 4, 2) := by decide +kernel
theorem dx_X11_spans_117 : decode (go_cc mx_X11_spans) 117 = .ok (.goto 5, 3) := by decide +kernel
theorem dx_X11_spans_120 : decode (go_cc mx_X11_spans) 120 = .ok (.iload 5, 2) := by decide +kernel
theorem dx_X11_spans_122 : decode (go_cc mx_X11_spans) 122 = .ok (.ireturn, 1) := by decide +kernel
theorem dx_X11_trees_0 : decode (go_cc mx_X11_trees) 0 = .ok (.aload_n 0, 1) := by decide +kernel
theorem dx_X11_trees_1 : decode (go_cc mx_X11_trees) 1 = .ok (.invokevirtual 183, 3) := by decide +kernel
theorem dx_X11_trees_4 : decode (go_cc mx_X11_trees) 4 = .ok (.aload_n 0, 1) := by decide +kernel
theorem dx_X11_trees_5 : decode (go_cc mx_X11_trees) 5 = .ok (.iload_n 1, 1) := by decide +kernel
theorem dx_X11_trees_6 : decode (go_cc mx_X11_trees) 6 = .ok (.invokevirtual 167, 3) := by decide +kernel
theorem dx_X11_trees_9 : decode (go_cc mx_X11_trees) 9 = .ok (.ifCond .eq 15, 3) := by decide +kernel
theorem dx_X11_trees_12 : decode (go_cc mx_X11_trees) 12 = .ok (.aload_n 0, 1) := by decide +kernel
theorem dx_X11_trees_13 : decode (go_cc mx_X11_trees) 13 = .ok (.getfield 42, 3) := by decide +kernel
theorem dx_X11_trees_16 : decode (go_cc mx_X11_trees) 16 = .ok (.iload_n 2, 1) := by decide +kernel
theorem dx_X11_trees_17 : decode (go_cc mx_X11_trees) 17 = .ok (.iload_n 3, 1) := by decide +kernel
theorem dx_X11_trees_18 : decode (go_cc mx_X11_trees) 18 = .ok (.invokevirtual 229, 3) := by decide +kernel
theorem dx_X11_trees_21 : decode (go_cc mx_X11_trees) 21 = .ok (.ifCond .ne 7, 3) := by decide +kernel
theorem dx_X11_trees_24 : decode (go_cc mx_X11_trees) 24 = .ok (.ldc2_w 237, 3) := by decide +kernel
theorem dx_X11_trees_27 : decode (go_cc mx_X11_trees) 27 = .ok (.lreturn, 1) := by decide +kernel
theorem dx_X11_trees_28 : decode (go_cc mx_X11_trees) 28 = .ok (.aload_n 0, 1) := by decide +kernel
theorem dx_X11_trees_29 : decode (go_cc mx_X11_trees) 29 = .ok (.invokevirtual 273, 3) := by decide +kernel
theorem dx_X11_trees_32 : decode (go_cc mx_X11_trees) 32 = .ok (.aload_n 0, 1) := by decide +kernel
theorem dx_X11_trees_33 : decode (go_cc mx_X11_trees) 33 = .ok (.getfield 60, 3) := by decide +kernel
theorem dx_X11_trees_36 : decode (go_cc mx_X11_trees) 36 = .ok (.iload_n 1, 1) := by decide +kernel
theorem dx_X11_trees_37 : decode (go_cc mx_X11_trees) 37 = .ok (.iload_n 2, 1) := by decide +kernel
theorem dx_X11_trees_38 : decode (go_cc mx_X11_trees) 38 = .ok (.iload_n 3, 1) := by decide +kernel
theorem dx_X11_trees_39 : decode (go_cc mx_X11_trees) 39 = .ok (.invokevirtual 276, 3) := by decide +kernel
theorem dx_X11_trees_42 : decode (go_cc mx_X11_trees) 42 = .ok (.lreturn, 1) := by decide +kernel
theorem dx_X11_doubtful_0 : decode (go_cc mx_X11_doubtful) 0 = .ok (.iload_n 1, 1) := by decide +kernel
theorem dx_X11_doubtful_1 : decode (go_cc mx_X11_doubtful) 1 = .ok (.ifCond .lt 8, 3) := by decide +kernel
theorem dx_X11_doubtful_4 : decode (go_cc mx_X11_doubtful) 4 = .ok (.iload_n 1, 1) := by decide +kernel
theorem dx_X11_doubtful_5 : decode (go_cc mx_X11_doubtful) 5 = .ok (.iconst 2, 1) := by decide +kernel
theorem dx_X11_doubtful_6 : decode (go_cc mx_X11_doubtful) 6 = .ok (.if_icmp .le 6, 3) := by decide +kernel
theorem dx_X11_doubtful_9 : decode (go_cc mx_X11_doubtful) 9 = .ok (.bipush (-2), 2) := by decide +kernel
theorem dx_X11_doubtful_11 : decode (go_cc mx_X11_doubtful) 11 = .ok (.ireturn, 1) := by decide +kernel
theorem dx_X11_doubtful_12 : decode (go_cc mx_X11_doubtful) 12 = .ok (.aload_n 0, 1) := by decide +kernel
theorem dx_X11_doubtful_13 : decode (go_cc mx_X11_doubtful) 13 = .ok (.invokevirtual 183, 3) := by decide +kernel
theorem dx_X11_doubtful_16 : decode (go_cc mx_X11_doubtful) 16 = .ok (.aload_n 0, 1) := by decide +kernel
theorem dx_X11_doubtful_17 : decode (go_cc mx_X11_doubtful) 17 = .ok (.invokevirtual 273, 3) := by decide +kernel
theorem dx_X11_doubtful_20 : decode (go_cc mx_X11_doubtful) 20 = .ok (.iconst (-1), 1) := by decide +kernel
theorem dx_X11_doubtful_21 : decode (go_cc mx_X11_doubtful) 21 = .ok (.istore_n 2, 1) := by decide +kernel
theorem dx_X11_doubtful_22 : decode (go_cc mx_X11_doubtful) 22 = .ok (.aload_n 0, 1) := by decide +kernel
theorem dx_X11_doubtful_23 : decode (go_cc mx_X11_doubtful) 23 = .ok (.getfield 19, 3) := by decide +kernel
theorem dx_X11_doubtful_26 : decode (go_cc mx_X11_doubtful) 26 = .ok (.getfield 239, 3) := by decide +kernel
theorem dx_X11_doubtful_29 : decode (go_cc mx_X11_doubtful) 29 = .ok (.istore_n 3, 1) := by decide +kernel
theorem dx_X11_doubtful_30 : decode (go_cc mx_X11_doubtful) 30 = .ok (.iload_n 3, 1) := by decide +kernel
theorem dx_X11_doubtful_31 : decode (go_cc mx_X11_doubtful) 31 = .ok (.iconst 1, 1) := by decide +kernel
theorem dx_X11_doubtful_32 : decode (go_cc mx_X11_doubtful) 32 = .ok (.if_icmp .lt 86, 3) := by decide +kernel
theorem dx_X11_doubtful_35 : decode (go_cc mx_X11_doubtful) 35 = .ok (.aload_n 0, 1) := by decide +kernel
theorem dx_X11_doubtful_36 : decode (go_cc mx_X11_doubtful) 36 = .ok (.getfield 19, 3) := by decide +kernel
theorem dx_X11_doubtful_39 : decode (go_cc mx_X11_doubtful) 39 = .ok (.getfield 239, 3) := by decide +kernel
theorem dx_X11_doubtful_42 : decode (go_cc mx_X11_doubtful) 42 = .ok (.iload_n 3, 1) := by decide +kernel
theorem dx_X11_doubtful_43 : decode (go_cc mx_X11_doubtful) 43 = .ok (.isub, 1) := by decide +kernel
theorem dx_X11_doubtful_44 : decode (go_cc mx_X11_doubtful) 44 = .ok (.istore 4, 2) := by decide +kernel
theorem dx_X11_doubtful_46 : decode (go_cc mx_X11_doubtful) 46 = .ok (.iload 4, 2) := by decide +kernel
theorem dx_X11_doubtful_48 : decode (go_cc mx_X11_doubtful) 48 = .ok (.ifCond .lt 64, 3) := by decide +kernel
theorem dx_X11_doubtful_51 : decode (go_cc mx_X11_doubtful) 51 = .ok (.aload_n 0, 1) := by decide +kernel
theorem dx_X11_doubtful_52 : decode (go_cc mx_X11_doubtful) 52 = .ok (.getfield 60, 3) := by decide +kernel
theorem dx_X11_doubtful_55 : decode (go_cc mx_X11_doubtful) 55 = .ok (.iload 4, 2) := by decide +kernel
theorem dx_X11_doubtful_57 : decode (go_cc mx_X11_doubtful) 57 = .ok (.iload 4, 2) := by decide +kernel
theorem dx_X11_doubtful_59 : decode (go_cc mx_X11_doubtful) 59 = .ok (.iload_n 3, 1) := by decide +kernel
theorem dx_X11_doubtful_60 : decode (go_cc mx_X11_doubtful) 60 = .ok (.iadd, 1) := by decide +kernel
theorem dx_X11_doubtful_61 : decode (go_cc mx_X11_doubtful) 61 = .ok (.invokevirtual 277, 3) := by decide +kernel
theorem dx_X11_doubtful_64 : decode (go_cc mx_X11_doubtful) 64 = .ok (.istore 5, 2) := by decide +kernel
theorem dx_X11_doubtful_66 : decode (go_cc mx_X11_doubtful) 66 = .ok (.iload 5, 2) := by decide +kernel
theorem dx_X11_doubtful_68 : decode (go_cc mx_X11_doubtful) 68 = .ok (.bipush (-7), 2) := by decide +kernel
theorem dx_X11_doubtful_70 : decode (go_cc mx_X11_doubtful) 70 = .ok (.if_icmp .ne 6, 3) := by decide +kernel
theorem dx_X11_doubtful_73 : decode (go_cc mx_X11_doubtful) 73 = .ok (.bipush (-7), 2) := by decide +kernel
theorem dx_X11_doubtful_75 : decode (go_cc mx_X11_doubtful) 75 = .ok (.ireturn, 1) := by decide +kernel
theorem dx_X11_doubtful_76 : decode (go_cc mx_X11_doubtful) 76 = .ok (.iload 5, 2) := by decide +kernel
theorem dx_X11_doubtful_78 : decode (go_cc mx_X11_doubtful) 78 = .ok (.iconst (-1), 1) := by decide +kernel
theorem dx_X11_doubtful_79 : decode (go_cc mx_X11_doubtful) 79 = .ok (.if_icmp .eq 27, 3) := by decide +kernel
theorem dx_X11_doubtful_82 : decode (go_cc mx_X11_doubtful) 82 = .ok (.iload_n 1, 1) := by decide +kernel
theorem dx_X11_doubtful_83 : decode (go_cc mx_X11_doubtful) 83 = .ok (.ifCond .ne 8, 3) := by decide +kernel
theorem dx_X11_doubtful_86 : decode (go_cc mx_X11_doubtful) 86 = .ok (.iload 5, 2) := by decide +kernel
theorem dx_X11_doubtful_88 : decode (go_cc mx_X11_doubtful) 88 = .ok (.goto 17, 3) := by decide +kernel
theorem dx_X11_doubtful_91 : decode (go_cc mx_X11_doubtful) 91 = .ok (.iload_n 1, 1) := by decide +kernel
theorem dx_X11_doubtful_92 : decode (go_cc mx_X11_doubtful) 92 = .ok (.iconst 1, 1) := by decide +kernel
theorem dx_X11_doubtful_93 : decode (go_cc mx_X11_doubtful) 93 = .ok (.if_icmp .ne 8, 3) := by decide +kernel
theorem dx_X11_doubtful_96 : decode (go_cc mx_X11_doubtful) 96 = .ok (.iload 4, 2) := by decide +kernel
theorem dx_X11_doubtful_98 : decode (go_cc mx_X11_doubtful) 98 = .ok (.goto 7, 3) := by decide +kernel
theorem dx_X11_doubtful_101 : decode (go_cc mx_X11_doubtful) 101 = .ok (.iload 4, 2) := by decide +kernel
theorem dx_X11_doubtful_103 : decode (go_cc mx_X11_doubtful) 103 = .ok (.iload_n 3, 1) := by decide +kernel
theorem dx_X11_doubtful_104 : decode (go_cc mx_X11_doubtful) 104 = .ok (.iadd, 1) := by decide +kernel
theorem dx_X11_doubtful_105 : decode (go_cc mx_X11_doubtful) 105 = .ok (.istore_n 2, 1) := by decide +kernel
theorem dx_X11_doubtful_106 : decode (go_cc mx_X11_doubtful) 106 = .ok (.iinc 4 (-1), 3) := by decide +kernel
theorem dx_X11_doubtful_109 : decode (go_cc mx_X11_doubtful) 109 = .ok (.goto (-63), 3) := by decide +kernel
theorem dx_X11_doubtful_112 : decode (go_cc mx_X11_doubtful) 112 = .ok (.iinc 3 (-1), 3) := by decide +kernel
theorem dx_X11_doubtful_115 : decode (go_cc mx_X11_doubtful) 115 = .ok (.goto (-85), 3) := by decide +kernel
theorem dx_X11_doubtful_118 : decode (go_cc mx_X11_doubtful) 118 = .ok (.iload_n 2, 1) := by decide +kernel
theorem dx_X11_doubtful_119 : decode (go_cc mx_X11_doubtful) 119 = .ok (.ireturn, 1) := by decide +kernel
theorem dx_X11_nodes_0 : decode (go_cc mx_X11_nodes) 0 = .ok (.aload_n 0, 1) := by decide +kernel
theorem dx_X11_nodes_1 : decode (go_cc mx_X11_nodes) 1 = .ok (.invokevirtual 183, 3) := by decide +kernel
theorem dx_X11_nodes_4 : decode (go_cc mx_X11_nodes) 4 = .ok (.aload_n 0, 1) := by decide +kernel
theorem dx_X11_nodes_5 : decode (go_cc mx_X11_nodes) 5 = .ok (.invokevirtual 273, 3) := by decide +kernel
theorem dx_X11_nodes_8 : decode (go_cc mx_X11_nodes) 8 = .ok (.aload_n 0, 1) := by decide +kernel
theorem dx_X11_nodes_9 : decode (go_cc mx_X11_nodes) 9 = .ok (.iconst 0, 1) := by decide +kernel
theorem dx_X11_nodes_10 : decode (go_cc mx_X11_nodes) 10 = .ok (.invokevirtual 280, 3) := by decide +kernel
theorem dx_X11_nodes_13 : decode (go_cc mx_X11_nodes) 13 = .ok (.ifCond .eq 13, 3) := by decide +kernel
theorem dx_X11_nodes_16 : decode (go_cc mx_X11_nodes) 16 = .ok (.aload_n 0, 1) := by decide +kernel
theorem dx_X11_nodes_17 : decode (go_cc mx_X11_nodes) 17 = .ok (.getfield 69, 3) := by decide +kernel
theorem dx_X11_nodes_20 : decode (go_cc mx_X11_nodes) 20 = .ok (.getfield 283, 3) := by decide +kernel
theorem dx_X11_nodes_23 : decode (go_cc mx_X11_nodes) 23 = .ok (.goto 4, 3) := by decide +kernel
theorem dx_X11_nodes_26 : decode (go_cc mx_X11_nodes) 26 = .ok (.iconst 0, 1) := by decide +kernel
theorem dx_X11_nodes_27 : decode (go_cc mx_X11_nodes) 27 = .ok (.ireturn, 1) := by decide +kernel
theorem dx_X11_node_0 : decode (go_cc mx_X11_node) 0 = .ok (.aload_n 0, 1) := by decide +kernel
theorem dx_X11_node_1 : decode (go_cc mx_X11_node) 1 = .ok (.invokevirtual 183, 3) := by decide +kernel
theorem dx_X11_node_4 : decode (go_cc mx_X11_node) 4 = .ok (.aload_n 0, 1) := by decide +kernel
theorem dx_X11_node_5 : decode (go_cc mx_X11_node) 5 = .ok (.invokevirtual 273, 3) := by decide +kernel
theorem dx_X11_node_8 : decode (go_cc mx_X11_node) 8 = .ok (.aload_n 0, 1) := by decide +kernel
theorem dx_X11_node_9 : decode (go_cc mx_X11_node) 9 = .ok (.iconst 0, 1) := by decide +kernel
theorem dx_X11_node_10 : decode (go_cc mx_X11_node) 10 = .ok (.invokevirtual 280, 3) := by decide +kernel
theorem dx_X11_node_13 : decode (go_cc mx_X11_node) 13 = .ok (.ifCond .eq 15, 3) := by decide +kernel
theorem dx_X11_node_16 : decode (go_cc mx_X11_node) 16 = .ok (.aload_n 0, 1) := by decide +kernel
theorem dx_X11_node_17 : decode (go_cc mx_X11_node) 17 = .ok (.getfield 69, 3) := by decide +kernel
theorem dx_X11_node_20 : decode (go_cc mx_X11_node) 20 = .ok (.iload_n 1, 1) := by decide +kernel
theorem dx_X11_node_21 : decode (go_cc mx_X11_node) 21 = .ok (.iload_n 2, 1) := by decide +kernel
theorem dx_X11_node_22 : decode (go_cc mx_X11_node) 22 = .ok (.invokevirtual 286, 3) := by decide +kernel
theorem dx_X11_node_25 : decode (go_cc mx_X11_node) 25 = .ok (.goto 5, 3) := by decide +kernel
theorem dx_X11_node_28 : decode (go_cc mx_X11_node) 28 = .ok (.bipush (-2), 2) := by decide +kernel
theorem dx_X11_node_30 : decode (go_cc mx_X11_node) 30 = .ok (.ireturn, 1) := by decide +kernel
theorem dx_X11_tree_0 : decode (go_cc mx_X11_tree) 0 = .ok (.aload_n 0, 1) := by decide +kernel
theorem dx_X11_tree_1 : decode (go_cc mx_X11_tree) 1 = .ok (.invokevirtual 183, 3) := by decide +kernel
theorem dx_X11_tree_4 : decode (go_cc mx_X11_tree) 4 = .ok (.aload_n 0, 1) := by decide +kernel
theorem dx_X11_tree_5 : decode (go_cc mx_X11_tree) 5 = .ok (.invokevirtual 273, 3) := by decide +kernel
theorem dx_X11_tree_8 : decode (go_cc mx_X11_tree) 8 = .ok (.aload_n 0, 1) := by decide +kernel
theorem dx_X11_tree_9 : decode (go_cc mx_X11_tree) 9 = .ok (.invokevirtual 289, 3) := by decide +kernel
theorem dx_X11_tree_12 : decode (go_cc mx_X11_tree) 12 = .ok (.lstore 4, 2) := by decide +kernel
theorem dx_X11_tree_14 : decode (go_cc mx_X11_tree) 14 = .ok (.lload 4, 2) := by decide +kernel
theorem dx_X11_tree_16 : decode (go_cc mx_X11_tree) 16 = .ok (.lconst 0, 1) := by decide +kernel
theorem dx_X11_tree_17 : decode (go_cc mx_X11_tree) 17 = .ok (.lcmp, 1) := by decide +kernel
theorem dx_X11_tree_18 : decode (go_cc mx_X11_tree) 18 = .ok (.ifCond .ge 6, 3) := by decide +kernel
theorem dx_X11_tree_21 : decode (go_cc mx_X11_tree) 21 = .ok (.bipush (-7), 2) := by decide +kernel
theorem dx_X11_tree_23 : decode (go_cc mx_X11_tree) 23 = .ok (.ireturn, 1) := by decide +kernel
theorem dx_X11_tree_24 : decode (go_cc mx_X11_tree) 24 = .ok (.iload_n 1, 1) := by decide +kernel
theorem dx_X11_tree_25 : decode (go_cc mx_X11_tree) 25 = .ok (.ifCond .lt 19, 3) := by decide +kernel
theorem dx_X11_tree_28 : decode (go_cc mx_X11_tree) 28 = .ok (.iload_n 1, 1) := by decide +kernel
theorem dx_X11_tree_29 : decode (go_cc mx_X11_tree) 29 = .ok (.i2l, 1) := by decide +kernel
theorem dx_X11_tree_30 : decode (go_cc mx_X11_tree) 30 = .ok (.lload 4, 2) := by decide +kernel
theorem dx_X11_tree_32 : decode (go_cc mx_X11_tree) 32 = .ok (.lcmp, 1) := by decide +kernel
theorem dx_X11_tree_33 : decode (go_cc mx_X11_tree) 33 = .ok (.ifCond .ge 11, 3) := by decide +kernel
theorem dx_X11_tree_36 : decode (go_cc mx_X11_tree) 36 = .ok (.aload_n 0, 1) := by decide +kernel
theorem dx_X11_tree_37 : decode (go_cc mx_X11_tree) 37 = .ok (.iload_n 1, 1) := by decide +kernel
theorem dx_X11_tree_38 : decode (go_cc mx_X11_tree) 38 = .ok (.invokevirtual 280, 3) := by decide +kernel
theorem dx_X11_tree_41 : decode (go_cc mx_X11_tree) 41 = .ok (.ifCond .ne 6, 3) := by decide +kernel
theorem dx_X11_tree_44 : decode (go_cc mx_X11_tree) 44 = .ok (.bipush (-3), 2) := by decide +kernel
theorem dx_X11_tree_46 : decode (go_cc mx_X11_tree) 46 = .ok (.ireturn, 1) := by decide +kernel
theorem dx_X11_tree_47 : decode (go_cc mx_X11_tree) 47 = .ok (.iload_n 2, 1) := by decide +kernel
theorem dx_X11_tree_48 : decode (go_cc mx_X11_tree) 48 = .ok (.iconst (-1), 1) := by decide +kernel
theorem dx_X11_tree_49 : decode (go_cc mx_X11_tree) 49 = .ok (.if_icmp .eq 13, 3) := by decide +kernel
theorem dx_X11_tree_52 : decode (go_cc mx_X11_tree) 52 = .ok (.aload_n 0, 1) := by decide +kernel
theorem dx_X11_tree_53 : decode (go_cc mx_X11_tree) 53 = .ok (.getfield 69, 3) := by decide +kernel
theorem dx_X11_tree_56 : decode (go_cc mx_X11_tree) 56 = .ok (.iload_n 2, 1) := by decide +kernel
theorem dx_X11_tree_57 : decode (go_cc mx_X11_tree) 57 = .ok (.iload_n 3, 1) := by decide +kernel
theorem dx_X11_tree_58 : decode (go_cc mx_X11_tree) 58 = .ok (.invokevirtual 286, 3) := by decide +kernel
theorem dx_X11_tree_61 : decode (go_cc mx_X11_tree) 61 = .ok (.ireturn, 1) := by decide +kernel
theorem dx_X11_tree_62 : decode (go_cc mx_X11_tree) 62 = .ok (.iload_n 3, 1) := by decide +kernel
theorem dx_X11_tree_63 : decode (go_cc mx_X11_tree) 63 = .ok (.ifCond .lt 18, 3) := by decide +kernel
theorem dx_X11_tree_66 : decode (go_cc mx_X11_tree) 66 = .ok (.iload_n 3, 1) := by decide +kernel
theorem dx_X11_tree_67 : decode (go_cc mx_X11_tree) 67 = .ok (.iconst 5, 1) := by decide +kernel
theorem dx_X11_tree_68 : decode (go_cc mx_X11_tree) 68 = .ok (.if_icmp .ge 13, 3) := by decide +kernel
theorem dx_X11_tree_71 : decode (go_cc mx_X11_tree) 71 = .ok (.aload_n 0, 1) := by decide +kernel
theorem dx_X11_tree_72 : decode (go_cc mx_X11_tree) 72 = .ok (.getfield 69, 3) := by decide +kernel
theorem dx_X11_tree_75 : decode (go_cc mx_X11_tree) 75 = .ok (.getfield 283, 3) := by decide +kernel
theorem dx_X11_tree_78 : decode (go_cc mx_X11_tree) 78 = .ok (.goto 5, 3) := by decide +kernel
theorem dx_X11_tree_81 : decode (go_cc mx_X11_tree) 81 = .ok (.bipush (-2), 2) := by decide +kernel
theorem dx_X11_tree_83 : decode (go_cc mx_X11_tree) 83 = .ok (.ireturn, 1) := by decide +kernel
theorem dx_X11_loss_0 : decode (go_cc mx_X11_loss) 0 = .ok (.aload_n 0, 1) := by decide +kernel
theorem dx_X11_loss_1 : decode (go_cc mx_X11_loss) 1 = .ok (.getfield 19, 3) := by decide +kernel
theorem dx_X11_loss_4 : decode (go_cc mx_X11_loss) 4 = .ok (.iload_n 1, 1) := by decide +kernel
theorem dx_X11_loss_5 : decode (go_cc mx_X11_loss) 5 = .ok (.invokevirtual 156, 3) := by decide +kernel
theorem dx_X11_loss_8 : decode (go_cc mx_X11_loss) 8 = .ok (.ifCond .ne 6, 3) := by decide +kernel
theorem dx_X11_loss_11 : decode (go_cc mx_X11_loss) 11 = .ok (.bipush (-2), 2) := by decide +kernel
theorem dx_X11_loss_13 : decode (go_cc mx_X11_loss) 13 = .ok (.ireturn, 1) := by decide +kernel
theorem dx_X11_loss_14 : decode (go_cc mx_X11_loss) 14 = .ok (.aload_n 0, 1) := by decide +kernel
theorem dx_X11_loss_15 : decode (go_cc mx_X11_loss) 15 = .ok (.invokevirtual 183, 3) := by decide +kernel
theorem dx_X11_loss_18 : decode (go_cc mx_X11_loss) 18 = .ok (.aload_n 0, 1) := by decide +kernel
theorem dx_X11_loss_19 : decode (go_cc mx_X11_loss) 19 = .ok (.getfield 95, 3) := by decide +kernel
theorem dx_X11_loss_22 : decode (go_cc mx_X11_loss) 22 = .ok (.aload_n 0, 1) := by decide +kernel
theorem dx_X11_loss_23 : decode (go_cc mx_X11_loss) 23 = .ok (.getfield 19, 3) := by decide +kernel
theorem dx_X11_loss_26 : decode (go_cc mx_X11_loss) 26 = .ok (.iload_n 1, 1) := by decide +kernel
theorem dx_X11_loss_27 : decode (go_cc mx_X11_loss) 27 = .ok (.invokevirtual 293, 3) := by decide +kernel
theorem dx_X11_loss_30 : decode (go_cc mx_X11_loss) 30 = .ok (.aload_n 0, 1) := by decide +kernel
theorem dx_X11_loss_31 : decode (go_cc mx_X11_loss) 31 = .ok (.getfield 98, 3) := by decide +kernel
theorem dx_X11_loss_34 : decode (go_cc mx_X11_loss) 34 = .ok (.aload_n 0, 1) := by decide +kernel
theorem dx_X11_loss_35 : decode (go_cc mx_X11_loss) 35 = .ok (.getfield 19, 3) := by decide +kernel
theorem dx_X11_loss_38 : decode (go_cc mx_X11_loss) 38 = .ok (.iconst 0, 1) := by decide +kernel
theorem dx_X11_loss_39 : decode (go_cc mx_X11_loss) 39 = .ok (.invokevirtual 297, 3) := by decide +kernel
theorem dx_X11_loss_42 : decode (go_cc mx_X11_loss) 42 = .ok (.aload_n 0, 1) := by decide +kernel
theorem dx_X11_loss_43 : decode (go_cc mx_X11_loss) 43 = .ok (.getfield 98, 3) := by decide +kernel
theorem dx_X11_loss_46 : decode (go_cc mx_X11_loss) 46 = .ok (.aload_n 0, 1) := by decide +kernel
theorem dx_X11_loss_47 : decode (go_cc mx_X11_loss) 47 = .ok (.getfield 95, 3) := by decide +kernel
theorem dx_X11_loss_50 : decode (go_cc mx_X11_loss) 50 = .ok (.aload_n 0, 1) := by decide +kernel
theorem dx_X11_loss_51 : decode (go_cc mx_X11_loss) 51 = .ok (.getfield 19, 3) := by decide +kernel
theorem dx_X11_loss_54 : decode (go_cc mx_X11_loss) 54 = .ok (.getfield 239, 3) := by decide +kernel
theorem dx_X11_loss_57 : decode (go_cc mx_X11_loss) 57 = .ok (.invokevirtual 301, 3) := by decide +kernel
theorem dx_X11_loss_60 : decode (go_cc mx_X11_loss) 60 = .ok (.iconst 0, 1) := by decide +kernel
theorem dx_X11_loss_61 : decode (go_cc mx_X11_loss) 61 = .ok (.istore_n 2, 1) := by decide +kernel
theorem dx_X11_loss_62 : decode (go_cc mx_X11_loss) 62 = .ok (.iconst 1, 1) := by decide +kernel
theorem dx_X11_loss_63 : decode (go_cc mx_X11_loss) 63 = .ok (.istore_n 3, 1) := by decide +kernel
theorem dx_X11_loss_64 : decode (go_cc mx_X11_loss) 64 = .ok (.iload_n 3, 1) := by decide +kernel
theorem dx_X11_loss_65 : decode (go_cc mx_X11_loss) 65 = .ok (.aload_n 0, 1) := by decide +kernel
theorem dx_X11_loss_66 : decode (go_cc mx_X11_loss) 66 = .ok (.getfield 19, 3) := by decide +kernel
theorem dx_X11_loss_69 : decode (go_cc mx_X11_loss) 69 = .ok (.getfield 239, 3) := by decide +kernel
theorem dx_X11_loss_72 : decode (go_cc mx_X11_loss) 72 = .ok (.if_icmp .gt 59, 3) := by decide +kernel
theorem dx_X11_loss_75 : decode (go_cc mx_X11_loss) 75 = .ok (.iconst 0, 1) := by decide +kernel
theorem dx_X11_loss_76 : decode (go_cc mx_X11_loss) 76 = .ok (.istore 4, 2) := by decide +kernel
theorem dx_X11_loss_78 : decode (go_cc mx_X11_loss) 78 = .ok (.iload 4, 2) := by decide +kernel
theorem dx_X11_loss_80 : decode (go_cc mx_X11_loss) 80 = .ok (.iload_n 3, 1) := by decide +kernel
theorem dx_X11_loss_81 : decode (go_cc mx_X11_loss) 81 = .ok (.if_icmp .ge 44, 3) := by decide +kernel
theorem dx_X11_loss_84 : decode (go_cc mx_X11_loss) 84 = .ok (.iload_n 2, 1) := by decide +kernel
theorem dx_X11_loss_85 : decode (go_cc mx_X11_loss) 85 = .ok (.aload_n 0, 1) := by decide +kernel
theorem dx_X11_loss_86 : decode (go_cc mx_X11_loss) 86 = .ok (.getfield 42, 3) := by decide +kernel
theorem dx_X11_loss_89 : decode (go_cc mx_X11_loss) 89 = .ok (.iload 4, 2) := by decide +kernel
theorem dx_X11_loss_91 : decode (go_cc mx_X11_loss) 91 = .ok (.iload_n 3, 1) := by decide +kernel
theorem dx_X11_loss_92 : decode (go_cc mx_X11_loss) 92 = .ok (.invokevirtual 233, 3) := by decide +kernel
theorem dx_X11_loss_95 : decode (go_cc mx_X11_loss) 95 = .ok (.aload_n 0, 1) := by decide +kernel
theorem dx_X11_loss_96 : decode (go_cc mx_X11_loss) 96 = .ok (.getfield 98, 3) := by decide +kernel
theorem dx_X11_loss_99 : decode (go_cc mx_X11_loss) 99 = .ok (.iload 4, 2) := by decide +kernel
theorem dx_X11_loss_101 : decode (go_cc mx_X11_loss) 101 = .ok (.iload_n 3, 1) := by decide +kernel
theorem dx_X11_loss_102 : decode (go_cc mx_X11_loss) 102 = .ok (.invokevirtual 233, 3) := by decide +kernel
theorem dx_X11_loss_105 : decode (go_cc mx_X11_loss) 105 = .ok (.ldc2_w 253, 3) := by decide +kernel
theorem dx_X11_loss_108 : decode (go_cc mx_X11_loss) 108 = .ok (.lxor, 1) := by decide +kernel
theorem dx_X11_loss_109 : decode (go_cc mx_X11_loss) 109 = .ok (.land, 1) := by decide +kernel
theorem dx_X11_loss_110 : decode (go_cc mx_X11_loss) 110 = .ok (.ldc2_w 227, 3) := by decide +kernel
theorem dx_X11_loss_113 : decode (go_cc mx_X11_loss) 113 = .ok (.land, 1) := by decide +kernel
theorem dx_X11_loss_114 : decode (go_cc mx_X11_loss) 114 = .ok (.invokestatic 305, 3) := by decide +kernel
theorem dx_X11_loss_117 : decode (go_cc mx_X11_loss) 117 = .ok (.iadd, 1) := by decide +kernel
theorem dx_X11_loss_118 : decode (go_cc mx_X11_loss) 118 = .ok (.istore_n 2, 1) := by decide +kernel
theorem dx_X11_loss_119 : decode (go_cc mx_X11_loss) 119 = .ok (.iinc 4 1, 3) := by decide +kernel
theorem dx_X11_loss_122 : decode (go_cc mx_X11_loss) 122 = .ok (.goto (-44), 3) := by decide +kernel
theorem dx_X11_loss_125 : decode (go_cc mx_X11_loss) 125 = .ok (.iinc 3 1, 3) := by decide +kernel
theorem dx_X11_loss_128 : decode (go_cc mx_X11_loss) 128 = .ok (.goto (-64), 3) := by decide +kernel
theorem dx_X11_loss_131 : decode (go_cc mx_X11_loss) 131 = .ok (.iload_n 2, 1) := by decide +kernel
theorem dx_X11_loss_132 : decode (go_cc mx_X11_loss) 132 = .ok (.ireturn, 1) := by decide +kernel
theorem dx_X11_form_0 : decode (go_cc mx_X11_form) 0 = .ok (.aload_n 0, 1) := by decide +kernel
theorem dx_X11_form_1 : decode (go_cc mx_X11_form) 1 = .ok (.invokevirtual 183, 3) := by decide +kernel
theorem dx_X11_form_4 : decode (go_cc mx_X11_form) 4 = .ok (.aload_n 0, 1) := by decide +kernel
theorem dx_X11_form_5 : decode (go_cc mx_X11_form) 5 = .ok (.invokevirtual 273, 3) := by decide +kernel
theorem dx_X11_form_8 : decode (go_cc mx_X11_form) 8 = .ok (.aload_n 0, 1) := by decide +kernel
theorem dx_X11_form_9 : decode (go_cc mx_X11_form) 9 = .ok (.iconst 0, 1) := by decide +kernel
theorem dx_X11_form_10 : decode (go_cc mx_X11_form) 10 = .ok (.invokevirtual 280, 3) := by decide +kernel
theorem dx_X11_form_13 : decode (go_cc mx_X11_form) 13 = .ok (.ifCond .eq 18, 3) := by decide +kernel
theorem dx_X11_form_16 : decode (go_cc mx_X11_form) 16 = .ok (.iload_n 1, 1) := by decide +kernel
theorem dx_X11_form_17 : decode (go_cc mx_X11_form) 17 = .ok (.ifCond .lt 14, 3) := by decide +kernel
theorem dx_X11_form_20 : decode (go_cc mx_X11_form) 20 = .ok (.iload_n 1, 1) := by decide +kernel
theorem dx_X11_form_21 : decode (go_cc mx_X11_form) 21 = .ok (.aload_n 0, 1) := by decide +kernel
theorem dx_X11_form_22 : decode (go_cc mx_X11_form) 22 = .ok (.getfield 69, 3) := by decide +kernel
theorem dx_X11_form_25 : decode (go_cc mx_X11_form) 25 = .ok (.getfield 283, 3) := by decide +kernel
theorem dx_X11_form_28 : decode (go_cc mx_X11_form) 28 = .ok (.if_icmp .le 6, 3) := by decide +kernel
theorem dx_X11_form_31 : decode (go_cc mx_X11_form) 31 = .ok (.bipush (-2), 2) := by decide +kernel
theorem dx_X11_form_33 : decode (go_cc mx_X11_form) 33 = .ok (.ireturn, 1) := by decide +kernel
theorem dx_X11_form_34 : decode (go_cc mx_X11_form) 34 = .ok (.iload_n 2, 1) := by decide +kernel
theorem dx_X11_form_35 : decode (go_cc mx_X11_form) 35 = .ok (.ifCond .ge 6, 3) := by decide +kernel
theorem dx_X11_form_38 : decode (go_cc mx_X11_form) 38 = .ok (.bipush (-3), 2) := by decide +kernel
theorem dx_X11_form_40 : decode (go_cc mx_X11_form) 40 = .ok (.ireturn, 1) := by decide +kernel
theorem dx_X11_form_41 : decode (go_cc mx_X11_form) 41 = .ok (.aload_n 0, 1) := by decide +kernel
theorem dx_X11_form_42 : decode (go_cc mx_X11_form) 42 = .ok (.getfield 69, 3) := by decide +kernel
theorem dx_X11_form_45 : decode (go_cc mx_X11_form) 45 = .ok (.iload_n 1, 1) := by decide +kernel
theorem dx_X11_form_46 : decode (go_cc mx_X11_form) 46 = .ok (.invokevirtual 310, 3) := by decide +kernel
theorem dx_X11_form_49 : decode (go_cc mx_X11_form) 49 = .ok (.iload_n 2, 1) := by decide +kernel
theorem dx_X11_form_50 : decode (go_cc mx_X11_form) 50 = .ok (.aload_n 0, 1) := by decide +kernel
theorem dx_X11_form_51 : decode (go_cc mx_X11_form) 51 = .ok (.getfield 69, 3) := by decide +kernel
theorem dx_X11_form_54 : decode (go_cc mx_X11_form) 54 = .ok (.getfield 313, 3) := by decide +kernel
theorem dx_X11_form_57 : decode (go_cc mx_X11_form) 57 = .ok (.if_icmp .ge 17, 3) := by decide +kernel
theorem dx_X11_form_60 : decode (go_cc mx_X11_form) 60 = .ok (.aload_n 0, 1) := by decide +kernel
theorem dx_X11_form_61 : decode (go_cc mx_X11_form) 61 = .ok (.getfield 69, 3) := by decide +kernel
theorem dx_X11_form_64 : decode (go_cc mx_X11_form) 64 = .ok (.getfield 316, 3) := by decide +kernel
theorem dx_X11_form_67 : decode (go_cc mx_X11_form) 67 = .ok (.iload_n 2, 1) := by decide +kernel
theorem dx_X11_form_68 : decode (go_cc mx_X11_form) 68 = .ok (.invokestatic 192, 3) := by decide +kernel
theorem dx_X11_form_71 : decode (go_cc mx_X11_form) 71 = .ok (.goto 4, 3) := by decide +kernel
theorem dx_X11_form_74 : decode (go_cc mx_X11_form) 74 = .ok (.iconst (-1), 1) := by decide +kernel
theorem dx_X11_form_75 : decode (go_cc mx_X11_form) 75 = .ok (.ireturn, 1) := by decide +kernel
theorem dx_X11_length_0 : decode (go_cc mx_X11_length) 0 = .ok (.aload_n 0, 1) := by decide +kernel
theorem dx_X11_length_1 : decode (go_cc mx_X11_length) 1 = .ok (.invokevirtual 183, 3) := by decide +kernel
theorem dx_X11_length_4 : decode (go_cc mx_X11_length) 4 = .ok (.aload_n 0, 1) := by decide +kernel
theorem dx_X11_length_5 : decode (go_cc mx_X11_length) 5 = .ok (.invokevirtual 273, 3) := by decide +kernel
theorem dx_X11_length_8 : decode (go_cc mx_X11_length) 8 = .ok (.aload_n 0, 1) := by decide +kernel
theorem dx_X11_length_9 : decode (go_cc mx_X11_length) 9 = .ok (.iconst 0, 1) := by decide +kernel
theorem dx_X11_length_10 : decode (go_cc mx_X11_length) 10 = .ok (.invokevirtual 280, 3) := by decide +kernel
theorem dx_X11_length_13 : decode (go_cc mx_X11_length) 13 = .ok (.ifCond .eq 18, 3) := by decide +kernel
theorem dx_X11_length_16 : decode (go_cc mx_X11_length) 16 = .ok (.iload_n 1, 1) := by decide +kernel
theorem dx_X11_length_17 : decode (go_cc mx_X11_length) 17 = .ok (.ifCond .lt 14, 3) := by decide +kernel
theorem dx_X11_length_20 : decode (go_cc mx_X11_length) 20 = .ok (.iload_n 1, 1) := by decide +kernel
theorem dx_X11_length_21 : decode (go_cc mx_X11_length) 21 = .ok (.aload_n 0, 1) := by decide +kernel
theorem dx_X11_length_22 : decode (go_cc mx_X11_length) 22 = .ok (.getfield 69, 3) := by decide +kernel
theorem dx_X11_length_25 : decode (go_cc mx_X11_length) 25 = .ok (.getfield 283, 3) := by decide +kernel
theorem dx_X11_length_28 : decode (go_cc mx_X11_length) 28 = .ok (.if_icmp .le 6, 3) := by decide +kernel
theorem dx_X11_length_31 : decode (go_cc mx_X11_length) 31 = .ok (.bipush (-2), 2) := by decide +kernel
theorem dx_X11_length_33 : decode (go_cc mx_X11_length) 33 = .ok (.ireturn, 1) := by decide +kernel
theorem dx_X11_length_34 : decode (go_cc mx_X11_length) 34 = .ok (.aload_n 0, 1) := by decide +kernel
theorem dx_X11_length_35 : decode (go_cc mx_X11_length) 35 = .ok (.getfield 69, 3) := by decide +kernel
theorem dx_X11_length_38 : decode (go_cc mx_X11_length) 38 = .ok (.iload_n 1, 1) := by decide +kernel
theorem dx_X11_length_39 : decode (go_cc mx_X11_length) 39 = .ok (.invokevirtual 310, 3) := by decide +kernel
theorem dx_X11_length_42 : decode (go_cc mx_X11_length) 42 = .ok (.aload_n 0, 1) := by decide +kernel
theorem dx_X11_length_43 : decode (go_cc mx_X11_length) 43 = .ok (.getfield 69, 3) := by decide +kernel
theorem dx_X11_length_46 : decode (go_cc mx_X11_length) 46 = .ok (.getfield 313, 3) := by decide +kernel
theorem dx_X11_length_49 : decode (go_cc mx_X11_length) 49 = .ok (.ireturn, 1) := by decide +kernel
theorem dx_X11_beginnings_0 : decode (go_cc mx_X11_beginnings) 0 = .ok (.aload_n 0, 1) := by decide +kernel
theorem dx_X11_beginnings_1 : decode (go_cc mx_X11_beginnings) 1 = .ok (.invokevirtual 183, 3) := by decide +kernel
theorem dx_X11_beginnings_4 : decode (go_cc mx_X11_beginnings) 4 = .ok (.aload_n 0, 1) := by decide +kernel
theorem dx_X11_beginnings_5 : decode (go_cc mx_X11_beginnings) 5 = .ok (.getfield 42, 3) := by decide +kernel
theorem dx_X11_beginnings_8 : decode (go_cc mx_X11_beginnings) 8 = .ok (.aload_n 0, 1) := by decide +kernel
theorem dx_X11_beginnings_9 : decode (go_cc mx_X11_beginnings) 9 = .ok (.getfield 19, 3) := by decide +kernel
theorem dx_X11_beginnings_12 : decode (go_cc mx_X11_beginnings) 12 = .ok (.getfield 170, 3) := by decide +kernel
theorem dx_X11_beginnings_15 : decode (go_cc mx_X11_beginnings) 15 = .ok (.iconst 0, 1) := by decide +kernel
theorem dx_X11_beginnings_16 : decode (go_cc mx_X11_beginnings) 16 = .ok (.invokevirtual 267, 3) := by decide +kernel
theorem dx_X11_beginnings_19 : decode (go_cc mx_X11_beginnings) 19 = .ok (.ireturn, 1) := by decide +kernel
theorem dx_X11_pieces_0 : decode (go_cc mx_X11_pieces) 0 = .ok (.iload_n 1, 1) := by decide +kernel
theorem dx_X11_pieces_1 : decode (go_cc mx_X11_pieces) 1 = .ok (.iconst (-1), 1) := by decide +kernel
theorem dx_X11_pieces_2 : decode (go_cc mx_X11_pieces) 2 = .ok (.if_icmp .ge 6, 3) := by decide +kernel
theorem dx_X11_pieces_5 : decode (go_cc mx_X11_pieces) 5 = .ok (.bipush (-3), 2) := by decide +kernel
theorem dx_X11_pieces_7 : decode (go_cc mx_X11_pieces) 7 = .ok (.ireturn, 1) := by decide +kernel
theorem dx_X11_pieces_8 : decode (go_cc mx_X11_pieces) 8 = .ok (.aload_n 0, 1) := by decide +kernel
theorem dx_X11_pieces_9 : decode (go_cc mx_X11_pieces) 9 = .ok (.invokevirtual 183, 3) := by decide +kernel
theorem dx_X11_pieces_12 : decode (go_cc mx_X11_pieces) 12 = .ok (.aload_n 0, 1) := by decide +kernel
theorem dx_X11_pieces_13 : decode (go_cc mx_X11_pieces) 13 = .ok (.getfield 42, 3) := by decide +kernel
theorem dx_X11_pieces_16 : decode (go_cc mx_X11_pieces) 16 = .ok (.aload_n 0, 1) := by decide +kernel
theorem dx_X11_pieces_17 : decode (go_cc mx_X11_pieces) 17 = .ok (.getfield 19, 3) := by decide +kernel
theorem dx_X11_pieces_20 : decode (go_cc mx_X11_pieces) 20 = .ok (.getfield 170, 3) := by decide +kernel
theorem dx_X11_pieces_23 : decode (go_cc mx_X11_pieces) 23 = .ok (.invokevirtual 319, 3) := by decide +kernel
theorem dx_X11_pieces_26 : decode (go_cc mx_X11_pieces) 26 = .ok (.istore_n 2, 1) := by decide +kernel
theorem dx_X11_pieces_27 : decode (go_cc mx_X11_pieces) 27 = .ok (.iload_n 1, 1) := by decide +kernel
theorem dx_X11_pieces_28 : decode (go_cc mx_X11_pieces) 28 = .ok (.iconst (-1), 1) := by decide +kernel
theorem dx_X11_pieces_29 : decode (go_cc mx_X11_pieces) 29 = .ok (.if_icmp .eq 8, 3) := by decide +kernel
theorem dx_X11_pieces_32 : decode (go_cc mx_X11_pieces) 32 = .ok (.iload_n 1, 1) := by decide +kernel
theorem dx_X11_pieces_33 : decode (go_cc mx_X11_pieces) 33 = .ok (.iload_n 2, 1) := by decide +kernel
theorem dx_X11_pieces_34 : decode (go_cc mx_X11_pieces) 34 = .ok (.if_icmp .lt 14, 3) := by decide +kernel
theorem dx_X11_pieces_37 : decode (go_cc mx_X11_pieces) 37 = .ok (.iload_n 1, 1) := by decide +kernel
theorem dx_X11_pieces_38 : decode (go_cc mx_X11_pieces) 38 = .ok (.iconst (-1), 1) := by decide +kernel
theorem dx_X11_pieces_39 : decode (go_cc mx_X11_pieces) 39 = .ok (.if_icmp .ne 7, 3) := by decide +kernel
theorem dx_X11_pieces_42 : decode (go_cc mx_X11_pieces) 42 = .ok (.iload_n 2, 1) := by decide +kernel
theorem dx_X11_pieces_43 : decode (go_cc mx_X11_pieces) 43 = .ok (.goto 4, 3) := by decide +kernel
theorem dx_X11_pieces_46 : decode (go_cc mx_X11_pieces) 46 = .ok (.iconst (-1), 1) := by decide +kernel
theorem dx_X11_pieces_47 : decode (go_cc mx_X11_pieces) 47 = .ok (.ireturn, 1) := by decide +kernel
theorem dx_X11_pieces_48 : decode (go_cc mx_X11_pieces) 48 = .ok (.aload_n 0, 1) := by decide +kernel
theorem dx_X11_pieces_49 : decode (go_cc mx_X11_pieces) 49 = .ok (.getfield 42, 3) := by decide +kernel
theorem dx_X11_pieces_52 : decode (go_cc mx_X11_pieces) 52 = .ok (.aload_n 0, 1) := by decide +kernel
theorem dx_X11_pieces_53 : decode (go_cc mx_X11_pieces) 53 = .ok (.getfield 19, 3) := by decide +kernel
theorem dx_X11_pieces_56 : decode (go_cc mx_X11_pieces) 56 = .ok (.getfield 170, 3) := by decide +kernel
theorem dx_X11_pieces_59 : decode (go_cc mx_X11_pieces) 59 = .ok (.iload_n 1, 1) := by decide +kernel
theorem dx_X11_pieces_60 : decode (go_cc mx_X11_pieces) 60 = .ok (.invokevirtual 322, 3) := by decide +kernel
theorem dx_X11_pieces_63 : decode (go_cc mx_X11_pieces) 63 = .ok (.ireturn, 1) := by decide +kernel
theorem dx_X11_turned_0 : decode (go_cc mx_X11_turned) 0 = .ok (.aload_n 0, 1) := by decide +kernel
theorem dx_X11_turned_1 : decode (go_cc mx_X11_turned) 1 = .ok (.invokevirtual 183, 3) := by decide +kernel
theorem dx_X11_turned_4 : decode (go_cc mx_X11_turned) 4 = .ok (.aload_n 0, 1) := by decide +kernel
theorem dx_X11_turned_5 : decode (go_cc mx_X11_turned) 5 = .ok (.getfield 98, 3) := by decide +kernel
theorem dx_X11_turned_8 : decode (go_cc mx_X11_turned) 8 = .ok (.aload_n 0, 1) := by decide +kernel
theorem dx_X11_turned_9 : decode (go_cc mx_X11_turned) 9 = .ok (.getfield 19, 3) := by decide +kernel
theorem dx_X11_turned_12 : decode (go_cc mx_X11_turned) 12 = .ok (.iconst 1, 1) := by decide +kernel
theorem dx_X11_turned_13 : decode (go_cc mx_X11_turned) 13 = .ok (.invokevirtual 297, 3) := by decide +kernel
theorem dx_X11_turned_16 : decode (go_cc mx_X11_turned) 16 = .ok (.aload_n 0, 1) := by decide +kernel
theorem dx_X11_turned_17 : decode (go_cc mx_X11_turned) 17 = .ok (.getfield 98, 3) := by decide +kernel
theorem dx_X11_turned_20 : decode (go_cc mx_X11_turned) 20 = .ok (.aload_n 0, 1) := by decide +kernel
theorem dx_X11_turned_21 : decode (go_cc mx_X11_turned) 21 = .ok (.getfield 33, 3) := by decide +kernel
theorem dx_X11_turned_24 : decode (go_cc mx_X11_turned) 24 = .ok (.aload_n 0, 1) := by decide +kernel
theorem dx_X11_turned_25 : decode (go_cc mx_X11_turned) 25 = .ok (.getfield 19, 3) := by decide +kernel
theorem dx_X11_turned_28 : decode (go_cc mx_X11_turned) 28 = .ok (.getfield 239, 3) := by decide +kernel
theorem dx_X11_turned_31 : decode (go_cc mx_X11_turned) 31 = .ok (.invokevirtual 301, 3) := by decide +kernel
theorem dx_X11_turned_34 : decode (go_cc mx_X11_turned) 34 = .ok (.aload_n 0, 1) := by decide +kernel
theorem dx_X11_turned_35 : decode (go_cc mx_X11_turned) 35 = .ok (.getfield 98, 3) := by decide +kernel
theorem dx_X11_turned_38 : decode (go_cc mx_X11_turned) 38 = .ok (.aload_n 0, 1) := by decide +kernel
theorem dx_X11_turned_39 : decode (go_cc mx_X11_turned) 39 = .ok (.getfield 19, 3) := by decide +kernel
theorem dx_X11_turned_42 : decode (go_cc mx_X11_turned) 42 = .ok (.getfield 170, 3) := by decide +kernel
theorem dx_X11_turned_45 : decode (go_cc mx_X11_turned) 45 = .ok (.iconst 0, 1) := by decide +kernel
theorem dx_X11_turned_46 : decode (go_cc mx_X11_turned) 46 = .ok (.aload_n 0, 1) := by decide +kernel
theorem dx_X11_turned_47 : decode (go_cc mx_X11_turned) 47 = .ok (.getfield 19, 3) := by decide +kernel
theorem dx_X11_turned_50 : decode (go_cc mx_X11_turned) 50 = .ok (.getfield 239, 3) := by decide +kernel
theorem dx_X11_turned_53 : decode (go_cc mx_X11_turned) 53 = .ok (.invokevirtual 242, 3) := by decide +kernel
theorem dx_X11_turned_56 : decode (go_cc mx_X11_turned) 56 = .ok (.ifCond .eq 7, 3) := by decide +kernel
theorem dx_X11_turned_59 : decode (go_cc mx_X11_turned) 59 = .ok (.iconst 1, 1) := by decide +kernel
theorem dx_X11_turned_60 : decode (go_cc mx_X11_turned) 60 = .ok (.goto 4, 3) := by decide +kernel
theorem dx_X11_turned_63 : decode (go_cc mx_X11_turned) 63 = .ok (.iconst 0, 1) := by decide +kernel
theorem dx_X11_turned_64 : decode (go_cc mx_X11_turned) 64 = .ok (.ireturn, 1) := by decide +kernel
theorem dx_X11_viable_0 : decode (go_cc mx_X11_viable) 0 = .ok (.aload_n 0, 1) := by decide +kernel
theorem dx_X11_viable_1 : decode (go_cc mx_X11_viable) 1 = .ok (.invokevirtual 183, 3) := by decide +kernel
theorem dx_X11_viable_4 : decode (go_cc mx_X11_viable) 4 = .ok (.aload_n 0, 1) := by decide +kernel
theorem dx_X11_viable_5 : decode (go_cc mx_X11_viable) 5 = .ok (.getfield 33, 3) := by decide +kernel
theorem dx_X11_viable_8 : decode (go_cc mx_X11_viable) 8 = .ok (.getfield 223, 3) := by decide +kernel
theorem dx_X11_viable_11 : decode (go_cc mx_X11_viable) 11 = .ok (.lstore_n 1, 1) := by decide +kernel
theorem dx_X11_viable_12 : decode (go_cc mx_X11_viable) 12 = .ok (.aload_n 0, 1) := by decide +kernel
theorem dx_X11_viable_13 : decode (go_cc mx_X11_viable) 13 = .ok (.getfield 19, 3) := by decide +kernel
theorem dx_X11_viable_16 : decode (go_cc mx_X11_viable) 16 = .ok (.getfield 239, 3) := by decide +kernel
theorem dx_X11_viable_19 : decode (go_cc mx_X11_viable) 19 = .ok (.ifCond .le 36, 3) := by decide +kernel
theorem dx_X11_viable_22 : decode (go_cc mx_X11_viable) 22 = .ok (.aload_n 0, 1) := by decide +kernel
theorem dx_X11_viable_23 : decode (go_cc mx_X11_viable) 23 = .ok (.getfield 19, 3) := by decide +kernel
theorem dx_X11_viable_26 : decode (go_cc mx_X11_viable) 26 = .ok (.getfield 239, 3) := by decide +kernel
theorem dx_X11_viable_29 : decode (go_cc mx_X11_viable) 29 = .ok (.iconst 1, 1) := by decide +kernel
theorem dx_X11_viable_30 : decode (go_cc mx_X11_viable) 30 = .ok (.isub, 1) := by decide +kernel
theorem dx_X11_viable_31 : decode (go_cc mx_X11_viable) 31 = .ok (.istore_n 3, 1) := by decide +kernel
theorem dx_X11_viable_32 : decode (go_cc mx_X11_viable) 32 = .ok (.aload_n 0, 1) := by decide +kernel
theorem dx_X11_viable_33 : decode (go_cc mx_X11_viable) 33 = .ok (.getfield 42, 3) := by decide +kernel
theorem dx_X11_viable_36 : decode (go_cc mx_X11_viable) 36 = .ok (.aload_n 0, 1) := by decide +kernel
theorem dx_X11_viable_37 : decode (go_cc mx_X11_viable) 37 = .ok (.getfield 33, 3) := by decide +kernel
theorem dx_X11_viable_40 : decode (go_cc mx_X11_viable) 40 = .ok (.iload_n 3, 1) := by decide +kernel
theorem dx_X11_viable_41 : decode (go_cc mx_X11_viable) 41 = .ok (.lconst 1, 1) := by decide +kernel
theorem dx_X11_viable_42 : decode (go_cc mx_X11_viable) 42 = .ok (.aload_n 0, 1) := by decide +kernel
theorem dx_X11_viable_43 : decode (go_cc mx_X11_viable) 43 = .ok (.getfield 19, 3) := by decide +kernel
theorem dx_X11_viable_46 : decode (go_cc mx_X11_viable) 46 = .ok (.iload_n 3, 1) := by decide +kernel
theorem dx_X11_viable_47 : decode (go_cc mx_X11_viable) 47 = .ok (.invokevirtual 325, 3) := by decide +kernel
theorem dx_X11_viable_50 : decode (go_cc mx_X11_viable) 50 = .ok (.lshl, 1) := by decide +kernel
theorem dx_X11_viable_51 : decode (go_cc mx_X11_viable) 51 = .ok (.invokevirtual 328, 3) := by decide +kernel
theorem dx_X11_viable_54 : decode (go_cc mx_X11_viable) 54 = .ok (.lstore_n 1, 1) := by decide +kernel
theorem dx_X11_viable_55 : decode (go_cc mx_X11_viable) 55 = .ok (.lload_n 1, 1) := by decide +kernel
theorem dx_X11_viable_56 : decode (go_cc mx_X11_viable) 56 = .ok (.aload_n 0, 1) := by decide +kernel
theorem dx_X11_viable_57 : decode (go_cc mx_X11_viable) 57 = .ok (.getfield 19, 3) := by decide +kernel
theorem dx_X11_viable_60 : decode (go_cc mx_X11_viable) 60 = .ok (.getfield 170, 3) := by decide +kernel
theorem dx_X11_viable_63 : decode (go_cc mx_X11_viable) 63 = .ok (.lushr, 1) := by decide +kernel
theorem dx_X11_viable_64 : decode (go_cc mx_X11_viable) 64 = .ok (.lconst 1, 1) := by decide +kernel
theorem dx_X11_viable_65 : decode (go_cc mx_X11_viable) 65 = .ok (.land, 1) := by decide +kernel
theorem dx_X11_viable_66 : decode (go_cc mx_X11_viable) 66 = .ok (.l2i, 1) := by decide +kernel
theorem dx_X11_viable_67 : decode (go_cc mx_X11_viable) 67 = .ok (.ireturn, 1) := by decide +kernel
theorem dx_X11_next_0 : decode (go_cc mx_X11_next) 0 = .ok (.aload_n 0, 1) := by decide +kernel
theorem dx_X11_next_1 : decode (go_cc mx_X11_next) 1 = .ok (.invokevirtual 183, 3) := by decide +kernel
theorem dx_X11_next_4 : decode (go_cc mx_X11_next) 4 = .ok (.iconst 0, 1) := by decide +kernel
theorem dx_X11_next_5 : decode (go_cc mx_X11_next) 5 = .ok (.istore_n 1, 1) := by decide +kernel
theorem dx_X11_next_6 : decode (go_cc mx_X11_next) 6 = .ok (.bipush 8, 2) := by decide +kernel
theorem dx_X11_next_8 : decode (go_cc mx_X11_next) 8 = .ok (.istore_n 2, 1) := by decide +kernel
theorem dx_X11_next_9 : decode (go_cc mx_X11_next) 9 = .ok (.iload_n 2, 1) := by decide +kernel
theorem dx_X11_next_10 : decode (go_cc mx_X11_next) 10 = .ok (.bipush 14, 2) := by decide +kernel
theorem dx_X11_next_12 : decode (go_cc mx_X11_next) 12 = .ok (.if_icmp .ge 53, 3) := by decide +kernel
theorem dx_X11_next_15 : decode (go_cc mx_X11_next) 15 = .ok (.aload_n 0, 1) := by decide +kernel
theorem dx_X11_next_16 : decode (go_cc mx_X11_next) 16 = .ok (.getfield 42, 3) := by decide +kernel
theorem dx_X11_next_19 : decode (go_cc mx_X11_next) 19 = .ok (.aload_n 0, 1) := by decide +kernel
theorem dx_X11_next_20 : decode (go_cc mx_X11_next) 20 = .ok (.getfield 33, 3) := by decide +kernel
theorem dx_X11_next_23 : decode (go_cc mx_X11_next) 23 = .ok (.aload_n 0, 1) := by decide +kernel
theorem dx_X11_next_24 : decode (go_cc mx_X11_next) 24 = .ok (.getfield 19, 3) := by decide +kernel
theorem dx_X11_next_27 : decode (go_cc mx_X11_next) 27 = .ok (.getfield 239, 3) := by decide +kernel
theorem dx_X11_next_30 : decode (go_cc mx_X11_next) 30 = .ok (.lconst 1, 1) := by decide +kernel
theorem dx_X11_next_31 : decode (go_cc mx_X11_next) 31 = .ok (.iload_n 2, 1) := by decide +kernel
theorem dx_X11_next_32 : decode (go_cc mx_X11_next) 32 = .ok (.lshl, 1) := by decide +kernel
theorem dx_X11_next_33 : decode (go_cc mx_X11_next) 33 = .ok (.invokevirtual 328, 3) := by decide +kernel
theorem dx_X11_next_36 : decode (go_cc mx_X11_next) 36 = .ok (.lstore_n 3, 1) := by decide +kernel
theorem dx_X11_next_37 : decode (go_cc mx_X11_next) 37 = .ok (.lload_n 3, 1) := by decide +kernel
theorem dx_X11_next_38 : decode (go_cc mx_X11_next) 38 = .ok (.aload_n 0, 1) := by decide +kernel
theorem dx_X11_next_39 : decode (go_cc mx_X11_next) 39 = .ok (.getfield 19, 3) := by decide +kernel
theorem dx_X11_next_42 : decode (go_cc mx_X11_next) 42 = .ok (.getfield 170, 3) := by decide +kernel
theorem dx_X11_next_45 : decode (go_cc mx_X11_next) 45 = .ok (.lushr, 1) := by decide +kernel
theorem dx_X11_next_46 : decode (go_cc mx_X11_next) 46 = .ok (.lconst 1, 1) := by decide +kernel
theorem dx_X11_next_47 : decode (go_cc mx_X11_next) 47 = .ok (.land, 1) := by decide +kernel
theorem dx_X11_next_48 : decode (go_cc mx_X11_next) 48 = .ok (.lconst 0, 1) := by decide +kernel
theorem dx_X11_next_49 : decode (go_cc mx_X11_next) 49 = .ok (.lcmp, 1) := by decide +kernel
theorem dx_X11_next_50 : decode (go_cc mx_X11_next) 50 = .ok (.ifCond .eq 9, 3) := by decide +kernel
theorem dx_X11_next_53 : decode (go_cc mx_X11_next) 53 = .ok (.iload_n 1, 1) := by decide +kernel
theorem dx_X11_next_54 : decode (go_cc mx_X11_next) 54 = .ok (.iconst 1, 1) := by decide +kernel
theorem dx_X11_next_55 : decode (go_cc mx_X11_next) 55 = .ok (.iload_n 2, 1) := by decide +kernel
theorem dx_X11_next_56 : decode (go_cc mx_X11_next) 56 = .ok (.ishl, 1) := by decide +kernel
theorem dx_X11_next_57 : decode (go_cc mx_X11_next) 57 = .ok (.ior, 1) := by decide +kernel
theorem dx_X11_next_58 : decode (go_cc mx_X11_next) 58 = .ok (.istore_n 1, 1) := by decide +kernel
theorem dx_X11_next_59 : decode (go_cc mx_X11_next) 59 = .ok (.iinc 2 1, 3) := by decide +kernel
theorem dx_X11_next_62 : decode (go_cc mx_X11_next) 62 = .ok (.goto (-53), 3) := by decide +kernel
theorem dx_X11_next_65 : decode (go_cc mx_X11_next) 65 = .ok (.iload_n 1, 1) := by decide +kernel
theorem dx_X11_next_66 : decode (go_cc mx_X11_next) 66 = .ok (.ireturn, 1) := by decide +kernel
theorem dx_X11_lengths_0 : decode (go_cc mx_X11_lengths) 0 = .ok (.aload_n 0, 1) := by decide +kernel
theorem dx_X11_lengths_1 : decode (go_cc mx_X11_lengths) 1 = .ok (.invokevirtual 183, 3) := by decide +kernel
theorem dx_X11_lengths_4 : decode (go_cc mx_X11_lengths) 4 = .ok (.aload_n 0, 1) := by decide +kernel
theorem dx_X11_lengths_5 : decode (go_cc mx_X11_lengths) 5 = .ok (.iload_n 1, 1) := by decide +kernel
theorem dx_X11_lengths_6 : decode (go_cc mx_X11_lengths) 6 = .ok (.invokevirtual 205, 3) := by decide +kernel
theorem dx_X11_lengths_9 : decode (go_cc mx_X11_lengths) 9 = .ok (.ifCond .ne 6, 3) := by decide +kernel
theorem dx_X11_lengths_12 : decode (go_cc mx_X11_lengths) 12 = .ok (.bipush (-2), 2) := by decide +kernel
theorem dx_X11_lengths_14 : decode (go_cc mx_X11_lengths) 14 = .ok (.ireturn, 1) := by decide +kernel
theorem dx_X11_lengths_15 : decode (go_cc mx_X11_lengths) 15 = .ok (.aload_n 0, 1) := by decide +kernel
theorem dx_X11_lengths_16 : decode (go_cc mx_X11_lengths) 16 = .ok (.invokevirtual 332, 3) := by decide +kernel
theorem dx_X11_lengths_19 : decode (go_cc mx_X11_lengths) 19 = .ok (.aload_n 0, 1) := by decide +kernel
theorem dx_X11_lengths_20 : decode (go_cc mx_X11_lengths) 20 = .ok (.getfield 73, 3) := by decide +kernel
theorem dx_X11_lengths_23 : decode (go_cc mx_X11_lengths) 23 = .ok (.iload_n 1, 1) := by decide +kernel
theorem dx_X11_lengths_24 : decode (go_cc mx_X11_lengths) 24 = .ok (.iconst 0, 1) := by decide +kernel
theorem dx_X11_lengths_25 : decode (go_cc mx_X11_lengths) 25 = .ok (.invokevirtual 267, 3) := by decide +kernel
theorem dx_X11_lengths_28 : decode (go_cc mx_X11_lengths) 28 = .ok (.ireturn, 1) := by decide +kernel
theorem dx_X11_shapes_0 : decode (go_cc mx_X11_shapes) 0 = .ok (.aload_n 0, 1) := by decide +kernel
theorem dx_X11_shapes_1 : decode (go_cc mx_X11_shapes) 1 = .ok (.iload_n 1, 1) := by decide +kernel
theorem dx_X11_shapes_2 : decode (go_cc mx_X11_shapes) 2 = .ok (.invokevirtual 167, 3) := by decide +kernel
theorem dx_X11_shapes_5 : decode (go_cc mx_X11_shapes) 5 = .ok (.ifCond .ne 7, 3) := by decide +kernel
theorem dx_X11_shapes_8 : decode (go_cc mx_X11_shapes) 8 = .ok (.ldc2_w 237, 3) := by decide +kernel
theorem dx_X11_shapes_11 : decode (go_cc mx_X11_shapes) 11 = .ok (.lreturn, 1) := by decide +kernel
theorem dx_X11_shapes_12 : decode (go_cc mx_X11_shapes) 12 = .ok (.iload_n 2, 1) := by decide +kernel
theorem dx_X11_shapes_13 : decode (go_cc mx_X11_shapes) 13 = .ok (.iconst 1, 1) := by decide +kernel
theorem dx_X11_shapes_14 : decode (go_cc mx_X11_shapes) 14 = .ok (.if_icmp .lt 9, 3) := by decide +kernel
theorem dx_X11_shapes_17 : decode (go_cc mx_X11_shapes) 17 = .ok (.iload_n 2, 1) := by decide +kernel
theorem dx_X11_shapes_18 : decode (go_cc mx_X11_shapes) 18 = .ok (.bipush 14, 2) := by decide +kernel
theorem dx_X11_shapes_20 : decode (go_cc mx_X11_shapes) 20 = .ok (.if_icmp .le 7, 3) := by decide +kernel
theorem dx_X11_shapes_23 : decode (go_cc mx_X11_shapes) 23 = .ok (.ldc2_w 335, 3) := by decide +kernel
theorem dx_X11_shapes_26 : decode (go_cc mx_X11_shapes) 26 = .ok (.lreturn, 1) := by decide +kernel
theorem dx_X11_shapes_27 : decode (go_cc mx_X11_shapes) 27 = .ok (.aload_n 0, 1) := by decide +kernel
theorem dx_X11_shapes_28 : decode (go_cc mx_X11_shapes) 28 = .ok (.invokevirtual 183, 3) := by decide +kernel
theorem dx_X11_shapes_31 : decode (go_cc mx_X11_shapes) 31 = .ok (.aload_n 0, 1) := by decide +kernel
theorem dx_X11_shapes_32 : decode (go_cc mx_X11_shapes) 32 = .ok (.invokevirtual 332, 3) := by decide +kernel
theorem dx_X11_shapes_35 : decode (go_cc mx_X11_shapes) 35 = .ok (.aload_n 0, 1) := by decide +kernel
theorem dx_X11_shapes_36 : decode (go_cc mx_X11_shapes) 36 = .ok (.getfield 76, 3) := by decide +kernel
theorem dx_X11_shapes_39 : decode (go_cc mx_X11_shapes) 39 = .ok (.getfield 337, 3) := by decide +kernel
theorem dx_X11_shapes_42 : decode (go_cc mx_X11_shapes) 42 = .ok (.aload_n 0, 1) := by decide +kernel
theorem dx_X11_shapes_43 : decode (go_cc mx_X11_shapes) 43 = .ok (.getfield 109, 3) := by decide +kernel
theorem dx_X11_shapes_46 : decode (go_cc mx_X11_shapes) 46 = .ok (.if_icmp .eq 23, 3) := by decide +kernel
theorem dx_X11_shapes_49 : decode (go_cc mx_X11_shapes) 49 = .ok (.aload_n 0, 1) := by decide +kernel
theorem dx_X11_shapes_50 : decode (go_cc mx_X11_shapes) 50 = .ok (.getfield 76, 3) := by decide +kernel
theorem dx_X11_shapes_53 : decode (go_cc mx_X11_shapes) 53 = .ok (.bipush 14, 2) := by decide +kernel
theorem dx_X11_shapes_55 : decode (go_cc mx_X11_shapes) 55 = .ok (.invokevirtual 340, 3) := by decide +kernel
theorem dx_X11_shapes_58 : decode (go_cc mx_X11_shapes) 58 = .ok (.aload_n 0, 1) := by decide +kernel
theorem dx_X11_shapes_59 : decode (go_cc mx_X11_shapes) 59 = .ok (.getfield 76, 3) := by decide +kernel
theorem dx_X11_shapes_62 : decode (go_cc mx_X11_shapes) 62 = .ok (.aload_n 0, 1) := by decide +kernel
theorem dx_X11_shapes_63 : decode (go_cc mx_X11_shapes) 63 = .ok (.getfield 109, 3) := by decide +kernel
theorem dx_X11_shapes_66 : decode (go_cc mx_X11_shapes) 66 = .ok (.putfield 337, 3) := by decide +kernel
theorem dx_X11_shapes_69 : decode (go_cc mx_X11_shapes) 69 = .ok (.aload_n 0, 1) := by decide +kernel
theorem dx_X11_shapes_70 : decode (go_cc mx_X11_shapes) 70 = .ok (.getfield 76, 3) := by decide +kernel
theorem dx_X11_shapes_73 : decode (go_cc mx_X11_shapes) 73 = .ok (.iload_n 1, 1) := by decide +kernel
theorem dx_X11_shapes_74 : decode (go_cc mx_X11_shapes) 74 = .ok (.iconst 0, 1) := by decide +kernel
theorem dx_X11_shapes_75 : decode (go_cc mx_X11_shapes) 75 = .ok (.iload_n 2, 1) := by decide +kernel
theorem dx_X11_shapes_76 : decode (go_cc mx_X11_shapes) 76 = .ok (.invokevirtual 276, 3) := by decide +kernel
theorem dx_X11_shapes_79 : decode (go_cc mx_X11_shapes) 79 = .ok (.lreturn, 1) := by decide +kernel
theorem dx_X11_changes_0 : decode (go_cc mx_X11_changes) 0 = .ok (.aload_n 0, 1) := by decide +kernel
theorem dx_X11_changes_1 : decode (go_cc mx_X11_changes) 1 = .ok (.invokevirtual 183, 3) := by decide +kernel
theorem dx_X11_changes_4 : decode (go_cc mx_X11_changes) 4 = .ok (.aload_n 0, 1) := by decide +kernel
theorem dx_X11_changes_5 : decode (go_cc mx_X11_changes) 5 = .ok (.invokevirtual 342, 3) := by decide +kernel
theorem dx_X11_changes_8 : decode (go_cc mx_X11_changes) 8 = .ok (.lstore_n 1, 1) := by decide +kernel
theorem dx_X11_changes_9 : decode (go_cc mx_X11_changes) 9 = .ok (.lload_n 1, 1) := by decide +kernel
theorem dx_X11_changes_10 : decode (go_cc mx_X11_changes) 10 = .ok (.lconst 0, 1) := by decide +kernel
theorem dx_X11_changes_11 : decode (go_cc mx_X11_changes) 11 = .ok (.lcmp, 1) := by decide +kernel
theorem dx_X11_changes_12 : decode (go_cc mx_X11_changes) 12 = .ok (.ifCond .ge 7, 3) := by decide +kernel
theorem dx_X11_changes_15 : decode (go_cc mx_X11_changes) 15 = .ok (.iconst (-1), 1) := by decide +kernel
theorem dx_X11_changes_16 : decode (go_cc mx_X11_changes) 16 = .ok (.goto 7, 3) := by decide +kernel
theorem dx_X11_changes_19 : decode (go_cc mx_X11_changes) 19 = .ok (.lload_n 1, 1) := by decide +kernel
theorem dx_X11_changes_20 : decode (go_cc mx_X11_changes) 20 = .ok (.invokestatic 345, 3) := by decide +kernel
theorem dx_X11_changes_23 : decode (go_cc mx_X11_changes) 23 = .ok (.ireturn, 1) := by decide +kernel
theorem dx_X11_changed_0 : decode (go_cc mx_X11_changed) 0 = .ok (.iload_n 1, 1) := by decide +kernel
theorem dx_X11_changed_1 : decode (go_cc mx_X11_changed) 1 = .ok (.ifCond .ge 6, 3) := by decide +kernel
theorem dx_X11_changed_4 : decode (go_cc mx_X11_changed) 4 = .ok (.bipush (-3), 2) := by decide +kernel
theorem dx_X11_changed_6 : decode (go_cc mx_X11_changed) 6 = .ok (.ireturn, 1) := by decide +kernel
theorem dx_X11_changed_7 : decode (go_cc mx_X11_changed) 7 = .ok (.aload_n 0, 1) := by decide +kernel
theorem dx_X11_changed_8 : decode (go_cc mx_X11_changed) 8 = .ok (.invokevirtual 183, 3) := by decide +kernel
theorem dx_X11_changed_11 : decode (go_cc mx_X11_changed) 11 = .ok (.aload_n 0, 1) := by decide +kernel
theorem dx_X11_changed_12 : decode (go_cc mx_X11_changed) 12 = .ok (.invokevirtual 342, 3) := by decide +kernel
theorem dx_X11_changed_15 : decode (go_cc mx_X11_changed) 15 = .ok (.lstore_n 2, 1) := by decide +kernel
theorem dx_X11_changed_16 : decode (go_cc mx_X11_changed) 16 = .ok (.lload_n 2, 1) := by decide +kernel
theorem dx_X11_changed_17 : decode (go_cc mx_X11_changed) 17 = .ok (.lconst 0, 1) := by decide +kernel
theorem dx_X11_changed_18 : decode (go_cc mx_X11_changed) 18 = .ok (.lcmp, 1) := by decide +kernel
theorem dx_X11_changed_19 : decode (go_cc mx_X11_changed) 19 = .ok (.ifCond .lt 14, 3) := by decide +kernel
theorem dx_X11_changed_22 : decode (go_cc mx_X11_changed) 22 = .ok (.iload_n 1, 1) := by decide +kernel
theorem dx_X11_changed_23 : decode (go_cc mx_X11_changed) 23 = .ok (.aload_n 0, 1) := by decide +kernel
theorem dx_X11_changed_24 : decode (go_cc mx_X11_changed) 24 = .ok (.getfield 19, 3) := by decide +kernel
theorem dx_X11_changed_27 : decode (go_cc mx_X11_changed) 27 = .ok (.getfield 239, 3) := by decide +kernel
theorem dx_X11_changed_30 : decode (go_cc mx_X11_changed) 30 = .ok (.if_icmp .lt 7, 3) := by decide +kernel
theorem dx_X11_changed_33 : decode (go_cc mx_X11_changed) 33 = .ok (.iconst (-1), 1) := by decide +kernel
theorem dx_X11_changed_34 : decode (go_cc mx_X11_changed) 34 = .ok (.goto 18, 3) := by decide +kernel
theorem dx_X11_changed_37 : decode (go_cc mx_X11_changed) 37 = .ok (.lload_n 2, 1) := by decide +kernel
theorem dx_X11_changed_38 : decode (go_cc mx_X11_changed) 38 = .ok (.aload_n 0, 1) := by decide +kernel
theorem dx_X11_changed_39 : decode (go_cc mx_X11_changed) 39 = .ok (.getfield 19, 3) := by decide +kernel
theorem dx_X11_changed_42 : decode (go_cc mx_X11_changed) 42 = .ok (.getfield 239, 3) := by decide +kernel
theorem dx_X11_changed_45 : decode (go_cc mx_X11_changed) 45 = .ok (.iconst 1, 1) := by decide +kernel
theorem dx_X11_changed_46 : decode (go_cc mx_X11_changed) 46 = .ok (.isub, 1) := by decide +kernel
theorem dx_X11_changed_47 : decode (go_cc mx_X11_changed) 47 = .ok (.iload_n 1, 1) := by decide +kernel
theorem dx_X11_changed_48 : decode (go_cc mx_X11_changed) 48 = .ok (.isub, 1) := by decide +kernel
theorem dx_X11_changed_49 : decode (go_cc mx_X11_changed) 49 = .ok (.invokestatic 348, 3) := by decide +kernel
theorem dx_X11_changed_52 : decode (go_cc mx_X11_changed) 52 = .ok (.ireturn, 1) := by decide +kernel
theorem dx_X11_words_0 : decode (go_cc mx_X11_words) 0 = .ok (.iload_n 1, 1) := by decide +kernel
theorem dx_X11_words_1 : decode (go_cc mx_X11_words) 1 = .ok (.iconst 1, 1) := by decide +kernel
theorem dx_X11_words_2 : decode (go_cc mx_X11_words) 2 = .ok (.if_icmp .lt 8, 3) := by decide +kernel
theorem dx_X11_words_5 : decode (go_cc mx_X11_words) 5 = .ok (.iload_n 1, 1) := by decide +kernel
theorem dx_X11_words_6 : decode (go_cc mx_X11_words) 6 = .ok (.iconst 4, 1) := by decide +kernel
theorem dx_X11_words_7 : decode (go_cc mx_X11_words) 7 = .ok (.if_icmp .le 6, 3) := by decide +kernel
theorem dx_X11_words_10 : decode (go_cc mx_X11_words) 10 = .ok (.bipush (-3), 2) := by decide +kernel
theorem dx_X11_words_12 : decode (go_cc mx_X11_words) 12 = .ok (.ireturn, 1) := by decide +kernel
theorem dx_X11_words_13 : decode (go_cc mx_X11_words) 13 = .ok (.aload_n 0, 1) := by decide +kernel
theorem dx_X11_words_14 : decode (go_cc mx_X11_words) 14 = .ok (.invokevirtual 183, 3) := by decide +kernel
theorem dx_X11_words_17 : decode (go_cc mx_X11_words) 17 = .ok (.aload_n 0, 1) := by decide +kernel
theorem dx_X11_words_18 : decode (go_cc mx_X11_words) 18 = .ok (.invokevirtual 352, 3) := by decide +kernel
theorem dx_X11_words_21 : decode (go_cc mx_X11_words) 21 = .ok (.aload_n 0, 1) := by decide +kernel
theorem dx_X11_words_22 : decode (go_cc mx_X11_words) 22 = .ok (.getfield 91, 3) := by decide +kernel
theorem dx_X11_words_25 : decode (go_cc mx_X11_words) 25 = .ok (.aload_n 0, 1) := by decide +kernel
theorem dx_X11_words_26 : decode (go_cc mx_X11_words) 26 = .ok (.getfield 19, 3) := by decide +kernel
theorem dx_X11_words_29 : decode (go_cc mx_X11_words) 29 = .ok (.getfield 170, 3) := by decide +kernel
theorem dx_X11_words_32 : decode (go_cc mx_X11_words) 32 = .ok (.iload_n 1, 1) := by decide +kernel
theorem dx_X11_words_33 : decode (go_cc mx_X11_words) 33 = .ok (.invokevirtual 355, 3) := by decide +kernel
theorem dx_X11_words_36 : decode (go_cc mx_X11_words) 36 = .ok (.ireturn, 1) := by decide +kernel
theorem dx_X11_first_0 : decode (go_cc mx_X11_first) 0 = .ok (.iload_n 1, 1) := by decide +kernel
theorem dx_X11_first_1 : decode (go_cc mx_X11_first) 1 = .ok (.iconst 1, 1) := by decide +kernel
theorem dx_X11_first_2 : decode (go_cc mx_X11_first) 2 = .ok (.if_icmp .lt 12, 3) := by decide +kernel
theorem dx_X11_first_5 : decode (go_cc mx_X11_first) 5 = .ok (.iload_n 1, 1) := by decide +kernel
theorem dx_X11_first_6 : decode (go_cc mx_X11_first) 6 = .ok (.iconst 4, 1) := by decide +kernel
theorem dx_X11_first_7 : decode (go_cc mx_X11_first) 7 = .ok (.if_icmp .gt 7, 3) := by decide +kernel
theorem dx_X11_first_10 : decode (go_cc mx_X11_first) 10 = .ok (.iload_n 2, 1) := by decide +kernel
theorem dx_X11_first_11 : decode (go_cc mx_X11_first) 11 = .ok (.ifCond .ge 6, 3) := by decide +kernel
theorem dx_X11_first_14 : decode (go_cc mx_X11_first) 14 = .ok (.bipush (-3), 2) := by decide +kernel
theorem dx_X11_first_16 : decode (go_cc mx_X11_first) 16 = .ok (.ireturn, 1) := by decide +kernel
theorem dx_X11_first_17 : decode (go_cc mx_X11_first) 17 = .ok (.aload_n 0, 1) := by decide +kernel
theorem dx_X11_first_18 : decode (go_cc mx_X11_first) 18 = .ok (.invokevirtual 183, 3) := by decide +kernel
theorem dx_X11_first_21 : decode (go_cc mx_X11_first) 21 = .ok (.aload_n 0, 1) := by decide +kernel
theorem dx_X11_first_22 : decode (go_cc mx_X11_first) 22 = .ok (.invokevirtual 352, 3) := by decide +kernel
theorem dx_X11_first_25 : decode (go_cc mx_X11_first) 25 = .ok (.iload_n 2, 1) := by decide +kernel
theorem dx_X11_first_26 : decode (go_cc mx_X11_first) 26 = .ok (.iload_n 1, 1) := by decide +kernel
theorem dx_X11_first_27 : decode (go_cc mx_X11_first) 27 = .ok (.if_icmp .ge 22, 3) := by decide +kernel
theorem dx_X11_first_30 : decode (go_cc mx_X11_first) 30 = .ok (.aload_n 0, 1) := by decide +kernel
theorem dx_X11_first_31 : decode (go_cc mx_X11_first) 31 = .ok (.getfield 91, 3) := by decide +kernel
theorem dx_X11_first_34 : decode (go_cc mx_X11_first) 34 = .ok (.aload_n 0, 1) := by decide +kernel
theorem dx_X11_first_35 : decode (go_cc mx_X11_first) 35 = .ok (.getfield 19, 3) := by decide +kernel
theorem dx_X11_first_38 : decode (go_cc mx_X11_first) 38 = .ok (.getfield 170, 3) := by decide +kernel
theorem dx_X11_first_41 : decode (go_cc mx_X11_first) 41 = .ok (.iload_n 1, 1) := by decide +kernel
theorem dx_X11_first_42 : decode (go_cc mx_X11_first) 42 = .ok (.iload_n 2, 1) := by decide +kernel
theorem dx_X11_first_43 : decode (go_cc mx_X11_first) 43 = .ok (.invokevirtual 358, 3) := by decide +kernel
theorem dx_X11_first_46 : decode (go_cc mx_X11_first) 46 = .ok (.goto 4, 3) := by decide +kernel
theorem dx_X11_first_49 : decode (go_cc mx_X11_first) 49 = .ok (.iconst (-1), 1) := by decide +kernel
theorem dx_X11_first_50 : decode (go_cc mx_X11_first) 50 = .ok (.ireturn, 1) := by decide +kernel
theorem dx_X11_tray_0 : decode (go_cc mx_X11_tray) 0 = .ok (.aload_n 0, 1) := by decide +kernel
theorem dx_X11_tray_1 : decode (go_cc mx_X11_tray) 1 = .ok (.iload_n 1, 1) := by decide +kernel
theorem dx_X11_tray_2 : decode (go_cc mx_X11_tray) 2 = .ok (.invokevirtual 362, 3) := by decide +kernel
theorem dx_X11_tray_5 : decode (go_cc mx_X11_tray) 5 = .ok (.ifCond .ne 6, 3) := by decide +kernel
theorem dx_X11_tray_8 : decode (go_cc mx_X11_tray) 8 = .ok (.bipush (-2), 2) := by decide +kernel
theorem dx_X11_tray_10 : decode (go_cc mx_X11_tray) 10 = .ok (.ireturn, 1) := by decide +kernel
theorem dx_X11_tray_11 : decode (go_cc mx_X11_tray) 11 = .ok (.iload_n 2, 1) := by decide +kernel
theorem dx_X11_tray_12 : decode (go_cc mx_X11_tray) 12 = .ok (.ifCond .lt 9, 3) := by decide +kernel
theorem dx_X11_tray_15 : decode (go_cc mx_X11_tray) 15 = .ok (.iload_n 2, 1) := by decide +kernel
theorem dx_X11_tray_16 : decode (go_cc mx_X11_tray) 16 = .ok (.bipush 20, 2) := by decide +kernel
theorem dx_X11_tray_18 : decode (go_cc mx_X11_tray) 18 = .ok (.if_icmp .le 6, 3) := by decide +kernel
theorem dx_X11_tray_21 : decode (go_cc mx_X11_tray) 21 = .ok (.bipush (-3), 2) := by decide +kernel
theorem dx_X11_tray_23 : decode (go_cc mx_X11_tray) 23 = .ok (.ireturn, 1) := by decide +kernel
theorem dx_X11_tray_24 : decode (go_cc mx_X11_tray) 24 = .ok (.iconst 0, 1) := by decide +kernel
theorem dx_X11_tray_25 : decode (go_cc mx_X11_tray) 25 = .ok (.istore_n 3, 1) := by decide +kernel
theorem dx_X11_tray_26 : decode (go_cc mx_X11_tray) 26 = .ok (.iload_n 3, 1) := by decide +kernel
theorem dx_X11_tray_27 : decode (go_cc mx_X11_tray) 27 = .ok (.bipush 20, 2) := by decide +kernel
theorem dx_X11_tray_29 : decode (go_cc mx_X11_tray) 29 = .ok (.if_icmp .ge 23, 3) := by decide +kernel
theorem dx_X11_tray_32 : decode (go_cc mx_X11_tray) 32 = .ok (.aload_n 0, 1) := by decide +kernel
theorem dx_X11_tray_33 : decode (go_cc mx_X11_tray) 33 = .ok (.getfield 101, 3) := by decide +kernel
theorem dx_X11_tray_36 : decode (go_cc mx_X11_tray) 36 = .ok (.iload_n 1, 1) := by decide +kernel
theorem dx_X11_tray_37 : decode (go_cc mx_X11_tray) 37 = .ok (.bipush 20, 2) := by decide +kernel
theorem dx_X11_tray_39 : decode (go_cc mx_X11_tray) 39 = .ok (.imul, 1) := by decide +kernel
theorem dx_X11_tray_40 : decode (go_cc mx_X11_tray) 40 = .ok (.iload_n 3, 1) := by decide +kernel
theorem dx_X11_tray_41 : decode (go_cc mx_X11_tray) 41 = .ok (.iadd, 1) := by decide +kernel
theorem dx_X11_tray_42 : decode (go_cc mx_X11_tray) 42 = .ok (.lconst 0, 1) := by decide +kernel
theorem dx_X11_tray_43 : decode (go_cc mx_X11_tray) 43 = .ok (.invokestatic 365, 3) := by decide +kernel
theorem dx_X11_tray_46 : decode (go_cc mx_X11_tray) 46 = .ok (.iinc 3 1, 3) := by decide +kernel
theorem dx_X11_tray_49 : decode (go_cc mx_X11_tray) 49 = .ok (.goto (-23), 3) := by decide +kernel
theorem dx_X11_tray_52 : decode (go_cc mx_X11_tray) 52 = .ok (.aload_n 0, 1) := by decide +kernel
theorem dx_X11_tray_53 : decode (go_cc mx_X11_tray) 53 = .ok (.getfield 105, 3) := by decide +kernel
theorem dx_X11_tray_56 : decode (go_cc mx_X11_tray) 56 = .ok (.iload_n 1, 1) := by decide +kernel
theorem dx_X11_tray_57 : decode (go_cc mx_X11_tray) 57 = .ok (.iload_n 2, 1) := by decide +kernel
theorem dx_X11_tray_58 : decode (go_cc mx_X11_tray) 58 = .ok (.invokestatic 369, 3) := by decide +kernel
theorem dx_X11_tray_61 : decode (go_cc mx_X11_tray) 61 = .ok (.iconst 0, 1) := by decide +kernel
theorem dx_X11_tray_62 : decode (go_cc mx_X11_tray) 62 = .ok (.ireturn, 1) := by decide +kernel
theorem dx_X11_copy_0 : decode (go_cc mx_X11_copy) 0 = .ok (.aload_n 0, 1) := by decide +kernel
theorem dx_X11_copy_1 : decode (go_cc mx_X11_copy) 1 = .ok (.iload_n 1, 1) := by decide +kernel
theorem dx_X11_copy_2 : decode (go_cc mx_X11_copy) 2 = .ok (.invokevirtual 362, 3) := by decide +kernel
theorem dx_X11_copy_5 : decode (go_cc mx_X11_copy) 5 = .ok (.ifCond .eq 11, 3) := by decide +kernel
theorem dx_X11_copy_8 : decode (go_cc mx_X11_copy) 8 = .ok (.aload_n 0, 1) := by decide +kernel
theorem dx_X11_copy_9 : decode (go_cc mx_X11_copy) 9 = .ok (.iload_n 3, 1) := by decide +kernel
theorem dx_X11_copy_10 : decode (go_cc mx_X11_copy) 10 = .ok (.invokevirtual 264, 3) := by decide +kernel
theorem dx_X11_copy_13 : decode (go_cc mx_X11_copy) 13 = .ok (.ifCond .ne 6, 3) := by decide +kernel
theorem dx_X11_copy_16 : decode (go_cc mx_X11_copy) 16 = .ok (.bipush (-2), 2) := by decide +kernel
theorem dx_X11_copy_18 : decode (go_cc mx_X11_copy) 18 = .ok (.ireturn, 1) := by decide +kernel
theorem dx_X11_copy_19 : decode (go_cc mx_X11_copy) 19 = .ok (.aload_n 0, 1) := by decide +kernel
theorem dx_X11_copy_20 : decode (go_cc mx_X11_copy) 20 = .ok (.getfield 105, 3) := by decide +kernel
theorem dx_X11_copy_23 : decode (go_cc mx_X11_copy) 23 = .ok (.iload_n 1, 1) := by decide +kernel
theorem dx_X11_copy_24 : decode (go_cc mx_X11_copy) 24 = .ok (.invokestatic 192, 3) := by decide +kernel
theorem dx_X11_copy_27 : decode (go_cc mx_X11_copy) 27 = .ok (.istore 4, 2) := by decide +kernel
theorem dx_X11_copy_29 : decode (go_cc mx_X11_copy) 29 = .ok (.iload 4, 2) := by decide +kernel
theorem dx_X11_copy_31 : decode (go_cc mx_X11_copy) 31 = .ok (.iconst (-1), 1) := by decide +kernel
theorem dx_X11_copy_32 : decode (go_cc mx_X11_copy) 32 = .ok (.if_icmp .ne 6, 3) := by decide +kernel
theorem dx_X11_copy_35 : decode (go_cc mx_X11_copy) 35 = .ok (.bipush (-6), 2) := by decide +kernel
theorem dx_X11_copy_37 : decode (go_cc mx_X11_copy) 37 = .ok (.ireturn, 1) := by decide +kernel
theorem dx_X11_copy_38 : decode (go_cc mx_X11_copy) 38 = .ok (.aload_n 0, 1) := by decide +kernel
theorem dx_X11_copy_39 : decode (go_cc mx_X11_copy) 39 = .ok (.getfield 19, 3) := by decide +kernel
theorem dx_X11_copy_42 : decode (go_cc mx_X11_copy) 42 = .ok (.getfield 239, 3) := by decide +kernel
theorem dx_X11_copy_45 : decode (go_cc mx_X11_copy) 45 = .ok (.iload_n 3, 1) := by decide +kernel
theorem dx_X11_copy_46 : decode (go_cc mx_X11_copy) 46 = .ok (.isub, 1) := by decide +kernel
theorem dx_X11_copy_47 : decode (go_cc mx_X11_copy) 47 = .ok (.istore 5, 2) := by decide +kernel
theorem dx_X11_copy_49 : decode (go_cc mx_X11_copy) 49 = .ok (.iload_n 2, 1) := by decide +kernel
theorem dx_X11_copy_50 : decode (go_cc mx_X11_copy) 50 = .ok (.ifCond .lt 12, 3) := by decide +kernel
theorem dx_X11_copy_53 : decode (go_cc mx_X11_copy) 53 = .ok (.iload_n 2, 1) := by decide +kernel
theorem dx_X11_copy_54 : decode (go_cc mx_X11_copy) 54 = .ok (.iload 4, 2) := by decide +kernel
theorem dx_X11_copy_56 : decode (go_cc mx_X11_copy) 56 = .ok (.iload 5, 2) := by decide +kernel
theorem dx_X11_copy_58 : decode (go_cc mx_X11_copy) 58 = .ok (.isub, 1) := by decide +kernel
theorem dx_X11_copy_59 : decode (go_cc mx_X11_copy) 59 = .ok (.if_icmp .le 6, 3) := by decide +kernel
theorem dx_X11_copy_62 : decode (go_cc mx_X11_copy) 62 = .ok (.bipush (-7), 2) := by decide +kernel
theorem dx_X11_copy_64 : decode (go_cc mx_X11_copy) 64 = .ok (.ireturn, 1) := by decide +kernel
theorem dx_X11_copy_65 : decode (go_cc mx_X11_copy) 65 = .ok (.aload_n 0, 1) := by decide +kernel
theorem dx_X11_copy_66 : decode (go_cc mx_X11_copy) 66 = .ok (.invokevirtual 183, 3) := by decide +kernel
theorem dx_X11_copy_69 : decode (go_cc mx_X11_copy) 69 = .ok (.iconst 0, 1) := by decide +kernel
theorem dx_X11_copy_70 : decode (go_cc mx_X11_copy) 70 = .ok (.istore 6, 2) := by decide +kernel
theorem dx_X11_copy_72 : decode (go_cc mx_X11_copy) 72 = .ok (.iload 6, 2) := by decide +kernel
theorem dx_X11_copy_74 : decode (go_cc mx_X11_copy) 74 = .ok (.iload 5, 2) := by decide +kernel
theorem dx_X11_copy_76 : decode (go_cc mx_X11_copy) 76 = .ok (.if_icmp .ge 39, 3) := by decide +kernel
theorem dx_X11_copy_79 : decode (go_cc mx_X11_copy) 79 = .ok (.aload_n 0, 1) := by decide +kernel
theorem dx_X11_copy_80 : decode (go_cc mx_X11_copy) 80 = .ok (.getfield 101, 3) := by decide +kernel
theorem dx_X11_copy_83 : decode (go_cc mx_X11_copy) 83 = .ok (.iload_n 1, 1) := by decide +kernel
theorem dx_X11_copy_84 : decode (go_cc mx_X11_copy) 84 = .ok (.bipush 20, 2) := by decide +kernel
theorem dx_X11_copy_86 : decode (go_cc mx_X11_copy) 86 = .ok (.imul, 1) := by decide +kernel
theorem dx_X11_copy_87 : decode (go_cc mx_X11_copy) 87 = .ok (.iload_n 2, 1) := by decide +kernel
theorem dx_X11_copy_88 : decode (go_cc mx_X11_copy) 88 = .ok (.iadd, 1) := by decide +kernel
theorem dx_X11_copy_89 : decode (go_cc mx_X11_copy) 89 = .ok (.iload 6, 2) := by decide +kernel
theorem dx_X11_copy_91 : decode (go_cc mx_X11_copy) 91 = .ok (.iadd, 1) := by decide +kernel
theorem dx_X11_copy_92 : decode (go_cc mx_X11_copy) 92 = .ok (.aload_n 0, 1) := by decide +kernel
theorem dx_X11_copy_93 : decode (go_cc mx_X11_copy) 93 = .ok (.getfield 42, 3) := by decide +kernel
theorem dx_X11_copy_96 : decode (go_cc mx_X11_copy) 96 = .ok (.iload_n 3, 1) := by decide +kernel
theorem dx_X11_copy_97 : decode (go_cc mx_X11_copy) 97 = .ok (.iload_n 3, 1) := by decide +kernel
theorem dx_X11_copy_98 : decode (go_cc mx_X11_copy) 98 = .ok (.iconst 1, 1) := by decide +kernel
theorem dx_X11_copy_99 : decode (go_cc mx_X11_copy) 99 = .ok (.iadd, 1) := by decide +kernel
theorem dx_X11_copy_100 : decode (go_cc mx_X11_copy) 100 = .ok (.iload 6, 2) := by decide +kernel
theorem dx_X11_copy_102 : decode (go_cc mx_X11_copy) 102 = .ok (.iadd, 1) := by decide +kernel
theorem dx_X11_copy_103 : decode (go_cc mx_X11_copy) 103 = .ok (.invokevirtual 233, 3) := by decide +kernel
theorem dx_X11_copy_106 : decode (go_cc mx_X11_copy) 106 = .ok (.invokestatic 365, 3) := by decide +kernel
theorem dx_X11_copy_109 : decode (go_cc mx_X11_copy) 109 = .ok (.iinc 6 1, 3) := by decide +kernel
theorem dx_X11_copy_112 : decode (go_cc mx_X11_copy) 112 = .ok (.goto (-40), 3) := by decide +kernel
theorem dx_X11_copy_115 : decode (go_cc mx_X11_copy) 115 = .ok (.iload 5, 2) := by decide +kernel
theorem dx_X11_copy_117 : decode (go_cc mx_X11_copy) 117 = .ok (.ireturn, 1) := by decide +kernel
theorem dx_X11_number_0 : decode (go_cc mx_X11_number) 0 = .ok (.aload_n 0, 1) := by decide +kernel
theorem dx_X11_number_1 : decode (go_cc mx_X11_number) 1 = .ok (.iload_n 1, 1) := by decide +kernel
theorem dx_X11_number_2 : decode (go_cc mx_X11_number) 2 = .ok (.invokevirtual 362, 3) := by decide +kernel
theorem dx_X11_number_5 : decode (go_cc mx_X11_number) 5 = .ok (.ifCond .ne 7, 3) := by decide +kernel
theorem dx_X11_number_8 : decode (go_cc mx_X11_number) 8 = .ok (.ldc2_w 237, 3) := by decide +kernel
theorem dx_X11_number_11 : decode (go_cc mx_X11_number) 11 = .ok (.lreturn, 1) := by decide +kernel
theorem dx_X11_number_12 : decode (go_cc mx_X11_number) 12 = .ok (.aload_n 0, 1) := by decide +kernel
theorem dx_X11_number_13 : decode (go_cc mx_X11_number) 13 = .ok (.getfield 105, 3) := by decide +kernel
theorem dx_X11_number_16 : decode (go_cc mx_X11_number) 16 = .ok (.iload_n 1, 1) := by decide +kernel
theorem dx_X11_number_17 : decode (go_cc mx_X11_number) 17 = .ok (.invokestatic 192, 3) := by decide +kernel
theorem dx_X11_number_20 : decode (go_cc mx_X11_number) 20 = .ok (.istore_n 3, 1) := by decide +kernel
theorem dx_X11_number_21 : decode (go_cc mx_X11_number) 21 = .ok (.iload_n 3, 1) := by decide +kernel
theorem dx_X11_number_22 : decode (go_cc mx_X11_number) 22 = .ok (.iconst (-1), 1) := by decide +kernel
theorem dx_X11_number_23 : decode (go_cc mx_X11_number) 23 = .ok (.if_icmp .ne 7, 3) := by decide +kernel
theorem dx_X11_number_26 : decode (go_cc mx_X11_number) 26 = .ok (.ldc2_w 373, 3) := by decide +kernel
theorem dx_X11_number_29 : decode (go_cc mx_X11_number) 29 = .ok (.lreturn, 1) := by decide +kernel
theorem dx_X11_number_30 : decode (go_cc mx_X11_number) 30 = .ok (.iload_n 2, 1) := by decide +kernel
theorem dx_X11_number_31 : decode (go_cc mx_X11_number) 31 = .ok (.ifCond .lt 24, 3) := by decide +kernel
theorem dx_X11_number_34 : decode (go_cc mx_X11_number) 34 = .ok (.iload_n 2, 1) := by decide +kernel
theorem dx_X11_number_35 : decode (go_cc mx_X11_number) 35 = .ok (.iload_n 3, 1) := by decide +kernel
theorem dx_X11_number_36 : decode (go_cc mx_X11_number) 36 = .ok (.if_icmp .ge 19, 3) := by decide +kernel
theorem dx_X11_number_39 : decode (go_cc mx_X11_number) 39 = .ok (.aload_n 0, 1) := by decide +kernel
theorem dx_X11_number_40 : decode (go_cc mx_X11_number) 40 = .ok (.getfield 101, 3) := by decide +kernel
theorem dx_X11_number_43 : decode (go_cc mx_X11_number) 43 = .ok (.iload_n 1, 1) := by decide +kernel
theorem dx_X11_number_44 : decode (go_cc mx_X11_number) 44 = .ok (.bipush 20, 2) := by decide +kernel
theorem dx_X11_number_46 : decode (go_cc mx_X11_number) 46 = .ok (.imul, 1) := by decide +kernel
theorem dx_X11_number_47 : decode (go_cc mx_X11_number) 47 = .ok (.iload_n 2, 1) := by decide +kernel
theorem dx_X11_number_48 : decode (go_cc mx_X11_number) 48 = .ok (.iadd, 1) := by decide +kernel
theorem dx_X11_number_49 : decode (go_cc mx_X11_number) 49 = .ok (.invokestatic 375, 3) := by decide +kernel
theorem dx_X11_number_52 : decode (go_cc mx_X11_number) 52 = .ok (.goto 6, 3) := by decide +kernel
theorem dx_X11_number_55 : decode (go_cc mx_X11_number) 55 = .ok (.ldc2_w 379, 3) := by decide +kernel
theorem dx_X11_number_58 : decode (go_cc mx_X11_number) 58 = .ok (.lreturn, 1) := by decide +kernel
theorem dx_X11_undo_0 : decode (go_cc mx_X11_undo) 0 = .ok (.iload_n 1, 1) := by decide +kernel
theorem dx_X11_undo_1 : decode (go_cc mx_X11_undo) 1 = .ok (.iconst 1, 1) := by decide +kernel
theorem dx_X11_undo_2 : decode (go_cc mx_X11_undo) 2 = .ok (.if_icmp .lt 14, 3) := by decide +kernel
theorem dx_X11_undo_5 : decode (go_cc mx_X11_undo) 5 = .ok (.iload_n 1, 1) := by decide +kernel
theorem dx_X11_undo_6 : decode (go_cc mx_X11_undo) 6 = .ok (.aload_n 0, 1) := by decide +kernel
theorem dx_X11_undo_7 : decode (go_cc mx_X11_undo) 7 = .ok (.getfield 26, 3) := by decide +kernel
theorem dx_X11_undo_10 : decode (go_cc mx_X11_undo) 10 = .ok (.getfield 381, 3) := by decide +kernel
theorem dx_X11_undo_13 : decode (go_cc mx_X11_undo) 13 = .ok (.if_icmp .le 6, 3) := by decide +kernel
theorem dx_X11_undo_16 : decode (go_cc mx_X11_undo) 16 = .ok (.bipush (-3), 2) := by decide +kernel
theorem dx_X11_undo_18 : decode (go_cc mx_X11_undo) 18 = .ok (.ireturn, 1) := by decide +kernel
theorem dx_X11_undo_19 : decode (go_cc mx_X11_undo) 19 = .ok (.aload_n 0, 1) := by decide +kernel
theorem dx_X11_undo_20 : decode (go_cc mx_X11_undo) 20 = .ok (.getfield 26, 3) := by decide +kernel
theorem dx_X11_undo_23 : decode (go_cc mx_X11_undo) 23 = .ok (.aload_n 0, 1) := by decide +kernel
theorem dx_X11_undo_24 : decode (go_cc mx_X11_undo) 24 = .ok (.getfield 19, 3) := by decide +kernel
theorem dx_X11_undo_27 : decode (go_cc mx_X11_undo) 27 = .ok (.iload_n 1, 1) := by decide +kernel
theorem dx_X11_undo_28 : decode (go_cc mx_X11_undo) 28 = .ok (.invokevirtual 382, 3) := by decide +kernel
theorem dx_X11_undo_31 : decode (go_cc mx_X11_undo) 31 = .ok (.aload_n 0, 1) := by decide +kernel
theorem dx_X11_undo_32 : decode (go_cc mx_X11_undo) 32 = .ok (.dup, 1) := by decide +kernel
theorem dx_X11_undo_33 : decode (go_cc mx_X11_undo) 33 = .ok (.getfield 109, 3) := by decide +kernel
theorem dx_X11_undo_36 : decode (go_cc mx_X11_undo) 36 = .ok (.iconst 1, 1) := by decide +kernel
theorem dx_X11_undo_37 : decode (go_cc mx_X11_undo) 37 = .ok (.iadd, 1) := by decide +kernel
theorem dx_X11_undo_38 : decode (go_cc mx_X11_undo) 38 = .ok (.putfield 109, 3) := by decide +kernel
theorem dx_X11_undo_41 : decode (go_cc mx_X11_undo) 41 = .ok (.aload_n 0, 1) := by decide +kernel
theorem dx_X11_undo_42 : decode (go_cc mx_X11_undo) 42 = .ok (.getfield 26, 3) := by decide +kernel
theorem dx_X11_undo_45 : decode (go_cc mx_X11_undo) 45 = .ok (.getfield 381, 3) := by decide +kernel
theorem dx_X11_undo_48 : decode (go_cc mx_X11_undo) 48 = .ok (.ireturn, 1) := by decide +kernel
theorem dx_X11_image_0 : decode (go_cc mx_X11_image) 0 = .ok (.iload_n 1, 1) := by decide +kernel
theorem dx_X11_image_1 : decode (go_cc mx_X11_image) 1 = .ok (.ifCond .lt 8, 3) := by decide +kernel
theorem dx_X11_image_4 : decode (go_cc mx_X11_image) 4 = .ok (.iload_n 1, 1) := by decide +kernel
theorem dx_X11_image_5 : decode (go_cc mx_X11_image) 5 = .ok (.iconst 2, 1) := by decide +kernel
theorem dx_X11_image_6 : decode (go_cc mx_X11_image) 6 = .ok (.if_icmp .lt 6, 3) := by decide +kernel
theorem dx_X11_image_9 : decode (go_cc mx_X11_image) 9 = .ok (.bipush (-2), 2) := by decide +kernel
theorem dx_X11_image_11 : decode (go_cc mx_X11_image) 11 = .ok (.ireturn, 1) := by decide +kernel
theorem dx_X11_image_12 : decode (go_cc mx_X11_image) 12 = .ok (.aload_n 0, 1) := by decide +kernel
theorem dx_X11_image_13 : decode (go_cc mx_X11_image) 13 = .ok (.getfield 26, 3) := by decide +kernel
theorem dx_X11_image_16 : decode (go_cc mx_X11_image) 16 = .ok (.aload_n 0, 1) := by decide +kernel
theorem dx_X11_image_17 : decode (go_cc mx_X11_image) 17 = .ok (.getfield 19, 3) := by decide +kernel
theorem dx_X11_image_20 : decode (go_cc mx_X11_image) 20 = .ok (.iload_n 1, 1) := by decide +kernel
theorem dx_X11_image_21 : decode (go_cc mx_X11_image) 21 = .ok (.invokevirtual 385, 3) := by decide +kernel
theorem dx_X11_image_24 : decode (go_cc mx_X11_image) 24 = .ok (.iconst 0, 1) := by decide +kernel
theorem dx_X11_image_25 : decode (go_cc mx_X11_image) 25 = .ok (.ireturn, 1) := by decide +kernel
theorem dx_X11_restore_0 : decode (go_cc mx_X11_restore) 0 = .ok (.iload_n 1, 1) := by decide +kernel
theorem dx_X11_restore_1 : decode (go_cc mx_X11_restore) 1 = .ok (.ifCond .lt 8, 3) := by decide +kernel
theorem dx_X11_restore_4 : decode (go_cc mx_X11_restore) 4 = .ok (.iload_n 1, 1) := by decide +kernel
theorem dx_X11_restore_5 : decode (go_cc mx_X11_restore) 5 = .ok (.iconst 2, 1) := by decide +kernel
theorem dx_X11_restore_6 : decode (go_cc mx_X11_restore) 6 = .ok (.if_icmp .lt 6, 3) := by decide +kernel
theorem dx_X11_restore_9 : decode (go_cc mx_X11_restore) 9 = .ok (.bipush (-2), 2) := by decide +kernel
theorem dx_X11_restore_11 : decode (go_cc mx_X11_restore) 11 = .ok (.ireturn, 1) := by decide +kernel
theorem dx_X11_restore_12 : decode (go_cc mx_X11_restore) 12 = .ok (.aload_n 0, 1) := by decide +kernel
theorem dx_X11_restore_13 : decode (go_cc mx_X11_restore) 13 = .ok (.getfield 26, 3) := by decide +kernel
theorem dx_X11_restore_16 : decode (go_cc mx_X11_restore) 16 = .ok (.aload_n 0, 1) := by decide +kernel
theorem dx_X11_restore_17 : decode (go_cc mx_X11_restore) 17 = .ok (.getfield 19, 3) := by decide +kernel
theorem dx_X11_restore_20 : decode (go_cc mx_X11_restore) 20 = .ok (.iload_n 1, 1) := by decide +kernel
theorem dx_X11_restore_21 : decode (go_cc mx_X11_restore) 21 = .ok (.invokevirtual 388, 3) := by decide +kernel
theorem dx_X11_restore_24 : decode (go_cc mx_X11_restore) 24 = .ok (.ifCond .ne 6, 3) := by decide +kernel
theorem dx_X11_restore_27 : decode (go_cc mx_X11_restore) 27 = .ok (.bipush (-6), 2) := by decide +kernel
theorem dx_X11_restore_29 : decode (go_cc mx_X11_restore) 29 = .ok (.ireturn, 1) := by decide +kernel
theorem dx_X11_restore_30 : decode (go_cc mx_X11_restore) 30 = .ok (.aload_n 0, 1) := by decide +kernel
theorem dx_X11_restore_31 : decode (go_cc mx_X11_restore) 31 = .ok (.dup, 1) := by decide +kernel
theorem dx_X11_restore_32 : decode (go_cc mx_X11_restore) 32 = .ok (.getfield 109, 3) := by decide +kernel
theorem dx_X11_restore_35 : decode (go_cc mx_X11_restore) 35 = .ok (.iconst 1, 1) := by decide +kernel
theorem dx_X11_restore_36 : decode (go_cc mx_X11_restore) 36 = .ok (.iadd, 1) := by decide +kernel
theorem dx_X11_restore_37 : decode (go_cc mx_X11_restore) 37 = .ok (.putfield 109, 3) := by decide +kernel
theorem dx_X11_restore_40 : decode (go_cc mx_X11_restore) 40 = .ok (.iconst 0, 1) := by decide +kernel
theorem dx_X11_restore_41 : decode (go_cc mx_X11_restore) 41 = .ok (.ireturn, 1) := by decide +kernel
theorem dx_X11_count_0 : decode (go_cc mx_X11_count) 0 = .ok (.iload_n 1, 1) := by decide +kernel
theorem dx_X11_count_1 : decode (go_cc mx_X11_count) 1 = .ok (.tableswitch 122 0 7 #[47, 58, 66, 78, 90, 98, 106, 114], 47) := by decide +kernel
theorem dx_X11_count_48 : decode (go_cc mx_X11_count) 48 = .ok (.aload_n 0, 1) := by decide +kernel
theorem dx_X11_count_49 : decode (go_cc mx_X11_count) 49 = .ok (.getfield 19, 3) := by decide +kernel
theorem dx_X11_count_52 : decode (go_cc mx_X11_count) 52 = .ok (.invokevirtual 159, 3) := by decide +kernel
theorem dx_X11_count_55 : decode (go_cc mx_X11_count) 55 = .ok (.invokestatic 162, 3) := by decide +kernel
theorem dx_X11_count_58 : decode (go_cc mx_X11_count) 58 = .ok (.ireturn, 1) := by decide +kernel
theorem dx_X11_count_59 : decode (go_cc mx_X11_count) 59 = .ok (.aload_n 0, 1) := by decide +kernel
theorem dx_X11_count_60 : decode (go_cc mx_X11_count) 60 = .ok (.getfield 19, 3) := by decide +kernel
theorem dx_X11_count_63 : decode (go_cc mx_X11_count) 63 = .ok (.invokevirtual 159, 3) := by decide +kernel
theorem dx_X11_count_66 : decode (go_cc mx_X11_count) 66 = .ok (.ireturn, 1) := by decide +kernel
theorem dx_X11_count_67 : decode (go_cc mx_X11_count) 67 = .ok (.aload_n 0, 1) := by decide +kernel
theorem dx_X11_count_68 : decode (go_cc mx_X11_count) 68 = .ok (.invokevirtual 183, 3) := by decide +kernel
theorem dx_X11_count_71 : decode (go_cc mx_X11_count) 71 = .ok (.aload_n 0, 1) := by decide +kernel
theorem dx_X11_count_72 : decode (go_cc mx_X11_count) 72 = .ok (.getfield 33, 3) := by decide +kernel
theorem dx_X11_count_75 : decode (go_cc mx_X11_count) 75 = .ok (.getfield 392, 3) := by decide +kernel
theorem dx_X11_count_78 : decode (go_cc mx_X11_count) 78 = .ok (.ireturn, 1) := by decide +kernel
theorem dx_X11_count_79 : decode (go_cc mx_X11_count) 79 = .ok (.aload_n 0, 1) := by decide +kernel
theorem dx_X11_count_80 : decode (go_cc mx_X11_count) 80 = .ok (.invokevirtual 183, 3) := by decide +kernel
theorem dx_X11_count_83 : decode (go_cc mx_X11_count) 83 = .ok (.aload_n 0, 1) := by decide +kernel
theorem dx_X11_count_84 : decode (go_cc mx_X11_count) 84 = .ok (.getfield 33, 3) := by decide +kernel
theorem dx_X11_count_87 : decode (go_cc mx_X11_count) 87 = .ok (.getfield 395, 3) := by decide +kernel
theorem dx_X11_count_90 : decode (go_cc mx_X11_count) 90 = .ok (.ireturn, 1) := by decide +kernel
theorem dx_X11_count_91 : decode (go_cc mx_X11_count) 91 = .ok (.aload_n 0, 1) := by decide +kernel
theorem dx_X11_count_92 : decode (go_cc mx_X11_count) 92 = .ok (.getfield 19, 3) := by decide +kernel
theorem dx_X11_count_95 : decode (go_cc mx_X11_count) 95 = .ok (.getfield 170, 3) := by decide +kernel
theorem dx_X11_count_98 : decode (go_cc mx_X11_count) 98 = .ok (.ireturn, 1) := by decide +kernel
theorem dx_X11_count_99 : decode (go_cc mx_X11_count) 99 = .ok (.aload_n 0, 1) := by decide +kernel
theorem dx_X11_count_100 : decode (go_cc mx_X11_count) 100 = .ok (.getfield 19, 3) := by decide +kernel
theorem dx_X11_count_103 : decode (go_cc mx_X11_count) 103 = .ok (.getfield 239, 3) := by decide +kernel
theorem dx_X11_count_106 : decode (go_cc mx_X11_count) 106 = .ok (.ireturn, 1) := by decide +kernel
theorem dx_X11_count_107 : decode (go_cc mx_X11_count) 107 = .ok (.aload_n 0, 1) := by decide +kernel
theorem dx_X11_count_108 : decode (go_cc mx_X11_count) 108 = .ok (.getfield 26, 3) := by decide +kernel
theorem dx_X11_count_111 : decode (go_cc mx_X11_count) 111 = .ok (.getfield 381, 3) := by decide +kernel
theorem dx_X11_count_114 : decode (go_cc mx_X11_count) 114 = .ok (.ireturn, 1) := by decide +kernel
theorem dx_X11_count_115 : decode (go_cc mx_X11_count) 115 = .ok (.aload_n 0, 1) := by decide +kernel
theorem dx_X11_count_116 : decode (go_cc mx_X11_count) 116 = .ok (.getfield 12, 3) := by decide +kernel
theorem dx_X11_count_119 : decode (go_cc mx_X11_count) 119 = .ok (.getfield 116, 3) := by decide +kernel
theorem dx_X11_count_122 : decode (go_cc mx_X11_count) 122 = .ok (.ireturn, 1) := by decide +kernel
theorem dx_X11_count_123 : decode (go_cc mx_X11_count) 123 = .ok (.iconst (-1), 1) := by decide +kernel
theorem dx_X11_count_124 : decode (go_cc mx_X11_count) 124 = .ok (.ireturn, 1) := by decide +kernel
theorem dx_X11_isName_0 : decode (go_cc mx_X11_isName) 0 = .ok (.iload_n 1, 1) := by decide +kernel
theorem dx_X11_isName_1 : decode (go_cc mx_X11_isName) 1 = .ok (.ifCond .lt 13, 3) := by decide +kernel
theorem dx_X11_isName_4 : decode (go_cc mx_X11_isName) 4 = .ok (.iload_n 1, 1) := by decide +kernel
theorem dx_X11_isName_5 : decode (go_cc mx_X11_isName) 5 = .ok (.bipush 8, 2) := by decide +kernel
theorem dx_X11_isName_7 : decode (go_cc mx_X11_isName) 7 = .ok (.if_icmp .ge 7, 3) := by decide +kernel
theorem dx_X11_isName_10 : decode (go_cc mx_X11_isName) 10 = .ok (.iconst 1, 1) := by decide +kernel
theorem dx_X11_isName_11 : decode (go_cc mx_X11_isName) 11 = .ok (.goto 4, 3) := by decide +kernel
theorem dx_X11_isName_14 : decode (go_cc mx_X11_isName) 14 = .ok (.iconst 0, 1) := by decide +kernel
theorem dx_X11_isName_15 : decode (go_cc mx_X11_isName) 15 = .ok (.ireturn, 1) := by decide +kernel
theorem dx_X11_isSymbol_0 : decode (go_cc mx_X11_isSymbol) 0 = .ok (.iload_n 1, 1) := by decide +kernel
theorem dx_X11_isSymbol_1 : decode (go_cc mx_X11_isSymbol) 1 = .ok (.ifCond .lt 18, 3) := by decide +kernel
theorem dx_X11_isSymbol_4 : decode (go_cc mx_X11_isSymbol) 4 = .ok (.iload_n 1, 1) := by decide +kernel
theorem dx_X11_isSymbol_5 : decode (go_cc mx_X11_isSymbol) 5 = .ok (.aload_n 0, 1) := by decide +kernel
theorem dx_X11_isSymbol_6 : decode (go_cc mx_X11_isSymbol) 6 = .ok (.getfield 33, 3) := by decide +kernel
theorem dx_X11_isSymbol_9 : decode (go_cc mx_X11_isSymbol) 9 = .ok (.invokevirtual 398, 3) := by decide +kernel
theorem dx_X11_isSymbol_12 : decode (go_cc mx_X11_isSymbol) 12 = .ok (.if_icmp .ge 7, 3) := by decide +kernel
theorem dx_X11_isSymbol_15 : decode (go_cc mx_X11_isSymbol) 15 = .ok (.iconst 1, 1) := by decide +kernel
theorem dx_X11_isSymbol_16 : decode (go_cc mx_X11_isSymbol) 16 = .ok (.goto 4, 3) := by decide +kernel
theorem dx_X11_isSymbol_19 : decode (go_cc mx_X11_isSymbol) 19 = .ok (.iconst 0, 1) := by decide +kernel
theorem dx_X11_isSymbol_20 : decode (go_cc mx_X11_isSymbol) 20 = .ok (.ireturn, 1) := by decide +kernel
theorem dx_X11_isPlace_0 : decode (go_cc mx_X11_isPlace) 0 = .ok (.iload_n 1, 1) := by decide +kernel
theorem dx_X11_isPlace_1 : decode (go_cc mx_X11_isPlace) 1 = .ok (.ifCond .lt 18, 3) := by decide +kernel
theorem dx_X11_isPlace_4 : decode (go_cc mx_X11_isPlace) 4 = .ok (.iload_n 1, 1) := by decide +kernel
theorem dx_X11_isPlace_5 : decode (go_cc mx_X11_isPlace) 5 = .ok (.aload_n 0, 1) := by decide +kernel
theorem dx_X11_isPlace_6 : decode (go_cc mx_X11_isPlace) 6 = .ok (.getfield 19, 3) := by decide +kernel
theorem dx_X11_isPlace_9 : decode (go_cc mx_X11_isPlace) 9 = .ok (.getfield 239, 3) := by decide +kernel
theorem dx_X11_isPlace_12 : decode (go_cc mx_X11_isPlace) 12 = .ok (.if_icmp .gt 7, 3) := by decide +kernel
theorem dx_X11_isPlace_15 : decode (go_cc mx_X11_isPlace) 15 = .ok (.iconst 1, 1) := by decide +kernel
theorem dx_X11_isPlace_16 : decode (go_cc mx_X11_isPlace) 16 = .ok (.goto 4, 3) := by decide +kernel
theorem dx_X11_isPlace_19 : decode (go_cc mx_X11_isPlace) 19 = .ok (.iconst 0, 1) := by decide +kernel
theorem dx_X11_isPlace_20 : decode (go_cc mx_X11_isPlace) 20 = .ok (.ireturn, 1) := by decide +kernel
theorem dx_X11_isTray_0 : decode (go_cc mx_X11_isTray) 0 = .ok (.iload_n 1, 1) := by decide +kernel
theorem dx_X11_isTray_1 : decode (go_cc mx_X11_isTray) 1 = .ok (.ifCond .lt 12, 3) := by decide +kernel
theorem dx_X11_isTray_4 : decode (go_cc mx_X11_isTray) 4 = .ok (.iload_n 1, 1) := by decide +kernel
theorem dx_X11_isTray_5 : decode (go_cc mx_X11_isTray) 5 = .ok (.iconst 3, 1) := by decide +kernel
theorem dx_X11_isTray_6 : decode (go_cc mx_X11_isTray) 6 = .ok (.if_icmp .ge 7, 3) := by decide +kernel
theorem dx_X11_isTray_9 : decode (go_cc mx_X11_isTray) 9 = .ok (.iconst 1, 1) := by decide +kernel
theorem dx_X11_isTray_10 : decode (go_cc mx_X11_isTray) 10 = .ok (.goto 4, 3) := by decide +kernel
theorem dx_X11_isTray_13 : decode (go_cc mx_X11_isTray) 13 = .ok (.iconst 0, 1) := by decide +kernel
theorem dx_X11_isTray_14 : decode (go_cc mx_X11_isTray) 14 = .ok (.ireturn, 1) := by decide +kernel
theorem dx_X11_changing_0 : decode (go_cc mx_X11_changing) 0 = .ok (.aload_n 0, 1) := by decide +kernel
theorem dx_X11_changing_1 : decode (go_cc mx_X11_changing) 1 = .ok (.getfield 26, 3) := by decide +kernel
theorem dx_X11_changing_4 : decode (go_cc mx_X11_changing) 4 = .ok (.aload_n 0, 1) := by decide +kernel
theorem dx_X11_changing_5 : decode (go_cc mx_X11_changing) 5 = .ok (.getfield 19, 3) := by decide +kernel
theorem dx_X11_changing_8 : decode (go_cc mx_X11_changing) 8 = .ok (.invokevirtual 401, 3) := by decide +kernel
theorem dx_X11_changing_11 : decode (go_cc mx_X11_changing) 11 = .ok (.aload_n 0, 1) := by decide +kernel
theorem dx_X11_changing_12 : decode (go_cc mx_X11_changing) 12 = .ok (.dup, 1) := by decide +kernel
theorem dx_X11_changing_13 : decode (go_cc mx_X11_changing) 13 = .ok (.getfield 109, 3) := by decide +kernel
theorem dx_X11_changing_16 : decode (go_cc mx_X11_changing) 16 = .ok (.iconst 1, 1) := by decide +kernel
theorem dx_X11_changing_17 : decode (go_cc mx_X11_changing) 17 = .ok (.iadd, 1) := by decide +kernel
theorem dx_X11_changing_18 : decode (go_cc mx_X11_changing) 18 = .ok (.putfield 109, 3) := by decide +kernel
theorem dx_X11_changing_21 : decode (go_cc mx_X11_changing) 21 = .ok (.return_, 1) := by decide +kernel
theorem dx_X11_freshen_0 : decode (go_cc mx_X11_freshen) 0 = .ok (.aload_n 0, 1) := by decide +kernel
theorem dx_X11_freshen_1 : decode (go_cc mx_X11_freshen) 1 = .ok (.getfield 113, 3) := by decide +kernel
theorem dx_X11_freshen_4 : decode (go_cc mx_X11_freshen) 4 = .ok (.aload_n 0, 1) := by decide +kernel
theorem dx_X11_freshen_5 : decode (go_cc mx_X11_freshen) 5 = .ok (.getfield 109, 3) := by decide +kernel
theorem dx_X11_freshen_8 : decode (go_cc mx_X11_freshen) 8 = .ok (.if_icmp .ne 4, 3) := by decide +kernel
theorem dx_X11_freshen_11 : decode (go_cc mx_X11_freshen) 11 = .ok (.return_, 1) := by decide +kernel
theorem dx_X11_freshen_12 : decode (go_cc mx_X11_freshen) 12 = .ok (.aload_n 0, 1) := by decide +kernel
theorem dx_X11_freshen_13 : decode (go_cc mx_X11_freshen) 13 = .ok (.getfield 33, 3) := by decide +kernel
theorem dx_X11_freshen_16 : decode (go_cc mx_X11_freshen) 16 = .ok (.aload_n 0, 1) := by decide +kernel
theorem dx_X11_freshen_17 : decode (go_cc mx_X11_freshen) 17 = .ok (.getfield 19, 3) := by decide +kernel
theorem dx_X11_freshen_20 : decode (go_cc mx_X11_freshen) 20 = .ok (.iconst (-1), 1) := by decide +kernel
theorem dx_X11_freshen_21 : decode (go_cc mx_X11_freshen) 21 = .ok (.invokevirtual 293, 3) := by decide +kernel
theorem dx_X11_freshen_24 : decode (go_cc mx_X11_freshen) 24 = .ok (.aload_n 0, 1) := by decide +kernel
theorem dx_X11_freshen_25 : decode (go_cc mx_X11_freshen) 25 = .ok (.getfield 33, 3) := by decide +kernel
theorem dx_X11_freshen_28 : decode (go_cc mx_X11_freshen) 28 = .ok (.invokevirtual 405, 3) := by decide +kernel
theorem dx_X11_freshen_31 : decode (go_cc mx_X11_freshen) 31 = .ok (.aload_n 0, 1) := by decide +kernel
theorem dx_X11_freshen_32 : decode (go_cc mx_X11_freshen) 32 = .ok (.getfield 42, 3) := by decide +kernel
theorem dx_X11_freshen_35 : decode (go_cc mx_X11_freshen) 35 = .ok (.aload_n 0, 1) := by decide +kernel
theorem dx_X11_freshen_36 : decode (go_cc mx_X11_freshen) 36 = .ok (.getfield 19, 3) := by decide +kernel
theorem dx_X11_freshen_39 : decode (go_cc mx_X11_freshen) 39 = .ok (.iconst 0, 1) := by decide +kernel
theorem dx_X11_freshen_40 : decode (go_cc mx_X11_freshen) 40 = .ok (.invokevirtual 297, 3) := by decide +kernel
theorem dx_X11_freshen_43 : decode (go_cc mx_X11_freshen) 43 = .ok (.aload_n 0, 1) := by decide +kernel
theorem dx_X11_freshen_44 : decode (go_cc mx_X11_freshen) 44 = .ok (.getfield 42, 3) := by decide +kernel
theorem dx_X11_freshen_47 : decode (go_cc mx_X11_freshen) 47 = .ok (.aload_n 0, 1) := by decide +kernel
theorem dx_X11_freshen_48 : decode (go_cc mx_X11_freshen) 48 = .ok (.getfield 33, 3) := by decide +kernel
theorem dx_X11_freshen_51 : decode (go_cc mx_X11_freshen) 51 = .ok (.aload_n 0, 1) := by decide +kernel
theorem dx_X11_freshen_52 : decode (go_cc mx_X11_freshen) 52 = .ok (.getfield 19, 3) := by decide +kernel
theorem dx_X11_freshen_55 : decode (go_cc mx_X11_freshen) 55 = .ok (.getfield 239, 3) := by decide +kernel
theorem dx_X11_freshen_58 : decode (go_cc mx_X11_freshen) 58 = .ok (.invokevirtual 301, 3) := by decide +kernel
theorem dx_X11_freshen_61 : decode (go_cc mx_X11_freshen) 61 = .ok (.aload_n 0, 1) := by decide +kernel
theorem dx_X11_freshen_62 : decode (go_cc mx_X11_freshen) 62 = .ok (.aload_n 0, 1) := by decide +kernel
theorem dx_X11_freshen_63 : decode (go_cc mx_X11_freshen) 63 = .ok (.getfield 109, 3) := by decide +kernel
theorem dx_X11_freshen_66 : decode (go_cc mx_X11_freshen) 66 = .ok (.putfield 113, 3) := by decide +kernel
theorem dx_X11_freshen_69 : decode (go_cc mx_X11_freshen) 69 = .ok (.return_, 1) := by decide +kernel
theorem dx_X11_readyRounds_0 : decode (go_cc mx_X11_readyRounds) 0 = .ok (.aload_n 0, 1) := by decide +kernel
theorem dx_X11_readyRounds_1 : decode (go_cc mx_X11_readyRounds) 1 = .ok (.getfield 51, 3) := by decide +kernel
theorem dx_X11_readyRounds_4 : decode (go_cc mx_X11_readyRounds) 4 = .ok (.getfield 408, 3) := by decide +kernel
theorem dx_X11_readyRounds_7 : decode (go_cc mx_X11_readyRounds) 7 = .ok (.aload_n 0, 1) := by decide +kernel
theorem dx_X11_readyRounds_8 : decode (go_cc mx_X11_readyRounds) 8 = .ok (.getfield 109, 3) := by decide +kernel
theorem dx_X11_readyRounds_11 : decode (go_cc mx_X11_readyRounds) 11 = .ok (.if_icmp .eq 28, 3) := by decide +kernel
theorem dx_X11_readyRounds_14 : decode (go_cc mx_X11_readyRounds) 14 = .ok (.aload_n 0, 1) := by decide +kernel
theorem dx_X11_readyRounds_15 : decode (go_cc mx_X11_readyRounds) 15 = .ok (.getfield 51, 3) := by decide +kernel
theorem dx_X11_readyRounds_18 : decode (go_cc mx_X11_readyRounds) 18 = .ok (.aload_n 0, 1) := by decide +kernel
theorem dx_X11_readyRounds_19 : decode (go_cc mx_X11_readyRounds) 19 = .ok (.getfield 19, 3) := by decide +kernel
theorem dx_X11_readyRounds_22 : decode (go_cc mx_X11_readyRounds) 22 = .ok (.getfield 239, 3) := by decide +kernel
theorem dx_X11_readyRounds_25 : decode (go_cc mx_X11_readyRounds) 25 = .ok (.invokevirtual 409, 3) := by decide +kernel
theorem dx_X11_readyRounds_28 : decode (go_cc mx_X11_readyRounds) 28 = .ok (.aload_n 0, 1) := by decide +kernel
theorem dx_X11_readyRounds_29 : decode (go_cc mx_X11_readyRounds) 29 = .ok (.getfield 51, 3) := by decide +kernel
theorem dx_X11_readyRounds_32 : decode (go_cc mx_X11_readyRounds) 32 = .ok (.aload_n 0, 1) := by decide +kernel
theorem dx_X11_readyRounds_33 : decode (go_cc mx_X11_readyRounds) 33 = .ok (.getfield 109, 3) := by decide +kernel
theorem dx_X11_readyRounds_36 : decode (go_cc mx_X11_readyRounds) 36 = .ok (.putfield 408, 3) := by decide +kernel
theorem dx_X11_readyRounds_39 : decode (go_cc mx_X11_readyRounds) 39 = .ok (.return_, 1) := by decide +kernel
theorem dx_X11_readyForest_0 : decode (go_cc mx_X11_readyForest) 0 = .ok (.aload_n 0, 1) := by decide +kernel
theorem dx_X11_readyForest_1 : decode (go_cc mx_X11_readyForest) 1 = .ok (.getfield 60, 3) := by decide +kernel
theorem dx_X11_readyForest_4 : decode (go_cc mx_X11_readyForest) 4 = .ok (.getfield 337, 3) := by decide +kernel
theorem dx_X11_readyForest_7 : decode (go_cc mx_X11_readyForest) 7 = .ok (.aload_n 0, 1) := by decide +kernel
theorem dx_X11_readyForest_8 : decode (go_cc mx_X11_readyForest) 8 = .ok (.getfield 109, 3) := by decide +kernel
theorem dx_X11_readyForest_11 : decode (go_cc mx_X11_readyForest) 11 = .ok (.if_icmp .eq 28, 3) := by decide +kernel
theorem dx_X11_readyForest_14 : decode (go_cc mx_X11_readyForest) 14 = .ok (.aload_n 0, 1) := by decide +kernel
theorem dx_X11_readyForest_15 : decode (go_cc mx_X11_readyForest) 15 = .ok (.getfield 60, 3) := by decide +kernel
theorem dx_X11_readyForest_18 : decode (go_cc mx_X11_readyForest) 18 = .ok (.aload_n 0, 1) := by decide +kernel
theorem dx_X11_readyForest_19 : decode (go_cc mx_X11_readyForest) 19 = .ok (.getfield 19, 3) := by decide +kernel
theorem dx_X11_readyForest_22 : decode (go_cc mx_X11_readyForest) 22 = .ok (.getfield 239, 3) := by decide +kernel
theorem dx_X11_readyForest_25 : decode (go_cc mx_X11_readyForest) 25 = .ok (.invokevirtual 340, 3) := by decide +kernel
theorem dx_X11_readyForest_28 : decode (go_cc mx_X11_readyForest) 28 = .ok (.aload_n 0, 1) := by decide +kernel
theorem dx_X11_readyForest_29 : decode (go_cc mx_X11_readyForest) 29 = .ok (.getfield 60, 3) := by decide +kernel
theorem dx_X11_readyForest_32 : decode (go_cc mx_X11_readyForest) 32 = .ok (.aload_n 0, 1) := by decide +kernel
theorem dx_X11_readyForest_33 : decode (go_cc mx_X11_readyForest) 33 = .ok (.getfield 109, 3) := by decide +kernel
theorem dx_X11_readyForest_36 : decode (go_cc mx_X11_readyForest) 36 = .ok (.putfield 337, 3) := by decide +kernel
theorem dx_X11_readyForest_39 : decode (go_cc mx_X11_readyForest) 39 = .ok (.return_, 1) := by decide +kernel
theorem dx_X11_readyAnyWord_0 : decode (go_cc mx_X11_readyAnyWord) 0 = .ok (.aload_n 0, 1) := by decide +kernel
theorem dx_X11_readyAnyWord_1 : decode (go_cc mx_X11_readyAnyWord) 1 = .ok (.getfield 73, 3) := by decide +kernel
theorem dx_X11_readyAnyWord_4 : decode (go_cc mx_X11_readyAnyWord) 4 = .ok (.getfield 410, 3) := by decide +kernel
theorem dx_X11_readyAnyWord_7 : decode (go_cc mx_X11_readyAnyWord) 7 = .ok (.aload_n 0, 1) := by decide +kernel
theorem dx_X11_readyAnyWord_8 : decode (go_cc mx_X11_readyAnyWord) 8 = .ok (.getfield 109, 3) := by decide +kernel
theorem dx_X11_readyAnyWord_11 : decode (go_cc mx_X11_readyAnyWord) 11 = .ok (.if_icmp .eq 34, 3) := by decide +kernel
theorem dx_X11_readyAnyWord_14 : decode (go_cc mx_X11_readyAnyWord) 14 = .ok (.aload_n 0, 1) := by decide +kernel
theorem dx_X11_readyAnyWord_15 : decode (go_cc mx_X11_readyAnyWord) 15 = .ok (.getfield 73, 3) := by decide +kernel
theorem dx_X11_readyAnyWord_18 : decode (go_cc mx_X11_readyAnyWord) 18 = .ok (.invokevirtual 413, 3) := by decide +kernel
theorem dx_X11_readyAnyWord_21 : decode (go_cc mx_X11_readyAnyWord) 21 = .ok (.aload_n 0, 1) := by decide +kernel
theorem dx_X11_readyAnyWord_22 : decode (go_cc mx_X11_readyAnyWord) 22 = .ok (.getfield 73, 3) := by decide +kernel
theorem dx_X11_readyAnyWord_25 : decode (go_cc mx_X11_readyAnyWord) 25 = .ok (.aload_n 0, 1) := by decide +kernel
theorem dx_X11_readyAnyWord_26 : decode (go_cc mx_X11_readyAnyWord) 26 = .ok (.getfield 33, 3) := by decide +kernel
theorem dx_X11_readyAnyWord_29 : decode (go_cc mx_X11_readyAnyWord) 29 = .ok (.bipush 14, 2) := by decide +kernel
theorem dx_X11_readyAnyWord_31 : decode (go_cc mx_X11_readyAnyWord) 31 = .ok (.invokevirtual 301, 3) := by decide +kernel
theorem dx_X11_readyAnyWord_34 : decode (go_cc mx_X11_readyAnyWord) 34 = .ok (.aload_n 0, 1) := by decide +kernel
theorem dx_X11_readyAnyWord_35 : decode (go_cc mx_X11_readyAnyWord) 35 = .ok (.getfield 73, 3) := by decide +kernel
theorem dx_X11_readyAnyWord_38 : decode (go_cc mx_X11_readyAnyWord) 38 = .ok (.aload_n 0, 1) := by decide +kernel
theorem dx_X11_readyAnyWord_39 : decode (go_cc mx_X11_readyAnyWord) 39 = .ok (.getfield 109, 3) := by decide +kernel
theorem dx_X11_readyAnyWord_42 : decode (go_cc mx_X11_readyAnyWord) 42 = .ok (.putfield 410, 3) := by decide +kernel
theorem dx_X11_readyAnyWord_45 : decode (go_cc mx_X11_readyAnyWord) 45 = .ok (.return_, 1) := by decide +kernel
theorem dx_X11_readyVocabulary_0 : decode (go_cc mx_X11_readyVocabulary) 0 = .ok (.aload_n 0, 1) := by decide +kernel
theorem dx_X11_readyVocabulary_1 : decode (go_cc mx_X11_readyVocabulary) 1 = .ok (.getfield 91, 3) := by decide +kernel
theorem dx_X11_readyVocabulary_4 : decode (go_cc mx_X11_readyVocabulary) 4 = .ok (.getfield 416, 3) := by decide +kernel
theorem dx_X11_readyVocabulary_7 : decode (go_cc mx_X11_readyVocabulary) 7 = .ok (.aload_n 0, 1) := by decide +kernel
theorem dx_X11_readyVocabulary_8 : decode (go_cc mx_X11_readyVocabulary) 8 = .ok (.getfield 109, 3) := by decide +kernel
theorem dx_X11_readyVocabulary_11 : decode (go_cc mx_X11_readyVocabulary) 11 = .ok (.if_icmp .eq 25, 3) := by decide +kernel
theorem dx_X11_readyVocabulary_14 : decode (go_cc mx_X11_readyVocabulary) 14 = .ok (.aload_n 0, 1) := by decide +kernel
theorem dx_X11_readyVocabulary_15 : decode (go_cc mx_X11_readyVocabulary) 15 = .ok (.getfield 91, 3) := by decide +kernel
theorem dx_X11_readyVocabulary_18 : decode (go_cc mx_X11_readyVocabulary) 18 = .ok (.aload_n 0, 1) := by decide +kernel
theorem dx_X11_readyVocabulary_19 : decode (go_cc mx_X11_readyVocabulary) 19 = .ok (.getfield 33, 3) := by decide +kernel
theorem dx_X11_readyVocabulary_22 : decode (go_cc mx_X11_readyVocabulary) 22 = .ok (.invokevirtual 419, 3) := by decide +kernel
theorem dx_X11_readyVocabulary_25 : decode (go_cc mx_X11_readyVocabulary) 25 = .ok (.aload_n 0, 1) := by decide +kernel
theorem dx_X11_readyVocabulary_26 : decode (go_cc mx_X11_readyVocabulary) 26 = .ok (.getfield 91, 3) := by decide +kernel
theorem dx_X11_readyVocabulary_29 : decode (go_cc mx_X11_readyVocabulary) 29 = .ok (.aload_n 0, 1) := by decide +kernel
theorem dx_X11_readyVocabulary_30 : decode (go_cc mx_X11_readyVocabulary) 30 = .ok (.getfield 109, 3) := by decide +kernel
theorem dx_X11_readyVocabulary_33 : decode (go_cc mx_X11_readyVocabulary) 33 = .ok (.putfield 416, 3) := by decide +kernel
theorem dx_X11_readyVocabulary_36 : decode (go_cc mx_X11_readyVocabulary) 36 = .ok (.return_, 1) := by decide +kernel
theorem dx_X11_treesOfWord_0 : decode (go_cc mx_X11_treesOfWord) 0 = .ok (.aload_n 0, 1) := by decide +kernel
theorem dx_X11_treesOfWord_1 : decode (go_cc mx_X11_treesOfWord) 1 = .ok (.getfield 19, 3) := by decide +kernel
theorem dx_X11_treesOfWord_4 : decode (go_cc mx_X11_treesOfWord) 4 = .ok (.getfield 239, 3) := by decide +kernel
theorem dx_X11_treesOfWord_7 : decode (go_cc mx_X11_treesOfWord) 7 = .ok (.ifCond .ne 7, 3) := by decide +kernel
theorem dx_X11_treesOfWord_10 : decode (go_cc mx_X11_treesOfWord) 10 = .ok (.lconst 0, 1) := by decide +kernel
theorem dx_X11_treesOfWord_11 : decode (go_cc mx_X11_treesOfWord) 11 = .ok (.goto 25, 3) := by decide +kernel
theorem dx_X11_treesOfWord_14 : decode (go_cc mx_X11_treesOfWord) 14 = .ok (.aload_n 0, 1) := by decide +kernel
theorem dx_X11_treesOfWord_15 : decode (go_cc mx_X11_treesOfWord) 15 = .ok (.getfield 60, 3) := by decide +kernel
theorem dx_X11_treesOfWord_18 : decode (go_cc mx_X11_treesOfWord) 18 = .ok (.aload_n 0, 1) := by decide +kernel
theorem dx_X11_treesOfWord_19 : decode (go_cc mx_X11_treesOfWord) 19 = .ok (.getfield 19, 3) := by decide +kernel
theorem dx_X11_treesOfWord_22 : decode (go_cc mx_X11_treesOfWord) 22 = .ok (.getfield 170, 3) := by decide +kernel
theorem dx_X11_treesOfWord_25 : decode (go_cc mx_X11_treesOfWord) 25 = .ok (.iconst 0, 1) := by decide +kernel
theorem dx_X11_treesOfWord_26 : decode (go_cc mx_X11_treesOfWord) 26 = .ok (.aload_n 0, 1) := by decide +kernel
theorem dx_X11_treesOfWord_27 : decode (go_cc mx_X11_treesOfWord) 27 = .ok (.getfield 19, 3) := by decide +kernel
theorem dx_X11_treesOfWord_30 : decode (go_cc mx_X11_treesOfWord) 30 = .ok (.getfield 239, 3) := by decide +kernel
theorem dx_X11_treesOfWord_33 : decode (go_cc mx_X11_treesOfWord) 33 = .ok (.invokevirtual 276, 3) := by decide +kernel
theorem dx_X11_treesOfWord_36 : decode (go_cc mx_X11_treesOfWord) 36 = .ok (.lreturn, 1) := by decide +kernel
theorem dx_X11_readyTree_0 : decode (go_cc mx_X11_readyTree) 0 = .ok (.aload_n 0, 1) := by decide +kernel
theorem dx_X11_readyTree_1 : decode (go_cc mx_X11_readyTree) 1 = .ok (.invokevirtual 289, 3) := by decide +kernel
theorem dx_X11_readyTree_4 : decode (go_cc mx_X11_readyTree) 4 = .ok (.lconst 0, 1) := by decide +kernel
theorem dx_X11_readyTree_5 : decode (go_cc mx_X11_readyTree) 5 = .ok (.lcmp, 1) := by decide +kernel
theorem dx_X11_readyTree_6 : decode (go_cc mx_X11_readyTree) 6 = .ok (.ifCond .ne 5, 3) := by decide +kernel
theorem dx_X11_readyTree_9 : decode (go_cc mx_X11_readyTree) 9 = .ok (.iconst 0, 1) := by decide +kernel
theorem dx_X11_readyTree_10 : decode (go_cc mx_X11_readyTree) 10 = .ok (.ireturn, 1) := by decide +kernel
theorem dx_X11_readyTree_11 : decode (go_cc mx_X11_readyTree) 11 = .ok (.aload_n 0, 1) := by decide +kernel
theorem dx_X11_readyTree_12 : decode (go_cc mx_X11_readyTree) 12 = .ok (.getfield 69, 3) := by decide +kernel
theorem dx_X11_readyTree_15 : decode (go_cc mx_X11_readyTree) 15 = .ok (.getfield 422, 3) := by decide +kernel
theorem dx_X11_readyTree_18 : decode (go_cc mx_X11_readyTree) 18 = .ok (.aload_n 0, 1) := by decide +kernel
theorem dx_X11_readyTree_19 : decode (go_cc mx_X11_readyTree) 19 = .ok (.getfield 109, 3) := by decide +kernel
theorem dx_X11_readyTree_22 : decode (go_cc mx_X11_readyTree) 22 = .ok (.if_icmp .ne 14, 3) := by decide +kernel
theorem dx_X11_readyTree_25 : decode (go_cc mx_X11_readyTree) 25 = .ok (.aload_n 0, 1) := by decide +kernel
theorem dx_X11_readyTree_26 : decode (go_cc mx_X11_readyTree) 26 = .ok (.getfield 69, 3) := by decide +kernel
theorem dx_X11_readyTree_29 : decode (go_cc mx_X11_readyTree) 29 = .ok (.getfield 425, 3) := by decide +kernel
theorem dx_X11_readyTree_32 : decode (go_cc mx_X11_readyTree) 32 = .ok (.iload_n 1, 1) := by decide +kernel
theorem dx_X11_readyTree_33 : decode (go_cc mx_X11_readyTree) 33 = .ok (.if_icmp .eq 30, 3) := by decide +kernel
theorem dx_X11_readyTree_36 : decode (go_cc mx_X11_readyTree) 36 = .ok (.aload_n 0, 1) := by decide +kernel
theorem dx_X11_readyTree_37 : decode (go_cc mx_X11_readyTree) 37 = .ok (.getfield 69, 3) := by decide +kernel
theorem dx_X11_readyTree_40 : decode (go_cc mx_X11_readyTree) 40 = .ok (.iload_n 1, 1) := by decide +kernel
theorem dx_X11_readyTree_41 : decode (go_cc mx_X11_readyTree) 41 = .ok (.invokevirtual 428, 3) := by decide +kernel
theorem dx_X11_readyTree_44 : decode (go_cc mx_X11_readyTree) 44 = .ok (.aload_n 0, 1) := by decide +kernel
theorem dx_X11_readyTree_45 : decode (go_cc mx_X11_readyTree) 45 = .ok (.getfield 69, 3) := by decide +kernel
theorem dx_X11_readyTree_48 : decode (go_cc mx_X11_readyTree) 48 = .ok (.aload_n 0, 1) := by decide +kernel
theorem dx_X11_readyTree_49 : decode (go_cc mx_X11_readyTree) 49 = .ok (.getfield 109, 3) := by decide +kernel
theorem dx_X11_readyTree_52 : decode (go_cc mx_X11_readyTree) 52 = .ok (.putfield 422, 3) := by decide +kernel
theorem dx_X11_readyTree_55 : decode (go_cc mx_X11_readyTree) 55 = .ok (.aload_n 0, 1) := by decide +kernel
theorem dx_X11_readyTree_56 : decode (go_cc mx_X11_readyTree) 56 = .ok (.getfield 69, 3) := by decide +kernel
theorem dx_X11_readyTree_59 : decode (go_cc mx_X11_readyTree) 59 = .ok (.iload_n 1, 1) := by decide +kernel
theorem dx_X11_readyTree_60 : decode (go_cc mx_X11_readyTree) 60 = .ok (.putfield 425, 3) := by decide +kernel
theorem dx_X11_readyTree_63 : decode (go_cc mx_X11_readyTree) 63 = .ok (.iconst 1, 1) := by decide +kernel
theorem dx_X11_readyTree_64 : decode (go_cc mx_X11_readyTree) 64 = .ok (.ireturn, 1) := by decide +kernel
theorem dx_X11_nearestWord_0 : decode (go_cc mx_X11_nearestWord) 0 = .ok (.aload_n 0, 1) := by decide +kernel
theorem dx_X11_nearestWord_1 : decode (go_cc mx_X11_nearestWord) 1 = .ok (.invokevirtual 332, 3) := by decide +kernel
theorem dx_X11_nearestWord_4 : decode (go_cc mx_X11_nearestWord) 4 = .ok (.aload_n 0, 1) := by decide +kernel
theorem dx_X11_nearestWord_5 : decode (go_cc mx_X11_nearestWord) 5 = .ok (.getfield 19, 3) := by decide +kernel
theorem dx_X11_nearestWord_8 : decode (go_cc mx_X11_nearestWord) 8 = .ok (.getfield 239, 3) := by decide +kernel
theorem dx_X11_nearestWord_11 : decode (go_cc mx_X11_nearestWord) 11 = .ok (.ifCond .ne 7, 3) := by decide +kernel
theorem dx_X11_nearestWord_14 : decode (go_cc mx_X11_nearestWord) 14 = .ok (.ldc2_w 253, 3) := by decide +kernel
theorem dx_X11_nearestWord_17 : decode (go_cc mx_X11_nearestWord) 17 = .ok (.lreturn, 1) := by decide +kernel
theorem dx_X11_nearestWord_18 : decode (go_cc mx_X11_nearestWord) 18 = .ok (.aload_n 0, 1) := by decide +kernel
theorem dx_X11_nearestWord_19 : decode (go_cc mx_X11_nearestWord) 19 = .ok (.getfield 84, 3) := by decide +kernel
theorem dx_X11_nearestWord_22 : decode (go_cc mx_X11_nearestWord) 22 = .ok (.getfield 431, 3) := by decide +kernel
theorem dx_X11_nearestWord_25 : decode (go_cc mx_X11_nearestWord) 25 = .ok (.aload_n 0, 1) := by decide +kernel
theorem dx_X11_nearestWord_26 : decode (go_cc mx_X11_nearestWord) 26 = .ok (.getfield 109, 3) := by decide +kernel
theorem dx_X11_nearestWord_29 : decode (go_cc mx_X11_nearestWord) 29 = .ok (.if_icmp .eq 28, 3) := by decide +kernel
theorem dx_X11_nearestWord_32 : decode (go_cc mx_X11_nearestWord) 32 = .ok (.aload_n 0, 1) := by decide +kernel
theorem dx_X11_nearestWord_33 : decode (go_cc mx_X11_nearestWord) 33 = .ok (.getfield 84, 3) := by decide +kernel
theorem dx_X11_nearestWord_36 : decode (go_cc mx_X11_nearestWord) 36 = .ok (.aload_n 0, 1) := by decide +kernel
theorem dx_X11_nearestWord_37 : decode (go_cc mx_X11_nearestWord) 37 = .ok (.getfield 19, 3) := by decide +kernel
theorem dx_X11_nearestWord_40 : decode (go_cc mx_X11_nearestWord) 40 = .ok (.getfield 239, 3) := by decide +kernel
theorem dx_X11_nearestWord_43 : decode (go_cc mx_X11_nearestWord) 43 = .ok (.invokevirtual 432, 3) := by decide +kernel
theorem dx_X11_nearestWord_46 : decode (go_cc mx_X11_nearestWord) 46 = .ok (.aload_n 0, 1) := by decide +kernel
theorem dx_X11_nearestWord_47 : decode (go_cc mx_X11_nearestWord) 47 = .ok (.getfield 84, 3) := by decide +kernel
theorem dx_X11_nearestWord_50 : decode (go_cc mx_X11_nearestWord) 50 = .ok (.aload_n 0, 1) := by decide +kernel
theorem dx_X11_nearestWord_51 : decode (go_cc mx_X11_nearestWord) 51 = .ok (.getfield 109, 3) := by decide +kernel
theorem dx_X11_nearestWord_54 : decode (go_cc mx_X11_nearestWord) 54 = .ok (.putfield 431, 3) := by decide +kernel
theorem dx_X11_nearestWord_57 : decode (go_cc mx_X11_nearestWord) 57 = .ok (.aload_n 0, 1) := by decide +kernel
theorem dx_X11_nearestWord_58 : decode (go_cc mx_X11_nearestWord) 58 = .ok (.getfield 84, 3) := by decide +kernel
theorem dx_X11_nearestWord_61 : decode (go_cc mx_X11_nearestWord) 61 = .ok (.aload_n 0, 1) := by decide +kernel
theorem dx_X11_nearestWord_62 : decode (go_cc mx_X11_nearestWord) 62 = .ok (.getfield 19, 3) := by decide +kernel
theorem dx_X11_nearestWord_65 : decode (go_cc mx_X11_nearestWord) 65 = .ok (.getfield 170, 3) := by decide +kernel
theorem dx_X11_nearestWord_68 : decode (go_cc mx_X11_nearestWord) 68 = .ok (.iconst 0, 1) := by decide +kernel
theorem dx_X11_nearestWord_69 : decode (go_cc mx_X11_nearestWord) 69 = .ok (.aload_n 0, 1) := by decide +kernel
theorem dx_X11_nearestWord_70 : decode (go_cc mx_X11_nearestWord) 70 = .ok (.getfield 19, 3) := by decide +kernel
theorem dx_X11_nearestWord_73 : decode (go_cc mx_X11_nearestWord) 73 = .ok (.getfield 239, 3) := by decide +kernel
theorem dx_X11_nearestWord_76 : decode (go_cc mx_X11_nearestWord) 76 = .ok (.invokevirtual 433, 3) := by decide +kernel
theorem dx_X11_nearestWord_79 : decode (go_cc mx_X11_nearestWord) 79 = .ok (.lreturn, 1) := by decide +kernel
theorem dx_X11_intAt_0 : decode (go_cc mx_X11_intAt) 0 = .ok (.iload_n 1, 1) := by decide +kernel
theorem dx_X11_intAt_1 : decode (go_cc mx_X11_intAt) 1 = .ok (.ifCond .lt 15, 3) := by decide +kernel
theorem dx_X11_intAt_4 : decode (go_cc mx_X11_intAt) 4 = .ok (.iload_n 1, 1) := by decide +kernel
theorem dx_X11_intAt_5 : decode (go_cc mx_X11_intAt) 5 = .ok (.aload_n 0, 1) := by decide +kernel
theorem dx_X11_intAt_6 : decode (go_cc mx_X11_intAt) 6 = .ok (.arraylength, 1) := by decide +kernel
theorem dx_X11_intAt_7 : decode (go_cc mx_X11_intAt) 7 = .ok (.if_icmp .ge 9, 3) := by decide +kernel
theorem dx_X11_intAt_10 : decode (go_cc mx_X11_intAt) 10 = .ok (.aload_n 0, 1) := by decide +kernel
theorem dx_X11_intAt_11 : decode (go_cc mx_X11_intAt) 11 = .ok (.iload_n 1, 1) := by decide +kernel
theorem dx_X11_intAt_12 : decode (go_cc mx_X11_intAt) 12 = .ok (.iaload, 1) := by decide +kernel
theorem dx_X11_intAt_13 : decode (go_cc mx_X11_intAt) 13 = .ok (.goto 4, 3) := by decide +kernel
theorem dx_X11_intAt_16 : decode (go_cc mx_X11_intAt) 16 = .ok (.iconst 0, 1) := by decide +kernel
theorem dx_X11_intAt_17 : decode (go_cc mx_X11_intAt) 17 = .ok (.ireturn, 1) := by decide +kernel
theorem dx_X11_putInt_0 : decode (go_cc mx_X11_putInt) 0 = .ok (.iload_n 1, 1) := by decide +kernel
theorem dx_X11_putInt_1 : decode (go_cc mx_X11_putInt) 1 = .ok (.ifCond .lt 13, 3) := by decide +kernel
theorem dx_X11_putInt_4 : decode (go_cc mx_X11_putInt) 4 = .ok (.iload_n 1, 1) := by decide +kernel
theorem dx_X11_putInt_5 : decode (go_cc mx_X11_putInt) 5 = .ok (.aload_n 0, 1) := by decide +kernel
theorem dx_X11_putInt_6 : decode (go_cc mx_X11_putInt) 6 = .ok (.arraylength, 1) := by decide +kernel
theorem dx_X11_putInt_7 : decode (go_cc mx_X11_putInt) 7 = .ok (.if_icmp .ge 7, 3) := by decide +kernel
theorem dx_X11_putInt_10 : decode (go_cc mx_X11_putInt) 10 = .ok (.aload_n 0, 1) := by decide +kernel
theorem dx_X11_putInt_11 : decode (go_cc mx_X11_putInt) 11 = .ok (.iload_n 1, 1) := by decide +kernel
theorem dx_X11_putInt_12 : decode (go_cc mx_X11_putInt) 12 = .ok (.iload_n 2, 1) := by decide +kernel
theorem dx_X11_putInt_13 : decode (go_cc mx_X11_putInt) 13 = .ok (.iastore, 1) := by decide +kernel
theorem dx_X11_putInt_14 : decode (go_cc mx_X11_putInt) 14 = .ok (.return_, 1) := by decide +kernel
theorem dx_X11_longAt_0 : decode (go_cc mx_X11_longAt) 0 = .ok (.iload_n 1, 1) := by decide +kernel
theorem dx_X11_longAt_1 : decode (go_cc mx_X11_longAt) 1 = .ok (.ifCond .lt 15, 3) := by decide +kernel
theorem dx_X11_longAt_4 : decode (go_cc mx_X11_longAt) 4 = .ok (.iload_n 1, 1) := by decide +kernel
theorem dx_X11_longAt_5 : decode (go_cc mx_X11_longAt) 5 = .ok (.aload_n 0, 1) := by decide +kernel
theorem dx_X11_longAt_6 : decode (go_cc mx_X11_longAt) 6 = .ok (.arraylength, 1) := by decide +kernel
theorem dx_X11_longAt_7 : decode (go_cc mx_X11_longAt) 7 = .ok (.if_icmp .ge 9, 3) := by decide +kernel
theorem dx_X11_longAt_10 : decode (go_cc mx_X11_longAt) 10 = .ok (.aload_n 0, 1) := by decide +kernel
theorem dx_X11_longAt_11 : decode (go_cc mx_X11_longAt) 11 = .ok (.iload_n 1, 1) := by decide +kernel
theorem dx_X11_longAt_12 : decode (go_cc mx_X11_longAt) 12 = .ok (.laload, 1) := by decide +kernel
theorem dx_X11_longAt_13 : decode (go_cc mx_X11_longAt) 13 = .ok (.goto 4, 3) := by decide +kernel
theorem dx_X11_longAt_16 : decode (go_cc mx_X11_longAt) 16 = .ok (.lconst 0, 1) := by decide +kernel
theorem dx_X11_longAt_17 : decode (go_cc mx_X11_longAt) 17 = .ok (.lreturn, 1) := by decide +kernel
theorem dx_X11_putLong_0 : decode (go_cc mx_X11_putLong) 0 = .ok (.iload_n 1, 1) := by decide +kernel
theorem dx_X11_putLong_1 : decode (go_cc mx_X11_putLong) 1 = .ok (.ifCond .lt 13, 3) := by decide +kernel
theorem dx_X11_putLong_4 : decode (go_cc mx_X11_putLong) 4 = .ok (.iload_n 1, 1) := by decide +kernel
theorem dx_X11_putLong_5 : decode (go_cc mx_X11_putLong) 5 = .ok (.aload_n 0, 1) := by decide +kernel
theorem dx_X11_putLong_6 : decode (go_cc mx_X11_putLong) 6 = .ok (.arraylength, 1) := by decide +kernel
theorem dx_X11_putLong_7 : decode (go_cc mx_X11_putLong) 7 = .ok (.if_icmp .ge 7, 3) := by decide +kernel
theorem dx_X11_putLong_10 : decode (go_cc mx_X11_putLong) 10 = .ok (.aload_n 0, 1) := by decide +kernel
theorem dx_X11_putLong_11 : decode (go_cc mx_X11_putLong) 11 = .ok (.iload_n 1, 1) := by decide +kernel
theorem dx_X11_putLong_12 : decode (go_cc mx_X11_putLong) 12 = .ok (.lload_n 2, 1) := by decide +kernel
theorem dx_X11_putLong_13 : decode (go_cc mx_X11_putLong) 13 = .ok (.lastore, 1) := by decide +kernel
theorem dx_X11_putLong_14 : decode (go_cc mx_X11_putLong) 14 = .ok (.return_, 1) := by decide +kernel
theorem dx_X11_slotOf_0 : decode (go_cc mx_X11_slotOf) 0 = .ok (.iload_n 2, 1) := by decide +kernel
theorem dx_X11_slotOf_1 : decode (go_cc mx_X11_slotOf) 1 = .ok (.ifCond .eq 11, 3) := by decide +kernel
theorem dx_X11_slotOf_4 : decode (go_cc mx_X11_slotOf) 4 = .ok (.iload_n 1, 1) := by decide +kernel
theorem dx_X11_slotOf_5 : decode (go_cc mx_X11_slotOf) 5 = .ok (.iload_n 0, 1) := by decide +kernel
theorem dx_X11_slotOf_6 : decode (go_cc mx_X11_slotOf) 6 = .ok (.isub, 1) := by decide +kernel
theorem dx_X11_slotOf_7 : decode (go_cc mx_X11_slotOf) 7 = .ok (.iconst 1, 1) := by decide +kernel
theorem dx_X11_slotOf_8 : decode (go_cc mx_X11_slotOf) 8 = .ok (.isub, 1) := by decide +kernel
theorem dx_X11_slotOf_9 : decode (go_cc mx_X11_slotOf) 9 = .ok (.goto 12, 3) := by decide +kernel
theorem dx_X11_slotOf_12 : decode (go_cc mx_X11_slotOf) 12 = .ok (.iload_n 1, 1) := by decide +kernel
theorem dx_X11_slotOf_13 : decode (go_cc mx_X11_slotOf) 13 = .ok (.iload_n 1, 1) := by decide +kernel
theorem dx_X11_slotOf_14 : decode (go_cc mx_X11_slotOf) 14 = .ok (.iconst 1, 1) := by decide +kernel
theorem dx_X11_slotOf_15 : decode (go_cc mx_X11_slotOf) 15 = .ok (.isub, 1) := by decide +kernel
theorem dx_X11_slotOf_16 : decode (go_cc mx_X11_slotOf) 16 = .ok (.imul, 1) := by decide +kernel
theorem dx_X11_slotOf_17 : decode (go_cc mx_X11_slotOf) 17 = .ok (.iconst 2, 1) := by decide +kernel
theorem dx_X11_slotOf_18 : decode (go_cc mx_X11_slotOf) 18 = .ok (.idiv, 1) := by decide +kernel
theorem dx_X11_slotOf_19 : decode (go_cc mx_X11_slotOf) 19 = .ok (.iload_n 0, 1) := by decide +kernel
theorem dx_X11_slotOf_20 : decode (go_cc mx_X11_slotOf) 20 = .ok (.iadd, 1) := by decide +kernel
theorem dx_X11_slotOf_21 : decode (go_cc mx_X11_slotOf) 21 = .ok (.ireturn, 1) := by decide +kernel
theorem dx_X11_sizeOf_0 : decode (go_cc mx_X11_sizeOf) 0 = .ok (.iload_n 0, 1) := by decide +kernel
theorem dx_X11_sizeOf_1 : decode (go_cc mx_X11_sizeOf) 1 = .ok (.bipush 7, 2) := by decide +kernel
theorem dx_X11_sizeOf_3 : decode (go_cc mx_X11_sizeOf) 3 = .ok (.iand, 1) := by decide +kernel
theorem dx_X11_sizeOf_4 : decode (go_cc mx_X11_sizeOf) 4 = .ok (.ireturn, 1) := by decide +kernel
theorem dx_X11_headOf_0 : decode (go_cc mx_X11_headOf) 0 = .ok (.iload_n 0, 1) := by decide +kernel
theorem dx_X11_headOf_1 : decode (go_cc mx_X11_headOf) 1 = .ok (.iconst 3, 1) := by decide +kernel
theorem dx_X11_headOf_2 : decode (go_cc mx_X11_headOf) 2 = .ok (.iushr, 1) := by decide +kernel
theorem dx_X11_headOf_3 : decode (go_cc mx_X11_headOf) 3 = .ok (.bipush 15, 2) := by decide +kernel
theorem dx_X11_headOf_5 : decode (go_cc mx_X11_headOf) 5 = .ok (.iand, 1) := by decide +kernel
theorem dx_X11_headOf_6 : decode (go_cc mx_X11_headOf) 6 = .ok (.ireturn, 1) := by decide +kernel
theorem dx_X11_partOf_0 : decode (go_cc mx_X11_partOf) 0 = .ok (.iload_n 0, 1) := by decide +kernel
theorem dx_X11_partOf_1 : decode (go_cc mx_X11_partOf) 1 = .ok (.bipush 7, 2) := by decide +kernel
theorem dx_X11_partOf_3 : decode (go_cc mx_X11_partOf) 3 = .ok (.iconst 4, 1) := by decide +kernel
theorem dx_X11_partOf_4 : decode (go_cc mx_X11_partOf) 4 = .ok (.iload_n 1, 1) := by decide +kernel
theorem dx_X11_partOf_5 : decode (go_cc mx_X11_partOf) 5 = .ok (.imul, 1) := by decide +kernel
theorem dx_X11_partOf_6 : decode (go_cc mx_X11_partOf) 6 = .ok (.iadd, 1) := by decide +kernel
theorem dx_X11_partOf_7 : decode (go_cc mx_X11_partOf) 7 = .ok (.iushr, 1) := by decide +kernel
theorem dx_X11_partOf_8 : decode (go_cc mx_X11_partOf) 8 = .ok (.bipush 15, 2) := by decide +kernel
theorem dx_X11_partOf_10 : decode (go_cc mx_X11_partOf) 10 = .ok (.iand, 1) := by decide +kernel
theorem dx_X11_partOf_11 : decode (go_cc mx_X11_partOf) 11 = .ok (.ireturn, 1) := by decide +kernel
theorem dx_X11_madeOf_0 : decode (go_cc mx_X11_madeOf) 0 = .ok (.iload_n 0, 1) := by decide +kernel
theorem dx_X11_madeOf_1 : decode (go_cc mx_X11_madeOf) 1 = .ok (.bipush 63, 2) := by decide +kernel
theorem dx_X11_madeOf_3 : decode (go_cc mx_X11_madeOf) 3 = .ok (.iand, 1) := by decide +kernel
theorem dx_X11_madeOf_4 : decode (go_cc mx_X11_madeOf) 4 = .ok (.ireturn, 1) := by decide +kernel
theorem dx_X11_leftOf_0 : decode (go_cc mx_X11_leftOf) 0 = .ok (.iload_n 0, 1) := by decide +kernel
theorem dx_X11_leftOf_1 : decode (go_cc mx_X11_leftOf) 1 = .ok (.bipush 6, 2) := by decide +kernel
theorem dx_X11_leftOf_3 : decode (go_cc mx_X11_leftOf) 3 = .ok (.iushr, 1) := by decide +kernel
theorem dx_X11_leftOf_4 : decode (go_cc mx_X11_leftOf) 4 = .ok (.bipush 63, 2) := by decide +kernel
theorem dx_X11_leftOf_6 : decode (go_cc mx_X11_leftOf) 6 = .ok (.iand, 1) := by decide +kernel
theorem dx_X11_leftOf_7 : decode (go_cc mx_X11_leftOf) 7 = .ok (.ireturn, 1) := by decide +kernel
theorem dx_X11_rightOf_0 : decode (go_cc mx_X11_rightOf) 0 = .ok (.iload_n 0, 1) := by decide +kernel
theorem dx_X11_rightOf_1 : decode (go_cc mx_X11_rightOf) 1 = .ok (.bipush 12, 2) := by decide +kernel
theorem dx_X11_rightOf_3 : decode (go_cc mx_X11_rightOf) 3 = .ok (.iushr, 1) := by decide +kernel
theorem dx_X11_rightOf_4 : decode (go_cc mx_X11_rightOf) 4 = .ok (.bipush 63, 2) := by decide +kernel
theorem dx_X11_rightOf_6 : decode (go_cc mx_X11_rightOf) 6 = .ok (.iand, 1) := by decide +kernel
theorem dx_X11_rightOf_7 : decode (go_cc mx_X11_rightOf) 7 = .ok (.ireturn, 1) := by decide +kernel
theorem dx_J6_numberOfLeadingZeros_0f7a4_0 : decode (go_cc mx_J6_numberOfLeadingZeros_0f7a4) 0 = .ok (.iload_n 0, 1) := by decide +kernel
theorem dx_J6_numberOfLeadingZeros_0f7a4_1 : decode (go_cc mx_J6_numberOfLeadingZeros_0f7a4) 1 = .ok (.ifCond .gt 14, 3) := by decide +kernel
theorem dx_J6_numberOfLeadingZeros_0f7a4_4 : decode (go_cc mx_J6_numberOfLeadingZeros_0f7a4) 4 = .ok (.iload_n 0, 1) := by decide +kernel
theorem dx_J6_numberOfLeadingZeros_0f7a4_5 : decode (go_cc mx_J6_numberOfLeadingZeros_0f7a4) 5 = .ok (.ifCond .ne 8, 3) := by decide +kernel
theorem dx_J6_numberOfLeadingZeros_0f7a4_8 : decode (go_cc mx_J6_numberOfLeadingZeros_0f7a4) 8 = .ok (.bipush 32, 2) := by decide +kernel
theorem dx_J6_numberOfLeadingZeros_0f7a4_10 : decode (go_cc mx_J6_numberOfLeadingZeros_0f7a4) 10 = .ok (.goto 4, 3) := by decide +kernel
theorem dx_J6_numberOfLeadingZeros_0f7a4_13 : decode (go_cc mx_J6_numberOfLeadingZeros_0f7a4) 13 = .ok (.iconst 0, 1) := by decide +kernel
theorem dx_J6_numberOfLeadingZeros_0f7a4_14 : decode (go_cc mx_J6_numberOfLeadingZeros_0f7a4) 14 = .ok (.ireturn, 1) := by decide +kernel
theorem dx_J6_numberOfLeadingZeros_0f7a4_15 : decode (go_cc mx_J6_numberOfLeadingZeros_0f7a4) 15 = .ok (.bipush 31, 2) := by decide +kernel
theorem dx_J6_numberOfLeadingZeros_0f7a4_17 : decode (go_cc mx_J6_numberOfLeadingZeros_0f7a4) 17 = .ok (.istore_n 1, 1) := by decide +kernel
theorem dx_J6_numberOfLeadingZeros_0f7a4_18 : decode (go_cc mx_J6_numberOfLeadingZeros_0f7a4) 18 = .ok (.iload_n 0, 1) := by decide +kernel
theorem dx_J6_numberOfLeadingZeros_0f7a4_19 : decode (go_cc mx_J6_numberOfLeadingZeros_0f7a4) 19 = .ok (.ldc_w 264, 3) := by decide +kernel
theorem dx_J6_numberOfLeadingZeros_0f7a4_22 : decode (go_cc mx_J6_numberOfLeadingZeros_0f7a4) 22 = .ok (.if_icmp .lt 11, 3) := by decide +kernel
theorem dx_J6_numberOfLeadingZeros_0f7a4_25 : decode (go_cc mx_J6_numberOfLeadingZeros_0f7a4) 25 = .ok (.iinc 1 (-16), 3) := by decide +kernel
theorem dx_J6_numberOfLeadingZeros_0f7a4_28 : decode (go_cc mx_J6_numberOfLeadingZeros_0f7a4) 28 = .ok (.iload_n 0, 1) := by decide +kernel
theorem dx_J6_numberOfLeadingZeros_0f7a4_29 : decode (go_cc mx_J6_numberOfLeadingZeros_0f7a4) 29 = .ok (.bipush 16, 2) := by decide +kernel
theorem dx_J6_numberOfLeadingZeros_0f7a4_31 : decode (go_cc mx_J6_numberOfLeadingZeros_0f7a4) 31 = .ok (.iushr, 1) := by decide +kernel
theorem dx_J6_numberOfLeadingZeros_0f7a4_32 : decode (go_cc mx_J6_numberOfLeadingZeros_0f7a4) 32 = .ok (.istore_n 0, 1) := by decide +kernel
theorem dx_J6_numberOfLeadingZeros_0f7a4_33 : decode (go_cc mx_J6_numberOfLeadingZeros_0f7a4) 33 = .ok (.iload_n 0, 1) := by decide +kernel
theorem dx_J6_numberOfLeadingZeros_0f7a4_34 : decode (go_cc mx_J6_numberOfLeadingZeros_0f7a4) 34 = .ok (.sipush 256, 3) := by decide +kernel
theorem dx_J6_numberOfLeadingZeros_0f7a4_37 : decode (go_cc mx_J6_numberOfLeadingZeros_0f7a4) 37 = .ok (.if_icmp .lt 11, 3) := by decide +kernel
theorem dx_J6_numberOfLeadingZeros_0f7a4_40 : decode (go_cc mx_J6_numberOfLeadingZeros_0f7a4) 40 = .ok (.iinc 1 (-8), 3) := by decide +kernel
theorem dx_J6_numberOfLeadingZeros_0f7a4_43 : decode (go_cc mx_J6_numberOfLeadingZeros_0f7a4) 43 = .ok (.iload_n 0, 1) := by decide +kernel
theorem dx_J6_numberOfLeadingZeros_0f7a4_44 : decode (go_cc mx_J6_numberOfLeadingZeros_0f7a4) 44 = .ok (.bipush 8, 2) := by decide +kernel
theorem dx_J6_numberOfLeadingZeros_0f7a4_46 : decode (go_cc mx_J6_numberOfLeadingZeros_0f7a4) 46 = .ok (.iushr, 1) := by decide +kernel
theorem dx_J6_numberOfLeadingZeros_0f7a4_47 : decode (go_cc mx_J6_numberOfLeadingZeros_0f7a4) 47 = .ok (.istore_n 0, 1) := by decide +kernel
theorem dx_J6_numberOfLeadingZeros_0f7a4_48 : decode (go_cc mx_J6_numberOfLeadingZeros_0f7a4) 48 = .ok (.iload_n 0, 1) := by decide +kernel
theorem dx_J6_numberOfLeadingZeros_0f7a4_49 : decode (go_cc mx_J6_numberOfLeadingZeros_0f7a4) 49 = .ok (.bipush 16, 2) := by decide +kernel
theorem dx_J6_numberOfLeadingZeros_0f7a4_51 : decode (go_cc mx_J6_numberOfLeadingZeros_0f7a4) 51 = .ok (.if_icmp .lt 10, 3) := by decide +kernel
theorem dx_J6_numberOfLeadingZeros_0f7a4_54 : decode (go_cc mx_J6_numberOfLeadingZeros_0f7a4) 54 = .ok (.iinc 1 (-4), 3) := by decide +kernel
theorem dx_J6_numberOfLeadingZeros_0f7a4_57 : decode (go_cc mx_J6_numberOfLeadingZeros_0f7a4) 57 = .ok (.iload_n 0, 1) := by decide +kernel
theorem dx_J6_numberOfLeadingZeros_0f7a4_58 : decode (go_cc mx_J6_numberOfLeadingZeros_0f7a4) 58 = .ok (.iconst 4, 1) := by decide +kernel
theorem dx_J6_numberOfLeadingZeros_0f7a4_59 : decode (go_cc mx_J6_numberOfLeadingZeros_0f7a4) 59 = .ok (.iushr, 1) := by decide +kernel
theorem dx_J6_numberOfLeadingZeros_0f7a4_60 : decode (go_cc mx_J6_numberOfLeadingZeros_0f7a4) 60 = .ok (.istore_n 0, 1) := by decide +kernel
theorem dx_J6_numberOfLeadingZeros_0f7a4_61 : decode (go_cc mx_J6_numberOfLeadingZeros_0f7a4) 61 = .ok (.iload_n 0, 1) := by decide +kernel
theorem dx_J6_numberOfLeadingZeros_0f7a4_62 : decode (go_cc mx_J6_numberOfLeadingZeros_0f7a4) 62 = .ok (.iconst 4, 1) := by decide +kernel
theorem dx_J6_numberOfLeadingZeros_0f7a4_63 : decode (go_cc mx_J6_numberOfLeadingZeros_0f7a4) 63 = .ok (.if_icmp .lt 10, 3) := by decide +kernel
theorem dx_J6_numberOfLeadingZeros_0f7a4_66 : decode (go_cc mx_J6_numberOfLeadingZeros_0f7a4) 66 = .ok (.iinc 1 (-2), 3) := by decide +kernel
theorem dx_J6_numberOfLeadingZeros_0f7a4_69 : decode (go_cc mx_J6_numberOfLeadingZeros_0f7a4) 69 = .ok (.iload_n 0, 1) := by decide +kernel
theorem dx_J6_numberOfLeadingZeros_0f7a4_70 : decode (go_cc mx_J6_numberOfLeadingZeros_0f7a4) 70 = .ok (.iconst 2, 1) := by decide +kernel
theorem dx_J6_numberOfLeadingZeros_0f7a4_71 : decode (go_cc mx_J6_numberOfLeadingZeros_0f7a4) 71 = .ok (.iushr, 1) := by decide +kernel
theorem dx_J6_numberOfLeadingZeros_0f7a4_72 : decode (go_cc mx_J6_numberOfLeadingZeros_0f7a4) 72 = .ok (.istore_n 0, 1) := by decide +kernel
theorem dx_J6_numberOfLeadingZeros_0f7a4_73 : decode (go_cc mx_J6_numberOfLeadingZeros_0f7a4) 73 = .ok (.iload_n 1, 1) := by decide +kernel
theorem dx_J6_numberOfLeadingZeros_0f7a4_74 : decode (go_cc mx_J6_numberOfLeadingZeros_0f7a4) 74 = .ok (.iload_n 0, 1) := by decide +kernel
theorem dx_J6_numberOfLeadingZeros_0f7a4_75 : decode (go_cc mx_J6_numberOfLeadingZeros_0f7a4) 75 = .ok (.iconst 1, 1) := by decide +kernel
theorem dx_J6_numberOfLeadingZeros_0f7a4_76 : decode (go_cc mx_J6_numberOfLeadingZeros_0f7a4) 76 = .ok (.iushr, 1) := by decide +kernel
theorem dx_J6_numberOfLeadingZeros_0f7a4_77 : decode (go_cc mx_J6_numberOfLeadingZeros_0f7a4) 77 = .ok (.isub, 1) := by decide +kernel
theorem dx_J6_numberOfLeadingZeros_0f7a4_78 : decode (go_cc mx_J6_numberOfLeadingZeros_0f7a4) 78 = .ok (.ireturn, 1) := by decide +kernel
theorem dx_J6_numberOfTrailingZeros_0f7a4_0 : decode (go_cc mx_J6_numberOfTrailingZeros_0f7a4) 0 = .ok (.iload_n 0, 1) := by decide +kernel
theorem dx_J6_numberOfTrailingZeros_0f7a4_1 : decode (go_cc mx_J6_numberOfTrailingZeros_0f7a4) 1 = .ok (.iconst (-1), 1) := by decide +kernel
theorem dx_J6_numberOfTrailingZeros_0f7a4_2 : decode (go_cc mx_J6_numberOfTrailingZeros_0f7a4) 2 = .ok (.ixor, 1) := by decide +kernel
theorem dx_J6_numberOfTrailingZeros_0f7a4_3 : decode (go_cc mx_J6_numberOfTrailingZeros_0f7a4) 3 = .ok (.iload_n 0, 1) := by decide +kernel
theorem dx_J6_numberOfTrailingZeros_0f7a4_4 : decode (go_cc mx_J6_numberOfTrailingZeros_0f7a4) 4 = .ok (.iconst 1, 1) := by decide +kernel
theorem dx_J6_numberOfTrailingZeros_0f7a4_5 : decode (go_cc mx_J6_numberOfTrailingZeros_0f7a4) 5 = .ok (.isub, 1) := by decide +kernel
theorem dx_J6_numberOfTrailingZeros_0f7a4_6 : decode (go_cc mx_J6_numberOfTrailingZeros_0f7a4) 6 = .ok (.iand, 1) := by decide +kernel
theorem dx_J6_numberOfTrailingZeros_0f7a4_7 : decode (go_cc mx_J6_numberOfTrailingZeros_0f7a4) 7 = .ok (.istore_n 0, 1) := by decide +kernel
theorem dx_J6_numberOfTrailingZeros_0f7a4_8 : decode (go_cc mx_J6_numberOfTrailingZeros_0f7a4) 8 = .ok (.iload_n 0, 1) := by decide +kernel
theorem dx_J6_numberOfTrailingZeros_0f7a4_9 : decode (go_cc mx_J6_numberOfTrailingZeros_0f7a4) 9 = .ok (.ifCond .gt 8, 3) := by decide +kernel
theorem dx_J6_numberOfTrailingZeros_0f7a4_12 : decode (go_cc mx_J6_numberOfTrailingZeros_0f7a4) 12 = .ok (.iload_n 0, 1) := by decide +kernel
theorem dx_J6_numberOfTrailingZeros_0f7a4_13 : decode (go_cc mx_J6_numberOfTrailingZeros_0f7a4) 13 = .ok (.bipush 32, 2) := by decide +kernel
theorem dx_J6_numberOfTrailingZeros_0f7a4_15 : decode (go_cc mx_J6_numberOfTrailingZeros_0f7a4) 15 = .ok (.iand, 1) := by decide +kernel
theorem dx_J6_numberOfTrailingZeros_0f7a4_16 : decode (go_cc mx_J6_numberOfTrailingZeros_0f7a4) 16 = .ok (.ireturn, 1) := by decide +kernel
theorem dx_J6_numberOfTrailingZeros_0f7a4_17 : decode (go_cc mx_J6_numberOfTrailingZeros_0f7a4) 17 = .ok (.iconst 1, 1) := by decide +kernel
theorem dx_J6_numberOfTrailingZeros_0f7a4_18 : decode (go_cc mx_J6_numberOfTrailingZeros_0f7a4) 18 = .ok (.istore_n 1, 1) := by decide +kernel
theorem dx_J6_numberOfTrailingZeros_0f7a4_19 : decode (go_cc mx_J6_numberOfTrailingZeros_0f7a4) 19 = .ok (.iload_n 0, 1) := by decide +kernel
theorem dx_J6_numberOfTrailingZeros_0f7a4_20 : decode (go_cc mx_J6_numberOfTrailingZeros_0f7a4) 20 = .ok (.ldc_w 264, 3) := by decide +kernel
theorem dx_J6_numberOfTrailingZeros_0f7a4_23 : decode (go_cc mx_J6_numberOfTrailingZeros_0f7a4) 23 = .ok (.if_icmp .le 11, 3) := by decide +kernel
theorem dx_J6_numberOfTrailingZeros_0f7a4_26 : decode (go_cc mx_J6_numberOfTrailingZeros_0f7a4) 26 = .ok (.iinc 1 16, 3) := by decide +kernel
theorem dx_J6_numberOfTrailingZeros_0f7a4_29 : decode (go_cc mx_J6_numberOfTrailingZeros_0f7a4) 29 = .ok (.iload_n 0, 1) := by decide +kernel
theorem dx_J6_numberOfTrailingZeros_0f7a4_30 : decode (go_cc mx_J6_numberOfTrailingZeros_0f7a4) 30 = .ok (.bipush 16, 2) := by decide +kernel
theorem dx_J6_numberOfTrailingZeros_0f7a4_32 : decode (go_cc mx_J6_numberOfTrailingZeros_0f7a4) 32 = .ok (.iushr, 1) := by decide +kernel
theorem dx_J6_numberOfTrailingZeros_0f7a4_33 : decode (go_cc mx_J6_numberOfTrailingZeros_0f7a4) 33 = .ok (.istore_n 0, 1) := by decide +kernel
theorem dx_J6_numberOfTrailingZeros_0f7a4_34 : decode (go_cc mx_J6_numberOfTrailingZeros_0f7a4) 34 = .ok (.iload_n 0, 1) := by decide +kernel
theorem dx_J6_numberOfTrailingZeros_0f7a4_35 : decode (go_cc mx_J6_numberOfTrailingZeros_0f7a4) 35 = .ok (.sipush 256, 3) := by decide +kernel
theorem dx_J6_numberOfTrailingZeros_0f7a4_38 : decode (go_cc mx_J6_numberOfTrailingZeros_0f7a4) 38 = .ok (.if_icmp .le 11, 3) := by decide +kernel
theorem dx_J6_numberOfTrailingZeros_0f7a4_41 : decode (go_cc mx_J6_numberOfTrailingZeros_0f7a4) 41 = .ok (.iinc 1 8, 3) := by decide +kernel
theorem dx_J6_numberOfTrailingZeros_0f7a4_44 : decode (go_cc mx_J6_numberOfTrailingZeros_0f7a4) 44 = .ok (.iload_n 0, 1) := by decide +kernel
theorem dx_J6_numberOfTrailingZeros_0f7a4_45 : decode (go_cc mx_J6_numberOfTrailingZeros_0f7a4) 45 = .ok (.bipush 8, 2) := by decide +kernel
theorem dx_J6_numberOfTrailingZeros_0f7a4_47 : decode (go_cc mx_J6_numberOfTrailingZeros_0f7a4) 47 = .ok (.iushr, 1) := by decide +kernel
theorem dx_J6_numberOfTrailingZeros_0f7a4_48 : decode (go_cc mx_J6_numberOfTrailingZeros_0f7a4) 48 = .ok (.istore_n 0, 1) := by decide +kernel
theorem dx_J6_numberOfTrailingZeros_0f7a4_49 : decode (go_cc mx_J6_numberOfTrailingZeros_0f7a4) 49 = .ok (.iload_n 0, 1) := by decide +kernel
theorem dx_J6_numberOfTrailingZeros_0f7a4_50 : decode (go_cc mx_J6_numberOfTrailingZeros_0f7a4) 50 = .ok (.bipush 16, 2) := by decide +kernel
theorem dx_J6_numberOfTrailingZeros_0f7a4_52 : decode (go_cc mx_J6_numberOfTrailingZeros_0f7a4) 52 = .ok (.if_icmp .le 10, 3) := by decide +kernel
theorem dx_J6_numberOfTrailingZeros_0f7a4_55 : decode (go_cc mx_J6_numberOfTrailingZeros_0f7a4) 55 = .ok (.iinc 1 4, 3) := by decide +kernel
theorem dx_J6_numberOfTrailingZeros_0f7a4_58 : decode (go_cc mx_J6_numberOfTrailingZeros_0f7a4) 58 = .ok (.iload_n 0, 1) := by decide +kernel
theorem dx_J6_numberOfTrailingZeros_0f7a4_59 : decode (go_cc mx_J6_numberOfTrailingZeros_0f7a4) 59 = .ok (.iconst 4, 1) := by decide +kernel
theorem dx_J6_numberOfTrailingZeros_0f7a4_60 : decode (go_cc mx_J6_numberOfTrailingZeros_0f7a4) 60 = .ok (.iushr, 1) := by decide +kernel
theorem dx_J6_numberOfTrailingZeros_0f7a4_61 : decode (go_cc mx_J6_numberOfTrailingZeros_0f7a4) 61 = .ok (.istore_n 0, 1) := by decide +kernel
theorem dx_J6_numberOfTrailingZeros_0f7a4_62 : decode (go_cc mx_J6_numberOfTrailingZeros_0f7a4) 62 = .ok (.iload_n 0, 1) := by decide +kernel
theorem dx_J6_numberOfTrailingZeros_0f7a4_63 : decode (go_cc mx_J6_numberOfTrailingZeros_0f7a4) 63 = .ok (.iconst 4, 1) := by decide +kernel
theorem dx_J6_numberOfTrailingZeros_0f7a4_64 : decode (go_cc mx_J6_numberOfTrailingZeros_0f7a4) 64 = .ok (.if_icmp .le 10, 3) := by decide +kernel
theorem dx_J6_numberOfTrailingZeros_0f7a4_67 : decode (go_cc mx_J6_numberOfTrailingZeros_0f7a4) 67 = .ok (.iinc 1 2, 3) := by decide +kernel
theorem dx_J6_numberOfTrailingZeros_0f7a4_70 : decode (go_cc mx_J6_numberOfTrailingZeros_0f7a4) 70 = .ok (.iload_n 0, 1) := by decide +kernel
theorem dx_J6_numberOfTrailingZeros_0f7a4_71 : decode (go_cc mx_J6_numberOfTrailingZeros_0f7a4) 71 = .ok (.iconst 2, 1) := by decide +kernel
theorem dx_J6_numberOfTrailingZeros_0f7a4_72 : decode (go_cc mx_J6_numberOfTrailingZeros_0f7a4) 72 = .ok (.iushr, 1) := by decide +kernel
theorem dx_J6_numberOfTrailingZeros_0f7a4_73 : decode (go_cc mx_J6_numberOfTrailingZeros_0f7a4) 73 = .ok (.istore_n 0, 1) := by decide +kernel
theorem dx_J6_numberOfTrailingZeros_0f7a4_74 : decode (go_cc mx_J6_numberOfTrailingZeros_0f7a4) 74 = .ok (.iload_n 1, 1) := by decide +kernel
theorem dx_J6_numberOfTrailingZeros_0f7a4_75 : decode (go_cc mx_J6_numberOfTrailingZeros_0f7a4) 75 = .ok (.iload_n 0, 1) := by decide +kernel
theorem dx_J6_numberOfTrailingZeros_0f7a4_76 : decode (go_cc mx_J6_numberOfTrailingZeros_0f7a4) 76 = .ok (.iconst 1, 1) := by decide +kernel
theorem dx_J6_numberOfTrailingZeros_0f7a4_77 : decode (go_cc mx_J6_numberOfTrailingZeros_0f7a4) 77 = .ok (.iushr, 1) := by decide +kernel
theorem dx_J6_numberOfTrailingZeros_0f7a4_78 : decode (go_cc mx_J6_numberOfTrailingZeros_0f7a4) 78 = .ok (.iadd, 1) := by decide +kernel
theorem dx_J6_numberOfTrailingZeros_0f7a4_79 : decode (go_cc mx_J6_numberOfTrailingZeros_0f7a4) 79 = .ok (.ireturn, 1) := by decide +kernel
theorem dx_J6_bitCount_0f7a4_0 : decode (go_cc mx_J6_bitCount_0f7a4) 0 = .ok (.iload_n 0, 1) := by decide +kernel
theorem dx_J6_bitCount_0f7a4_1 : decode (go_cc mx_J6_bitCount_0f7a4) 1 = .ok (.iload_n 0, 1) := by decide +kernel
theorem dx_J6_bitCount_0f7a4_2 : decode (go_cc mx_J6_bitCount_0f7a4) 2 = .ok (.iconst 1, 1) := by decide +kernel
theorem dx_J6_bitCount_0f7a4_3 : decode (go_cc mx_J6_bitCount_0f7a4) 3 = .ok (.iushr, 1) := by decide +kernel
theorem dx_J6_bitCount_0f7a4_4 : decode (go_cc mx_J6_bitCount_0f7a4) 4 = .ok (.ldc_w 265, 3) := by decide +kernel
theorem dx_J6_bitCount_0f7a4_7 : decode (go_cc mx_J6_bitCount_0f7a4) 7 = .ok (.iand, 1) := by decide +kernel
theorem dx_J6_bitCount_0f7a4_8 : decode (go_cc mx_J6_bitCount_0f7a4) 8 = .ok (.isub, 1) := by decide +kernel
theorem dx_J6_bitCount_0f7a4_9 : decode (go_cc mx_J6_bitCount_0f7a4) 9 = .ok (.istore_n 0, 1) := by decide +kernel
theorem dx_J6_bitCount_0f7a4_10 : decode (go_cc mx_J6_bitCount_0f7a4) 10 = .ok (.iload_n 0, 1) := by decide +kernel
theorem dx_J6_bitCount_0f7a4_11 : decode (go_cc mx_J6_bitCount_0f7a4) 11 = .ok (.ldc_w 266, 3) := by decide +kernel
theorem dx_J6_bitCount_0f7a4_14 : decode (go_cc mx_J6_bitCount_0f7a4) 14 = .ok (.iand, 1) := by decide +kernel
theorem dx_J6_bitCount_0f7a4_15 : decode (go_cc mx_J6_bitCount_0f7a4) 15 = .ok (.iload_n 0, 1) := by decide +kernel
theorem dx_J6_bitCount_0f7a4_16 : decode (go_cc mx_J6_bitCount_0f7a4) 16 = .ok (.iconst 2, 1) := by decide +kernel
theorem dx_J6_bitCount_0f7a4_17 : decode (go_cc mx_J6_bitCount_0f7a4) 17 = .ok (.iushr, 1) := by decide +kernel
theorem dx_J6_bitCount_0f7a4_18 : decode (go_cc mx_J6_bitCount_0f7a4) 18 = .ok (.ldc_w 266, 3) := by decide +kernel
theorem dx_J6_bitCount_0f7a4_21 : decode (go_cc mx_J6_bitCount_0f7a4) 21 = .ok (.iand, 1) := by decide +kernel
theorem dx_J6_bitCount_0f7a4_22 : decode (go_cc mx_J6_bitCount_0f7a4) 22 = .ok (.iadd, 1) := by decide +kernel
theorem dx_J6_bitCount_0f7a4_23 : decode (go_cc mx_J6_bitCount_0f7a4) 23 = .ok (.istore_n 0, 1) := by decide +kernel
theorem dx_J6_bitCount_0f7a4_24 : decode (go_cc mx_J6_bitCount_0f7a4) 24 = .ok (.iload_n 0, 1) := by decide +kernel
theorem dx_J6_bitCount_0f7a4_25 : decode (go_cc mx_J6_bitCount_0f7a4) 25 = .ok (.iload_n 0, 1) := by decide +kernel
theorem dx_J6_bitCount_0f7a4_26 : decode (go_cc mx_J6_bitCount_0f7a4) 26 = .ok (.iconst 4, 1) := by decide +kernel
theorem dx_J6_bitCount_0f7a4_27 : decode (go_cc mx_J6_bitCount_0f7a4) 27 = .ok (.iushr, 1) := by decide +kernel
theorem dx_J6_bitCount_0f7a4_28 : decode (go_cc mx_J6_bitCount_0f7a4) 28 = .ok (.iadd, 1) := by decide +kernel
theorem dx_J6_bitCount_0f7a4_29 : decode (go_cc mx_J6_bitCount_0f7a4) 29 = .ok (.ldc_w 267, 3) := by decide +kernel
theorem dx_J6_bitCount_0f7a4_32 : decode (go_cc mx_J6_bitCount_0f7a4) 32 = .ok (.iand, 1) := by decide +kernel
theorem dx_J6_bitCount_0f7a4_33 : decode (go_cc mx_J6_bitCount_0f7a4) 33 = .ok (.istore_n 0, 1) := by decide +kernel
theorem dx_J6_bitCount_0f7a4_34 : decode (go_cc mx_J6_bitCount_0f7a4) 34 = .ok (.iload_n 0, 1) := by decide +kernel
theorem dx_J6_bitCount_0f7a4_35 : decode (go_cc mx_J6_bitCount_0f7a4) 35 = .ok (.iload_n 0, 1) := by decide +kernel
theorem dx_J6_bitCount_0f7a4_36 : decode (go_cc mx_J6_bitCount_0f7a4) 36 = .ok (.bipush 8, 2) := by decide +kernel
theorem dx_J6_bitCount_0f7a4_38 : decode (go_cc mx_J6_bitCount_0f7a4) 38 = .ok (.iushr, 1) := by decide +kernel
theorem dx_J6_bitCount_0f7a4_39 : decode (go_cc mx_J6_bitCount_0f7a4) 39 = .ok (.iadd, 1) := by decide +kernel
theorem dx_J6_bitCount_0f7a4_40 : decode (go_cc mx_J6_bitCount_0f7a4) 40 = .ok (.istore_n 0, 1) := by decide +kernel
theorem dx_J6_bitCount_0f7a4_41 : decode (go_cc mx_J6_bitCount_0f7a4) 41 = .ok (.iload_n 0, 1) := by decide +kernel
theorem dx_J6_bitCount_0f7a4_42 : decode (go_cc mx_J6_bitCount_0f7a4) 42 = .ok (.iload_n 0, 1) := by decide +kernel
theorem dx_J6_bitCount_0f7a4_43 : decode (go_cc mx_J6_bitCount_0f7a4) 43 = .ok (.bipush 16, 2) := by decide +kernel
theorem dx_J6_bitCount_0f7a4_45 : decode (go_cc mx_J6_bitCount_0f7a4) 45 = .ok (.iushr, 1) := by decide +kernel
theorem dx_J6_bitCount_0f7a4_46 : decode (go_cc mx_J6_bitCount_0f7a4) 46 = .ok (.iadd, 1) := by decide +kernel
theorem dx_J6_bitCount_0f7a4_47 : decode (go_cc mx_J6_bitCount_0f7a4) 47 = .ok (.istore_n 0, 1) := by decide +kernel
theorem dx_J6_bitCount_0f7a4_48 : decode (go_cc mx_J6_bitCount_0f7a4) 48 = .ok (.iload_n 0, 1) := by decide +kernel
theorem dx_J6_bitCount_0f7a4_49 : decode (go_cc mx_J6_bitCount_0f7a4) 49 = .ok (.bipush 63, 2) := by decide +kernel
theorem dx_J6_bitCount_0f7a4_51 : decode (go_cc mx_J6_bitCount_0f7a4) 51 = .ok (.iand, 1) := by decide +kernel
theorem dx_J6_bitCount_0f7a4_52 : decode (go_cc mx_J6_bitCount_0f7a4) 52 = .ok (.ireturn, 1) := by decide +kernel
theorem dx_J13_numberOfTrailingZeros_95d88_0 : decode (go_cc mx_J13_numberOfTrailingZeros_95d88) 0 = .ok (.lload_n 0, 1) := by decide +kernel
theorem dx_J13_numberOfTrailingZeros_95d88_1 : decode (go_cc mx_J13_numberOfTrailingZeros_95d88) 1 = .ok (.l2i, 1) := by decide +kernel
theorem dx_J13_numberOfTrailingZeros_95d88_2 : decode (go_cc mx_J13_numberOfTrailingZeros_95d88) 2 = .ok (.istore_n 2, 1) := by decide +kernel
theorem dx_J13_numberOfTrailingZeros_95d88_3 : decode (go_cc mx_J13_numberOfTrailingZeros_95d88) 3 = .ok (.iload_n 2, 1) := by decide +kernel
theorem dx_J13_numberOfTrailingZeros_95d88_4 : decode (go_cc mx_J13_numberOfTrailingZeros_95d88) 4 = .ok (.ifCond .ne 17, 3) := by decide +kernel
theorem dx_J13_numberOfTrailingZeros_95d88_7 : decode (go_cc mx_J13_numberOfTrailingZeros_95d88) 7 = .ok (.bipush 32, 2) := by decide +kernel
theorem dx_J13_numberOfTrailingZeros_95d88_9 : decode (go_cc mx_J13_numberOfTrailingZeros_95d88) 9 = .ok (.lload_n 0, 1) := by decide +kernel
theorem dx_J13_numberOfTrailingZeros_95d88_10 : decode (go_cc mx_J13_numberOfTrailingZeros_95d88) 10 = .ok (.bipush 32, 2) := by decide +kernel
theorem dx_J13_numberOfTrailingZeros_95d88_12 : decode (go_cc mx_J13_numberOfTrailingZeros_95d88) 12 = .ok (.lushr, 1) := by decide +kernel
theorem dx_J13_numberOfTrailingZeros_95d88_13 : decode (go_cc mx_J13_numberOfTrailingZeros_95d88) 13 = .ok (.l2i, 1) := by decide +kernel
theorem dx_J13_numberOfTrailingZeros_95d88_14 : decode (go_cc mx_J13_numberOfTrailingZeros_95d88) 14 = .ok (.invokestatic 311, 3) := by decide +kernel
theorem dx_J13_numberOfTrailingZeros_95d88_17 : decode (go_cc mx_J13_numberOfTrailingZeros_95d88) 17 = .ok (.iadd, 1) := by decide +kernel
theorem dx_J13_numberOfTrailingZeros_95d88_18 : decode (go_cc mx_J13_numberOfTrailingZeros_95d88) 18 = .ok (.goto 7, 3) := by decide +kernel
theorem dx_J13_numberOfTrailingZeros_95d88_21 : decode (go_cc mx_J13_numberOfTrailingZeros_95d88) 21 = .ok (.iload_n 2, 1) := by decide +kernel
theorem dx_J13_numberOfTrailingZeros_95d88_22 : decode (go_cc mx_J13_numberOfTrailingZeros_95d88) 22 = .ok (.invokestatic 311, 3) := by decide +kernel
theorem dx_J13_numberOfTrailingZeros_95d88_25 : decode (go_cc mx_J13_numberOfTrailingZeros_95d88) 25 = .ok (.ireturn, 1) := by decide +kernel
theorem dx_J13_bitCount_95d88_0 : decode (go_cc mx_J13_bitCount_95d88) 0 = .ok (.lload_n 0, 1) := by decide +kernel
theorem dx_J13_bitCount_95d88_1 : decode (go_cc mx_J13_bitCount_95d88) 1 = .ok (.lload_n 0, 1) := by decide +kernel
theorem dx_J13_bitCount_95d88_2 : decode (go_cc mx_J13_bitCount_95d88) 2 = .ok (.iconst 1, 1) := by decide +kernel
theorem dx_J13_bitCount_95d88_3 : decode (go_cc mx_J13_bitCount_95d88) 3 = .ok (.lushr, 1) := by decide +kernel
theorem dx_J13_bitCount_95d88_4 : decode (go_cc mx_J13_bitCount_95d88) 4 = .ok (.ldc2_w 314, 3) := by decide +kernel
theorem dx_J13_bitCount_95d88_7 : decode (go_cc mx_J13_bitCount_95d88) 7 = .ok (.land, 1) := by decide +kernel
theorem dx_J13_bitCount_95d88_8 : decode (go_cc mx_J13_bitCount_95d88) 8 = .ok (.lsub, 1) := by decide +kernel
theorem dx_J13_bitCount_95d88_9 : decode (go_cc mx_J13_bitCount_95d88) 9 = .ok (.lstore_n 0, 1) := by decide +kernel
theorem dx_J13_bitCount_95d88_10 : decode (go_cc mx_J13_bitCount_95d88) 10 = .ok (.lload_n 0, 1) := by decide +kernel
theorem dx_J13_bitCount_95d88_11 : decode (go_cc mx_J13_bitCount_95d88) 11 = .ok (.ldc2_w 316, 3) := by decide +kernel
theorem dx_J13_bitCount_95d88_14 : decode (go_cc mx_J13_bitCount_95d88) 14 = .ok (.land, 1) := by decide +kernel
theorem dx_J13_bitCount_95d88_15 : decode (go_cc mx_J13_bitCount_95d88) 15 = .ok (.lload_n 0, 1) := by decide +kernel
theorem dx_J13_bitCount_95d88_16 : decode (go_cc mx_J13_bitCount_95d88) 16 = .ok (.iconst 2, 1) := by decide +kernel
theorem dx_J13_bitCount_95d88_17 : decode (go_cc mx_J13_bitCount_95d88) 17 = .ok (.lushr, 1) := by decide +kernel
theorem dx_J13_bitCount_95d88_18 : decode (go_cc mx_J13_bitCount_95d88) 18 = .ok (.ldc2_w 316, 3) := by decide +kernel
theorem dx_J13_bitCount_95d88_21 : decode (go_cc mx_J13_bitCount_95d88) 21 = .ok (.land, 1) := by decide +kernel
theorem dx_J13_bitCount_95d88_22 : decode (go_cc mx_J13_bitCount_95d88) 22 = .ok (.ladd, 1) := by decide +kernel
theorem dx_J13_bitCount_95d88_23 : decode (go_cc mx_J13_bitCount_95d88) 23 = .ok (.lstore_n 0, 1) := by decide +kernel
theorem dx_J13_bitCount_95d88_24 : decode (go_cc mx_J13_bitCount_95d88) 24 = .ok (.lload_n 0, 1) := by decide +kernel
theorem dx_J13_bitCount_95d88_25 : decode (go_cc mx_J13_bitCount_95d88) 25 = .ok (.lload_n 0, 1) := by decide +kernel
theorem dx_J13_bitCount_95d88_26 : decode (go_cc mx_J13_bitCount_95d88) 26 = .ok (.iconst 4, 1) := by decide +kernel
theorem dx_J13_bitCount_95d88_27 : decode (go_cc mx_J13_bitCount_95d88) 27 = .ok (.lushr, 1) := by decide +kernel
theorem dx_J13_bitCount_95d88_28 : decode (go_cc mx_J13_bitCount_95d88) 28 = .ok (.ladd, 1) := by decide +kernel
theorem dx_J13_bitCount_95d88_29 : decode (go_cc mx_J13_bitCount_95d88) 29 = .ok (.ldc2_w 318, 3) := by decide +kernel
theorem dx_J13_bitCount_95d88_32 : decode (go_cc mx_J13_bitCount_95d88) 32 = .ok (.land, 1) := by decide +kernel
theorem dx_J13_bitCount_95d88_33 : decode (go_cc mx_J13_bitCount_95d88) 33 = .ok (.lstore_n 0, 1) := by decide +kernel
theorem dx_J13_bitCount_95d88_34 : decode (go_cc mx_J13_bitCount_95d88) 34 = .ok (.lload_n 0, 1) := by decide +kernel
theorem dx_J13_bitCount_95d88_35 : decode (go_cc mx_J13_bitCount_95d88) 35 = .ok (.lload_n 0, 1) := by decide +kernel
theorem dx_J13_bitCount_95d88_36 : decode (go_cc mx_J13_bitCount_95d88) 36 = .ok (.bipush 8, 2) := by decide +kernel
theorem dx_J13_bitCount_95d88_38 : decode (go_cc mx_J13_bitCount_95d88) 38 = .ok (.lushr, 1) := by decide +kernel
theorem dx_J13_bitCount_95d88_39 : decode (go_cc mx_J13_bitCount_95d88) 39 = .ok (.ladd, 1) := by decide +kernel
theorem dx_J13_bitCount_95d88_40 : decode (go_cc mx_J13_bitCount_95d88) 40 = .ok (.lstore_n 0, 1) := by decide +kernel
theorem dx_J13_bitCount_95d88_41 : decode (go_cc mx_J13_bitCount_95d88) 41 = .ok (.lload_n 0, 1) := by decide +kernel
theorem dx_J13_bitCount_95d88_42 : decode (go_cc mx_J13_bitCount_95d88) 42 = .ok (.lload_n 0, 1) := by decide +kernel
theorem dx_J13_bitCount_95d88_43 : decode (go_cc mx_J13_bitCount_95d88) 43 = .ok (.bipush 16, 2) := by decide +kernel
theorem dx_J13_bitCount_95d88_45 : decode (go_cc mx_J13_bitCount_95d88) 45 = .ok (.lushr, 1) := by decide +kernel
theorem dx_J13_bitCount_95d88_46 : decode (go_cc mx_J13_bitCount_95d88) 46 = .ok (.ladd, 1) := by decide +kernel
theorem dx_J13_bitCount_95d88_47 : decode (go_cc mx_J13_bitCount_95d88) 47 = .ok (.lstore_n 0, 1) := by decide +kernel
theorem dx_J13_bitCount_95d88_48 : decode (go_cc mx_J13_bitCount_95d88) 48 = .ok (.lload_n 0, 1) := by decide +kernel
theorem dx_J13_bitCount_95d88_49 : decode (go_cc mx_J13_bitCount_95d88) 49 = .ok (.lload_n 0, 1) := by decide +kernel
theorem dx_J13_bitCount_95d88_50 : decode (go_cc mx_J13_bitCount_95d88) 50 = .ok (.bipush 32, 2) := by decide +kernel
theorem dx_J13_bitCount_95d88_52 : decode (go_cc mx_J13_bitCount_95d88) 52 = .ok (.lushr, 1) := by decide +kernel
theorem dx_J13_bitCount_95d88_53 : decode (go_cc mx_J13_bitCount_95d88) 53 = .ok (.ladd, 1) := by decide +kernel
theorem dx_J13_bitCount_95d88_54 : decode (go_cc mx_J13_bitCount_95d88) 54 = .ok (.lstore_n 0, 1) := by decide +kernel
theorem dx_J13_bitCount_95d88_55 : decode (go_cc mx_J13_bitCount_95d88) 55 = .ok (.lload_n 0, 1) := by decide +kernel
theorem dx_J13_bitCount_95d88_56 : decode (go_cc mx_J13_bitCount_95d88) 56 = .ok (.l2i, 1) := by decide +kernel
theorem dx_J13_bitCount_95d88_57 : decode (go_cc mx_J13_bitCount_95d88) 57 = .ok (.bipush 127, 2) := by decide +kernel
theorem dx_J13_bitCount_95d88_59 : decode (go_cc mx_J13_bitCount_95d88) 59 = .ok (.iand, 1) := by decide +kernel
theorem dx_J13_bitCount_95d88_60 : decode (go_cc mx_J13_bitCount_95d88) 60 = .ok (.ireturn, 1) := by decide +kernel
