theorem dP_init_0 : decode cP_init 0 = .ok (.aload_n 0, 1) := by decide +kernel
theorem dP_init_1 : decode cP_init 1 = .ok (.invokespecial 3, 3) := by decide +kernel
theorem dP_init_4 : decode cP_init 4 = .ok (.aload_n 0, 1) := by decide +kernel
theorem dP_init_5 : decode cP_init 5 = .ok (.sipush 1024, 3) := by decide +kernel
theorem dP_init_8 : decode cP_init 8 = .ok (.newarray .int, 2) := by decide +kernel
theorem dP_init_10 : decode cP_init 10 = .ok (.putfield 9, 3) := by decide +kernel
theorem dP_init_13 : decode cP_init 13 = .ok (.aload_n 0, 1) := by decide +kernel
theorem dP_init_14 : decode cP_init 14 = .ok (.iconst 1, 1) := by decide +kernel
theorem dP_init_15 : decode cP_init 15 = .ok (.putfield 15, 3) := by decide +kernel
theorem dP_init_18 : decode cP_init 18 = .ok (.aload_n 0, 1) := by decide +kernel
theorem dP_init_19 : decode cP_init 19 = .ok (.iconst 1, 1) := by decide +kernel
theorem dP_init_20 : decode cP_init 20 = .ok (.putfield 19, 3) := by decide +kernel
theorem dP_init_23 : decode cP_init 23 = .ok (.aload_n 0, 1) := by decide +kernel
theorem dP_init_24 : decode cP_init 24 = .ok (.bipush 32, 2) := by decide +kernel
theorem dP_init_26 : decode cP_init 26 = .ok (.newarray .int, 2) := by decide +kernel
theorem dP_init_28 : decode cP_init 28 = .ok (.putfield 22, 3) := by decide +kernel
theorem dP_init_31 : decode cP_init 31 = .ok (.return_, 1) := by decide +kernel
theorem dP_isOfSizeOf_0 : decode cP_isOfSizeOf 0 = .ok (.aload_n 0, 1) := by decide +kernel
theorem dP_isOfSizeOf_1 : decode cP_isOfSizeOf 1 = .ok (.getfield 15, 3) := by decide +kernel
theorem dP_isOfSizeOf_4 : decode cP_isOfSizeOf 4 = .ok (.aload_n 1, 1) := by decide +kernel
theorem dP_isOfSizeOf_5 : decode cP_isOfSizeOf 5 = .ok (.getfield 15, 3) := by decide +kernel
theorem dP_isOfSizeOf_8 : decode cP_isOfSizeOf 8 = .ok (.if_icmp .ne 18, 3) := by decide +kernel
theorem dP_isOfSizeOf_11 : decode cP_isOfSizeOf 11 = .ok (.aload_n 0, 1) := by decide +kernel
theorem dP_isOfSizeOf_12 : decode cP_isOfSizeOf 12 = .ok (.getfield 19, 3) := by decide +kernel
theorem dP_isOfSizeOf_15 : decode cP_isOfSizeOf 15 = .ok (.aload_n 1, 1) := by decide +kernel
theorem dP_isOfSizeOf_16 : decode cP_isOfSizeOf 16 = .ok (.getfield 19, 3) := by decide +kernel
theorem dP_isOfSizeOf_19 : decode cP_isOfSizeOf 19 = .ok (.if_icmp .ne 7, 3) := by decide +kernel
theorem dP_isOfSizeOf_22 : decode cP_isOfSizeOf 22 = .ok (.iconst 1, 1) := by decide +kernel
theorem dP_isOfSizeOf_23 : decode cP_isOfSizeOf 23 = .ok (.goto 4, 3) := by decide +kernel
theorem dP_isOfSizeOf_26 : decode cP_isOfSizeOf 26 = .ok (.iconst 0, 1) := by decide +kernel
theorem dP_isOfSizeOf_27 : decode cP_isOfSizeOf 27 = .ok (.ireturn, 1) := by decide +kernel
theorem dP_empty_0 : decode cP_empty 0 = .ok (.aload_n 0, 1) := by decide +kernel
theorem dP_empty_1 : decode cP_empty 1 = .ok (.getfield 9, 3) := by decide +kernel
theorem dP_empty_4 : decode cP_empty 4 = .ok (.iconst 0, 1) := by decide +kernel
theorem dP_empty_5 : decode cP_empty 5 = .ok (.invokestatic 25, 3) := by decide +kernel
theorem dP_empty_8 : decode cP_empty 8 = .ok (.aload_n 0, 1) := by decide +kernel
theorem dP_empty_9 : decode cP_empty 9 = .ok (.iload_n 1, 1) := by decide +kernel
theorem dP_empty_10 : decode cP_empty 10 = .ok (.putfield 15, 3) := by decide +kernel
theorem dP_empty_13 : decode cP_empty 13 = .ok (.aload_n 0, 1) := by decide +kernel
theorem dP_empty_14 : decode cP_empty 14 = .ok (.iload_n 2, 1) := by decide +kernel
theorem dP_empty_15 : decode cP_empty 15 = .ok (.putfield 19, 3) := by decide +kernel
theorem dP_empty_18 : decode cP_empty 18 = .ok (.return_, 1) := by decide +kernel
theorem dP_has_0 : decode cP_has 0 = .ok (.iload_n 1, 1) := by decide +kernel
theorem dP_has_1 : decode cP_has 1 = .ok (.ifCond .lt 27, 3) := by decide +kernel
theorem dP_has_4 : decode cP_has 4 = .ok (.iload_n 1, 1) := by decide +kernel
theorem dP_has_5 : decode cP_has 5 = .ok (.aload_n 0, 1) := by decide +kernel
theorem dP_has_6 : decode cP_has 6 = .ok (.getfield 15, 3) := by decide +kernel
theorem dP_has_9 : decode cP_has 9 = .ok (.if_icmp .ge 19, 3) := by decide +kernel
theorem dP_has_12 : decode cP_has 12 = .ok (.iload_n 2, 1) := by decide +kernel
theorem dP_has_13 : decode cP_has 13 = .ok (.ifCond .lt 15, 3) := by decide +kernel
theorem dP_has_16 : decode cP_has 16 = .ok (.iload_n 2, 1) := by decide +kernel
theorem dP_has_17 : decode cP_has 17 = .ok (.aload_n 0, 1) := by decide +kernel
theorem dP_has_18 : decode cP_has 18 = .ok (.getfield 19, 3) := by decide +kernel
theorem dP_has_21 : decode cP_has 21 = .ok (.if_icmp .ge 7, 3) := by decide +kernel
theorem dP_has_24 : decode cP_has 24 = .ok (.iconst 1, 1) := by decide +kernel
theorem dP_has_25 : decode cP_has 25 = .ok (.goto 4, 3) := by decide +kernel
theorem dP_has_28 : decode cP_has 28 = .ok (.iconst 0, 1) := by decide +kernel
theorem dP_has_29 : decode cP_has 29 = .ok (.ireturn, 1) := by decide +kernel
theorem dP_growAcross_0 : decode cP_growAcross 0 = .ok (.iconst 0, 1) := by decide +kernel
theorem dP_growAcross_1 : decode cP_growAcross 1 = .ok (.istore_n 2, 1) := by decide +kernel
theorem dP_growAcross_2 : decode cP_growAcross 2 = .ok (.iload_n 2, 1) := by decide +kernel
theorem dP_growAcross_3 : decode cP_growAcross 3 = .ok (.aload_n 0, 1) := by decide +kernel
theorem dP_growAcross_4 : decode cP_growAcross 4 = .ok (.getfield 19, 3) := by decide +kernel
theorem dP_growAcross_7 : decode cP_growAcross 7 = .ok (.if_icmp .ge 24, 3) := by decide +kernel
theorem dP_growAcross_10 : decode cP_growAcross 10 = .ok (.aload_n 0, 1) := by decide +kernel
theorem dP_growAcross_11 : decode cP_growAcross 11 = .ok (.iconst 0, 1) := by decide +kernel
theorem dP_growAcross_12 : decode cP_growAcross 12 = .ok (.iload_n 2, 1) := by decide +kernel
theorem dP_growAcross_13 : decode cP_growAcross 13 = .ok (.invokestatic 37, 3) := by decide +kernel
theorem dP_growAcross_16 : decode cP_growAcross 16 = .ok (.iconst 1, 1) := by decide +kernel
theorem dP_growAcross_17 : decode cP_growAcross 17 = .ok (.aload_n 0, 1) := by decide +kernel
theorem dP_growAcross_18 : decode cP_growAcross 18 = .ok (.getfield 15, 3) := by decide +kernel
theorem dP_growAcross_21 : decode cP_growAcross 21 = .ok (.iload_n 1, 1) := by decide +kernel
theorem dP_growAcross_22 : decode cP_growAcross 22 = .ok (.invokevirtual 41, 3) := by decide +kernel
theorem dP_growAcross_25 : decode cP_growAcross 25 = .ok (.iinc 2 1, 3) := by decide +kernel
theorem dP_growAcross_28 : decode cP_growAcross 28 = .ok (.goto (-26), 3) := by decide +kernel
theorem dP_growAcross_31 : decode cP_growAcross 31 = .ok (.aload_n 0, 1) := by decide +kernel
theorem dP_growAcross_32 : decode cP_growAcross 32 = .ok (.iconst 2, 1) := by decide +kernel
theorem dP_growAcross_33 : decode cP_growAcross 33 = .ok (.aload_n 0, 1) := by decide +kernel
theorem dP_growAcross_34 : decode cP_growAcross 34 = .ok (.getfield 15, 3) := by decide +kernel
theorem dP_growAcross_37 : decode cP_growAcross 37 = .ok (.imul, 1) := by decide +kernel
theorem dP_growAcross_38 : decode cP_growAcross 38 = .ok (.putfield 15, 3) := by decide +kernel
theorem dP_growAcross_41 : decode cP_growAcross 41 = .ok (.return_, 1) := by decide +kernel
theorem dP_growLine_0 : decode cP_growLine 0 = .ok (.iconst 0, 1) := by decide +kernel
theorem dP_growLine_1 : decode cP_growLine 1 = .ok (.istore 5, 2) := by decide +kernel
theorem dP_growLine_3 : decode cP_growLine 3 = .ok (.iload 5, 2) := by decide +kernel
theorem dP_growLine_5 : decode cP_growLine 5 = .ok (.iload_n 3, 1) := by decide +kernel
theorem dP_growLine_6 : decode cP_growLine 6 = .ok (.if_icmp .ge 27, 3) := by decide +kernel
theorem dP_growLine_9 : decode cP_growLine 9 = .ok (.aload_n 0, 1) := by decide +kernel
theorem dP_growLine_10 : decode cP_growLine 10 = .ok (.getfield 22, 3) := by decide +kernel
theorem dP_growLine_13 : decode cP_growLine 13 = .ok (.iload 5, 2) := by decide +kernel
theorem dP_growLine_15 : decode cP_growLine 15 = .ok (.aload_n 0, 1) := by decide +kernel
theorem dP_growLine_16 : decode cP_growLine 16 = .ok (.getfield 9, 3) := by decide +kernel
theorem dP_growLine_19 : decode cP_growLine 19 = .ok (.iload_n 1, 1) := by decide +kernel
theorem dP_growLine_20 : decode cP_growLine 20 = .ok (.iload 5, 2) := by decide +kernel
theorem dP_growLine_22 : decode cP_growLine 22 = .ok (.iload_n 2, 1) := by decide +kernel
theorem dP_growLine_23 : decode cP_growLine 23 = .ok (.imul, 1) := by decide +kernel
theorem dP_growLine_24 : decode cP_growLine 24 = .ok (.iadd, 1) := by decide +kernel
theorem dP_growLine_25 : decode cP_growLine 25 = .ok (.iaload, 1) := by decide +kernel
theorem dP_growLine_26 : decode cP_growLine 26 = .ok (.iastore, 1) := by decide +kernel
theorem dP_growLine_27 : decode cP_growLine 27 = .ok (.iinc 5 1, 3) := by decide +kernel
theorem dP_growLine_30 : decode cP_growLine 30 = .ok (.goto (-27), 3) := by decide +kernel
theorem dP_growLine_33 : decode cP_growLine 33 = .ok (.iconst 0, 1) := by decide +kernel
theorem dP_growLine_34 : decode cP_growLine 34 = .ok (.istore 5, 2) := by decide +kernel
theorem dP_growLine_36 : decode cP_growLine 36 = .ok (.iload 5, 2) := by decide +kernel
theorem dP_growLine_38 : decode cP_growLine 38 = .ok (.iload_n 3, 1) := by decide +kernel
theorem dP_growLine_39 : decode cP_growLine 39 = .ok (.if_icmp .ge 123, 3) := by decide +kernel
theorem dP_growLine_42 : decode cP_growLine 42 = .ok (.aload_n 0, 1) := by decide +kernel
theorem dP_growLine_43 : decode cP_growLine 43 = .ok (.getfield 22, 3) := by decide +kernel
theorem dP_growLine_46 : decode cP_growLine 46 = .ok (.iload 5, 2) := by decide +kernel
theorem dP_growLine_48 : decode cP_growLine 48 = .ok (.iaload, 1) := by decide +kernel
theorem dP_growLine_49 : decode cP_growLine 49 = .ok (.istore 6, 2) := by decide +kernel
theorem dP_growLine_51 : decode cP_growLine 51 = .ok (.iload 4, 2) := by decide +kernel
theorem dP_growLine_53 : decode cP_growLine 53 = .ok (.ifCond .eq 20, 3) := by decide +kernel
theorem dP_growLine_56 : decode cP_growLine 56 = .ok (.iload 5, 2) := by decide +kernel
theorem dP_growLine_58 : decode cP_growLine 58 = .ok (.ifCond .le 15, 3) := by decide +kernel
theorem dP_growLine_61 : decode cP_growLine 61 = .ok (.aload_n 0, 1) := by decide +kernel
theorem dP_growLine_62 : decode cP_growLine 62 = .ok (.getfield 22, 3) := by decide +kernel
theorem dP_growLine_65 : decode cP_growLine 65 = .ok (.iload 5, 2) := by decide +kernel
theorem dP_growLine_67 : decode cP_growLine 67 = .ok (.iconst 1, 1) := by decide +kernel
theorem dP_growLine_68 : decode cP_growLine 68 = .ok (.isub, 1) := by decide +kernel
theorem dP_growLine_69 : decode cP_growLine 69 = .ok (.iaload, 1) := by decide +kernel
theorem dP_growLine_70 : decode cP_growLine 70 = .ok (.goto 5, 3) := by decide +kernel
theorem dP_growLine_73 : decode cP_growLine 73 = .ok (.iload 6, 2) := by decide +kernel
theorem dP_growLine_75 : decode cP_growLine 75 = .ok (.istore 7, 2) := by decide +kernel
theorem dP_growLine_77 : decode cP_growLine 77 = .ok (.iload 4, 2) := by decide +kernel
theorem dP_growLine_79 : decode cP_growLine 79 = .ok (.ifCond .eq 23, 3) := by decide +kernel
theorem dP_growLine_82 : decode cP_growLine 82 = .ok (.iload 5, 2) := by decide +kernel
theorem dP_growLine_84 : decode cP_growLine 84 = .ok (.iconst 1, 1) := by decide +kernel
theorem dP_growLine_85 : decode cP_growLine 85 = .ok (.iadd, 1) := by decide +kernel
theorem dP_growLine_86 : decode cP_growLine 86 = .ok (.iload_n 3, 1) := by decide +kernel
theorem dP_growLine_87 : decode cP_growLine 87 = .ok (.if_icmp .ge 15, 3) := by decide +kernel
theorem dP_growLine_90 : decode cP_growLine 90 = .ok (.aload_n 0, 1) := by decide +kernel
theorem dP_growLine_91 : decode cP_growLine 91 = .ok (.getfield 22, 3) := by decide +kernel
theorem dP_growLine_94 : decode cP_growLine 94 = .ok (.iload 5, 2) := by decide +kernel
theorem dP_growLine_96 : decode cP_growLine 96 = .ok (.iconst 1, 1) := by decide +kernel
theorem dP_growLine_97 : decode cP_growLine 97 = .ok (.iadd, 1) := by decide +kernel
theorem dP_growLine_98 : decode cP_growLine 98 = .ok (.iaload, 1) := by decide +kernel
theorem dP_growLine_99 : decode cP_growLine 99 = .ok (.goto 5, 3) := by decide +kernel
theorem dP_growLine_102 : decode cP_growLine 102 = .ok (.iload 6, 2) := by decide +kernel
theorem dP_growLine_104 : decode cP_growLine 104 = .ok (.istore 8, 2) := by decide +kernel
theorem dP_growLine_106 : decode cP_growLine 106 = .ok (.aload_n 0, 1) := by decide +kernel
theorem dP_growLine_107 : decode cP_growLine 107 = .ok (.getfield 9, 3) := by decide +kernel
theorem dP_growLine_110 : decode cP_growLine 110 = .ok (.iload_n 1, 1) := by decide +kernel
theorem dP_growLine_111 : decode cP_growLine 111 = .ok (.iconst 2, 1) := by decide +kernel
theorem dP_growLine_112 : decode cP_growLine 112 = .ok (.iload 5, 2) := by decide +kernel
theorem dP_growLine_114 : decode cP_growLine 114 = .ok (.imul, 1) := by decide +kernel
theorem dP_growLine_115 : decode cP_growLine 115 = .ok (.iload_n 2, 1) := by decide +kernel
theorem dP_growLine_116 : decode cP_growLine 116 = .ok (.imul, 1) := by decide +kernel
theorem dP_growLine_117 : decode cP_growLine 117 = .ok (.iadd, 1) := by decide +kernel
theorem dP_growLine_118 : decode cP_growLine 118 = .ok (.iconst 3, 1) := by decide +kernel
theorem dP_growLine_119 : decode cP_growLine 119 = .ok (.iload 6, 2) := by decide +kernel
theorem dP_growLine_121 : decode cP_growLine 121 = .ok (.imul, 1) := by decide +kernel
theorem dP_growLine_122 : decode cP_growLine 122 = .ok (.iload 7, 2) := by decide +kernel
theorem dP_growLine_124 : decode cP_growLine 124 = .ok (.iadd, 1) := by decide +kernel
theorem dP_growLine_125 : decode cP_growLine 125 = .ok (.iconst 1, 1) := by decide +kernel
theorem dP_growLine_126 : decode cP_growLine 126 = .ok (.iadd, 1) := by decide +kernel
theorem dP_growLine_127 : decode cP_growLine 127 = .ok (.iconst 2, 1) := by decide +kernel
theorem dP_growLine_128 : decode cP_growLine 128 = .ok (.ishr, 1) := by decide +kernel
theorem dP_growLine_129 : decode cP_growLine 129 = .ok (.iastore, 1) := by decide +kernel
theorem dP_growLine_130 : decode cP_growLine 130 = .ok (.aload_n 0, 1) := by decide +kernel
theorem dP_growLine_131 : decode cP_growLine 131 = .ok (.getfield 9, 3) := by decide +kernel
theorem dP_growLine_134 : decode cP_growLine 134 = .ok (.iload_n 1, 1) := by decide +kernel
theorem dP_growLine_135 : decode cP_growLine 135 = .ok (.iconst 2, 1) := by decide +kernel
theorem dP_growLine_136 : decode cP_growLine 136 = .ok (.iload 5, 2) := by decide +kernel
theorem dP_growLine_138 : decode cP_growLine 138 = .ok (.imul, 1) := by decide +kernel
theorem dP_growLine_139 : decode cP_growLine 139 = .ok (.iconst 1, 1) := by decide +kernel
theorem dP_growLine_140 : decode cP_growLine 140 = .ok (.iadd, 1) := by decide +kernel
theorem dP_growLine_141 : decode cP_growLine 141 = .ok (.iload_n 2, 1) := by decide +kernel
theorem dP_growLine_142 : decode cP_growLine 142 = .ok (.imul, 1) := by decide +kernel
theorem dP_growLine_143 : decode cP_growLine 143 = .ok (.iadd, 1) := by decide +kernel
theorem dP_growLine_144 : decode cP_growLine 144 = .ok (.iconst 3, 1) := by decide +kernel
theorem dP_growLine_145 : decode cP_growLine 145 = .ok (.iload 6, 2) := by decide +kernel
theorem dP_growLine_147 : decode cP_growLine 147 = .ok (.imul, 1) := by decide +kernel
theorem dP_growLine_148 : decode cP_growLine 148 = .ok (.iload 8, 2) := by decide +kernel
theorem dP_growLine_150 : decode cP_growLine 150 = .ok (.iadd, 1) := by decide +kernel
theorem dP_growLine_151 : decode cP_growLine 151 = .ok (.iconst 2, 1) := by decide +kernel
theorem dP_growLine_152 : decode cP_growLine 152 = .ok (.iadd, 1) := by decide +kernel
theorem dP_growLine_153 : decode cP_growLine 153 = .ok (.iconst 2, 1) := by decide +kernel
theorem dP_growLine_154 : decode cP_growLine 154 = .ok (.ishr, 1) := by decide +kernel
theorem dP_growLine_155 : decode cP_growLine 155 = .ok (.iastore, 1) := by decide +kernel
theorem dP_growLine_156 : decode cP_growLine 156 = .ok (.iinc 5 1, 3) := by decide +kernel
theorem dP_growLine_159 : decode cP_growLine 159 = .ok (.goto (-123), 3) := by decide +kernel
theorem dP_growLine_162 : decode cP_growLine 162 = .ok (.return_, 1) := by decide +kernel
theorem dP_growDown_0 : decode cP_growDown 0 = .ok (.iconst 0, 1) := by decide +kernel
theorem dP_growDown_1 : decode cP_growDown 1 = .ok (.istore_n 2, 1) := by decide +kernel
theorem dP_growDown_2 : decode cP_growDown 2 = .ok (.iload_n 2, 1) := by decide +kernel
theorem dP_growDown_3 : decode cP_growDown 3 = .ok (.aload_n 0, 1) := by decide +kernel
theorem dP_growDown_4 : decode cP_growDown 4 = .ok (.getfield 15, 3) := by decide +kernel
theorem dP_growDown_7 : decode cP_growDown 7 = .ok (.if_icmp .ge 25, 3) := by decide +kernel
theorem dP_growDown_10 : decode cP_growDown 10 = .ok (.aload_n 0, 1) := by decide +kernel
theorem dP_growDown_11 : decode cP_growDown 11 = .ok (.iload_n 2, 1) := by decide +kernel
theorem dP_growDown_12 : decode cP_growDown 12 = .ok (.iconst 0, 1) := by decide +kernel
theorem dP_growDown_13 : decode cP_growDown 13 = .ok (.invokestatic 37, 3) := by decide +kernel
theorem dP_growDown_16 : decode cP_growDown 16 = .ok (.bipush 32, 2) := by decide +kernel
theorem dP_growDown_18 : decode cP_growDown 18 = .ok (.aload_n 0, 1) := by decide +kernel
theorem dP_growDown_19 : decode cP_growDown 19 = .ok (.getfield 19, 3) := by decide +kernel
theorem dP_growDown_22 : decode cP_growDown 22 = .ok (.iload_n 1, 1) := by decide +kernel
theorem dP_growDown_23 : decode cP_growDown 23 = .ok (.invokevirtual 41, 3) := by decide +kernel
theorem dP_growDown_26 : decode cP_growDown 26 = .ok (.iinc 2 1, 3) := by decide +kernel
theorem dP_growDown_29 : decode cP_growDown 29 = .ok (.goto (-27), 3) := by decide +kernel
theorem dP_growDown_32 : decode cP_growDown 32 = .ok (.aload_n 0, 1) := by decide +kernel
theorem dP_growDown_33 : decode cP_growDown 33 = .ok (.iconst 2, 1) := by decide +kernel
theorem dP_growDown_34 : decode cP_growDown 34 = .ok (.aload_n 0, 1) := by decide +kernel
theorem dP_growDown_35 : decode cP_growDown 35 = .ok (.getfield 19, 3) := by decide +kernel
theorem dP_growDown_38 : decode cP_growDown 38 = .ok (.imul, 1) := by decide +kernel
theorem dP_growDown_39 : decode cP_growDown 39 = .ok (.putfield 19, 3) := by decide +kernel
theorem dP_growDown_42 : decode cP_growDown 42 = .ok (.return_, 1) := by decide +kernel
theorem dP_shrinkAcross_0 : decode cP_shrinkAcross 0 = .ok (.iconst 0, 1) := by decide +kernel
theorem dP_shrinkAcross_1 : decode cP_shrinkAcross 1 = .ok (.istore_n 1, 1) := by decide +kernel
theorem dP_shrinkAcross_2 : decode cP_shrinkAcross 2 = .ok (.iload_n 1, 1) := by decide +kernel
theorem dP_shrinkAcross_3 : decode cP_shrinkAcross 3 = .ok (.aload_n 0, 1) := by decide +kernel
theorem dP_shrinkAcross_4 : decode cP_shrinkAcross 4 = .ok (.getfield 19, 3) := by decide +kernel
theorem dP_shrinkAcross_7 : decode cP_shrinkAcross 7 = .ok (.if_icmp .ge 23, 3) := by decide +kernel
theorem dP_shrinkAcross_10 : decode cP_shrinkAcross 10 = .ok (.aload_n 0, 1) := by decide +kernel
theorem dP_shrinkAcross_11 : decode cP_shrinkAcross 11 = .ok (.iconst 0, 1) := by decide +kernel
theorem dP_shrinkAcross_12 : decode cP_shrinkAcross 12 = .ok (.iload_n 1, 1) := by decide +kernel
theorem dP_shrinkAcross_13 : decode cP_shrinkAcross 13 = .ok (.invokestatic 37, 3) := by decide +kernel
theorem dP_shrinkAcross_16 : decode cP_shrinkAcross 16 = .ok (.iconst 1, 1) := by decide +kernel
theorem dP_shrinkAcross_17 : decode cP_shrinkAcross 17 = .ok (.aload_n 0, 1) := by decide +kernel
theorem dP_shrinkAcross_18 : decode cP_shrinkAcross 18 = .ok (.getfield 15, 3) := by decide +kernel
theorem dP_shrinkAcross_21 : decode cP_shrinkAcross 21 = .ok (.invokevirtual 45, 3) := by decide +kernel
theorem dP_shrinkAcross_24 : decode cP_shrinkAcross 24 = .ok (.iinc 1 1, 3) := by decide +kernel
theorem dP_shrinkAcross_27 : decode cP_shrinkAcross 27 = .ok (.goto (-25), 3) := by decide +kernel
theorem dP_shrinkAcross_30 : decode cP_shrinkAcross 30 = .ok (.aload_n 0, 1) := by decide +kernel
theorem dP_shrinkAcross_31 : decode cP_shrinkAcross 31 = .ok (.aload_n 0, 1) := by decide +kernel
theorem dP_shrinkAcross_32 : decode cP_shrinkAcross 32 = .ok (.getfield 15, 3) := by decide +kernel
theorem dP_shrinkAcross_35 : decode cP_shrinkAcross 35 = .ok (.invokestatic 49, 3) := by decide +kernel
theorem dP_shrinkAcross_38 : decode cP_shrinkAcross 38 = .ok (.putfield 15, 3) := by decide +kernel
theorem dP_shrinkAcross_41 : decode cP_shrinkAcross 41 = .ok (.return_, 1) := by decide +kernel
theorem dP_shrinkLine_0 : decode cP_shrinkLine 0 = .ok (.iconst 0, 1) := by decide +kernel
theorem dP_shrinkLine_1 : decode cP_shrinkLine 1 = .ok (.istore 4, 2) := by decide +kernel
theorem dP_shrinkLine_3 : decode cP_shrinkLine 3 = .ok (.iload 4, 2) := by decide +kernel
theorem dP_shrinkLine_5 : decode cP_shrinkLine 5 = .ok (.iload_n 3, 1) := by decide +kernel
theorem dP_shrinkLine_6 : decode cP_shrinkLine 6 = .ok (.invokestatic 49, 3) := by decide +kernel
theorem dP_shrinkLine_9 : decode cP_shrinkLine 9 = .ok (.if_icmp .ge 70, 3) := by decide +kernel
theorem dP_shrinkLine_12 : decode cP_shrinkLine 12 = .ok (.aload_n 0, 1) := by decide +kernel
theorem dP_shrinkLine_13 : decode cP_shrinkLine 13 = .ok (.getfield 9, 3) := by decide +kernel
theorem dP_shrinkLine_16 : decode cP_shrinkLine 16 = .ok (.iload_n 1, 1) := by decide +kernel
theorem dP_shrinkLine_17 : decode cP_shrinkLine 17 = .ok (.iconst 2, 1) := by decide +kernel
theorem dP_shrinkLine_18 : decode cP_shrinkLine 18 = .ok (.iload 4, 2) := by decide +kernel
theorem dP_shrinkLine_20 : decode cP_shrinkLine 20 = .ok (.imul, 1) := by decide +kernel
theorem dP_shrinkLine_21 : decode cP_shrinkLine 21 = .ok (.iload_n 2, 1) := by decide +kernel
theorem dP_shrinkLine_22 : decode cP_shrinkLine 22 = .ok (.imul, 1) := by decide +kernel
theorem dP_shrinkLine_23 : decode cP_shrinkLine 23 = .ok (.iadd, 1) := by decide +kernel
theorem dP_shrinkLine_24 : decode cP_shrinkLine 24 = .ok (.iaload, 1) := by decide +kernel
theorem dP_shrinkLine_25 : decode cP_shrinkLine 25 = .ok (.istore 5, 2) := by decide +kernel
theorem dP_shrinkLine_27 : decode cP_shrinkLine 27 = .ok (.aload_n 0, 1) := by decide +kernel
theorem dP_shrinkLine_28 : decode cP_shrinkLine 28 = .ok (.getfield 9, 3) := by decide +kernel
theorem dP_shrinkLine_31 : decode cP_shrinkLine 31 = .ok (.iload_n 1, 1) := by decide +kernel
theorem dP_shrinkLine_32 : decode cP_shrinkLine 32 = .ok (.iconst 2, 1) := by decide +kernel
theorem dP_shrinkLine_33 : decode cP_shrinkLine 33 = .ok (.iload 4, 2) := by decide +kernel
theorem dP_shrinkLine_35 : decode cP_shrinkLine 35 = .ok (.imul, 1) := by decide +kernel
theorem dP_shrinkLine_36 : decode cP_shrinkLine 36 = .ok (.iconst 1, 1) := by decide +kernel
theorem dP_shrinkLine_37 : decode cP_shrinkLine 37 = .ok (.iadd, 1) := by decide +kernel
theorem dP_shrinkLine_38 : decode cP_shrinkLine 38 = .ok (.iload_n 3, 1) := by decide +kernel
theorem dP_shrinkLine_39 : decode cP_shrinkLine 39 = .ok (.iconst 1, 1) := by decide +kernel
theorem dP_shrinkLine_40 : decode cP_shrinkLine 40 = .ok (.isub, 1) := by decide +kernel
theorem dP_shrinkLine_41 : decode cP_shrinkLine 41 = .ok (.invokestatic 53, 3) := by decide +kernel
theorem dP_shrinkLine_44 : decode cP_shrinkLine 44 = .ok (.iload_n 2, 1) := by decide +kernel
theorem dP_shrinkLine_45 : decode cP_shrinkLine 45 = .ok (.imul, 1) := by decide +kernel
theorem dP_shrinkLine_46 : decode cP_shrinkLine 46 = .ok (.iadd, 1) := by decide +kernel
theorem dP_shrinkLine_47 : decode cP_shrinkLine 47 = .ok (.iaload, 1) := by decide +kernel
theorem dP_shrinkLine_48 : decode cP_shrinkLine 48 = .ok (.istore 6, 2) := by decide +kernel
theorem dP_shrinkLine_50 : decode cP_shrinkLine 50 = .ok (.aload_n 0, 1) := by decide +kernel
theorem dP_shrinkLine_51 : decode cP_shrinkLine 51 = .ok (.getfield 9, 3) := by decide +kernel
theorem dP_shrinkLine_54 : decode cP_shrinkLine 54 = .ok (.iload_n 1, 1) := by decide +kernel
theorem dP_shrinkLine_55 : decode cP_shrinkLine 55 = .ok (.iload 4, 2) := by decide +kernel
theorem dP_shrinkLine_57 : decode cP_shrinkLine 57 = .ok (.iload_n 2, 1) := by decide +kernel
theorem dP_shrinkLine_58 : decode cP_shrinkLine 58 = .ok (.imul, 1) := by decide +kernel
theorem dP_shrinkLine_59 : decode cP_shrinkLine 59 = .ok (.iadd, 1) := by decide +kernel
theorem dP_shrinkLine_60 : decode cP_shrinkLine 60 = .ok (.iload 5, 2) := by decide +kernel
theorem dP_shrinkLine_62 : decode cP_shrinkLine 62 = .ok (.iload 6, 2) := by decide +kernel
theorem dP_shrinkLine_64 : decode cP_shrinkLine 64 = .ok (.iadd, 1) := by decide +kernel
theorem dP_shrinkLine_65 : decode cP_shrinkLine 65 = .ok (.iload 4, 2) := by decide +kernel
theorem dP_shrinkLine_67 : decode cP_shrinkLine 67 = .ok (.iconst 2, 1) := by decide +kernel
theorem dP_shrinkLine_68 : decode cP_shrinkLine 68 = .ok (.irem, 1) := by decide +kernel
theorem dP_shrinkLine_69 : decode cP_shrinkLine 69 = .ok (.iadd, 1) := by decide +kernel
theorem dP_shrinkLine_70 : decode cP_shrinkLine 70 = .ok (.iconst 1, 1) := by decide +kernel
theorem dP_shrinkLine_71 : decode cP_shrinkLine 71 = .ok (.ishr, 1) := by decide +kernel
theorem dP_shrinkLine_72 : decode cP_shrinkLine 72 = .ok (.iastore, 1) := by decide +kernel
theorem dP_shrinkLine_73 : decode cP_shrinkLine 73 = .ok (.iinc 4 1, 3) := by decide +kernel
theorem dP_shrinkLine_76 : decode cP_shrinkLine 76 = .ok (.goto (-73), 3) := by decide +kernel
theorem dP_shrinkLine_79 : decode cP_shrinkLine 79 = .ok (.return_, 1) := by decide +kernel
theorem dP_half_0 : decode cP_half 0 = .ok (.iload_n 0, 1) := by decide +kernel
theorem dP_half_1 : decode cP_half 1 = .ok (.iconst 1, 1) := by decide +kernel
theorem dP_half_2 : decode cP_half 2 = .ok (.iadd, 1) := by decide +kernel
theorem dP_half_3 : decode cP_half 3 = .ok (.iconst 2, 1) := by decide +kernel
theorem dP_half_4 : decode cP_half 4 = .ok (.idiv, 1) := by decide +kernel
theorem dP_half_5 : decode cP_half 5 = .ok (.ireturn, 1) := by decide +kernel
theorem dP_shrinkDown_0 : decode cP_shrinkDown 0 = .ok (.iconst 0, 1) := by decide +kernel
theorem dP_shrinkDown_1 : decode cP_shrinkDown 1 = .ok (.istore_n 1, 1) := by decide +kernel
theorem dP_shrinkDown_2 : decode cP_shrinkDown 2 = .ok (.iload_n 1, 1) := by decide +kernel
theorem dP_shrinkDown_3 : decode cP_shrinkDown 3 = .ok (.aload_n 0, 1) := by decide +kernel
theorem dP_shrinkDown_4 : decode cP_shrinkDown 4 = .ok (.getfield 15, 3) := by decide +kernel
theorem dP_shrinkDown_7 : decode cP_shrinkDown 7 = .ok (.if_icmp .ge 24, 3) := by decide +kernel
theorem dP_shrinkDown_10 : decode cP_shrinkDown 10 = .ok (.aload_n 0, 1) := by decide +kernel
theorem dP_shrinkDown_11 : decode cP_shrinkDown 11 = .ok (.iload_n 1, 1) := by decide +kernel
theorem dP_shrinkDown_12 : decode cP_shrinkDown 12 = .ok (.iconst 0, 1) := by decide +kernel
theorem dP_shrinkDown_13 : decode cP_shrinkDown 13 = .ok (.invokestatic 37, 3) := by decide +kernel
theorem dP_shrinkDown_16 : decode cP_shrinkDown 16 = .ok (.bipush 32, 2) := by decide +kernel
theorem dP_shrinkDown_18 : decode cP_shrinkDown 18 = .ok (.aload_n 0, 1) := by decide +kernel
theorem dP_shrinkDown_19 : decode cP_shrinkDown 19 = .ok (.getfield 19, 3) := by decide +kernel
theorem dP_shrinkDown_22 : decode cP_shrinkDown 22 = .ok (.invokevirtual 45, 3) := by decide +kernel
theorem dP_shrinkDown_25 : decode cP_shrinkDown 25 = .ok (.iinc 1 1, 3) := by decide +kernel
theorem dP_shrinkDown_28 : decode cP_shrinkDown 28 = .ok (.goto (-26), 3) := by decide +kernel
theorem dP_shrinkDown_31 : decode cP_shrinkDown 31 = .ok (.aload_n 0, 1) := by decide +kernel
theorem dP_shrinkDown_32 : decode cP_shrinkDown 32 = .ok (.aload_n 0, 1) := by decide +kernel
theorem dP_shrinkDown_33 : decode cP_shrinkDown 33 = .ok (.getfield 19, 3) := by decide +kernel
theorem dP_shrinkDown_36 : decode cP_shrinkDown 36 = .ok (.invokestatic 49, 3) := by decide +kernel
theorem dP_shrinkDown_39 : decode cP_shrinkDown 39 = .ok (.putfield 19, 3) := by decide +kernel
theorem dP_shrinkDown_42 : decode cP_shrinkDown 42 = .ok (.return_, 1) := by decide +kernel
theorem dP_shrinkBoth_0 : decode cP_shrinkBoth 0 = .ok (.iconst 0, 1) := by decide +kernel
theorem dP_shrinkBoth_1 : decode cP_shrinkBoth 1 = .ok (.istore_n 1, 1) := by decide +kernel
theorem dP_shrinkBoth_2 : decode cP_shrinkBoth 2 = .ok (.iload_n 1, 1) := by decide +kernel
theorem dP_shrinkBoth_3 : decode cP_shrinkBoth 3 = .ok (.aload_n 0, 1) := by decide +kernel
theorem dP_shrinkBoth_4 : decode cP_shrinkBoth 4 = .ok (.getfield 19, 3) := by decide +kernel
theorem dP_shrinkBoth_7 : decode cP_shrinkBoth 7 = .ok (.invokestatic 49, 3) := by decide +kernel
theorem dP_shrinkBoth_10 : decode cP_shrinkBoth 10 = .ok (.if_icmp .ge 56, 3) := by decide +kernel
theorem dP_shrinkBoth_13 : decode cP_shrinkBoth 13 = .ok (.iconst 0, 1) := by decide +kernel
theorem dP_shrinkBoth_14 : decode cP_shrinkBoth 14 = .ok (.istore_n 2, 1) := by decide +kernel
theorem dP_shrinkBoth_15 : decode cP_shrinkBoth 15 = .ok (.iload_n 2, 1) := by decide +kernel
theorem dP_shrinkBoth_16 : decode cP_shrinkBoth 16 = .ok (.aload_n 0, 1) := by decide +kernel
theorem dP_shrinkBoth_17 : decode cP_shrinkBoth 17 = .ok (.getfield 15, 3) := by decide +kernel
theorem dP_shrinkBoth_20 : decode cP_shrinkBoth 20 = .ok (.invokestatic 49, 3) := by decide +kernel
theorem dP_shrinkBoth_23 : decode cP_shrinkBoth 23 = .ok (.if_icmp .ge 37, 3) := by decide +kernel
theorem dP_shrinkBoth_26 : decode cP_shrinkBoth 26 = .ok (.aload_n 0, 1) := by decide +kernel
theorem dP_shrinkBoth_27 : decode cP_shrinkBoth 27 = .ok (.getfield 9, 3) := by decide +kernel
theorem dP_shrinkBoth_30 : decode cP_shrinkBoth 30 = .ok (.iload_n 2, 1) := by decide +kernel
theorem dP_shrinkBoth_31 : decode cP_shrinkBoth 31 = .ok (.iload_n 1, 1) := by decide +kernel
theorem dP_shrinkBoth_32 : decode cP_shrinkBoth 32 = .ok (.invokestatic 37, 3) := by decide +kernel
theorem dP_shrinkBoth_35 : decode cP_shrinkBoth 35 = .ok (.aload_n 0, 1) := by decide +kernel
theorem dP_shrinkBoth_36 : decode cP_shrinkBoth 36 = .ok (.iconst 2, 1) := by decide +kernel
theorem dP_shrinkBoth_37 : decode cP_shrinkBoth 37 = .ok (.iload_n 2, 1) := by decide +kernel
theorem dP_shrinkBoth_38 : decode cP_shrinkBoth 38 = .ok (.imul, 1) := by decide +kernel
theorem dP_shrinkBoth_39 : decode cP_shrinkBoth 39 = .ok (.iconst 2, 1) := by decide +kernel
theorem dP_shrinkBoth_40 : decode cP_shrinkBoth 40 = .ok (.iload_n 1, 1) := by decide +kernel
theorem dP_shrinkBoth_41 : decode cP_shrinkBoth 41 = .ok (.imul, 1) := by decide +kernel
theorem dP_shrinkBoth_42 : decode cP_shrinkBoth 42 = .ok (.invokevirtual 58, 3) := by decide +kernel
theorem dP_shrinkBoth_45 : decode cP_shrinkBoth 45 = .ok (.iconst 1, 1) := by decide +kernel
theorem dP_shrinkBoth_46 : decode cP_shrinkBoth 46 = .ok (.iadd, 1) := by decide +kernel
theorem dP_shrinkBoth_47 : decode cP_shrinkBoth 47 = .ok (.iload_n 2, 1) := by decide +kernel
theorem dP_shrinkBoth_48 : decode cP_shrinkBoth 48 = .ok (.iconst 2, 1) := by decide +kernel
theorem dP_shrinkBoth_49 : decode cP_shrinkBoth 49 = .ok (.irem, 1) := by decide +kernel
theorem dP_shrinkBoth_50 : decode cP_shrinkBoth 50 = .ok (.iadd, 1) := by decide +kernel
theorem dP_shrinkBoth_51 : decode cP_shrinkBoth 51 = .ok (.iconst 2, 1) := by decide +kernel
theorem dP_shrinkBoth_52 : decode cP_shrinkBoth 52 = .ok (.ishr, 1) := by decide +kernel
theorem dP_shrinkBoth_53 : decode cP_shrinkBoth 53 = .ok (.iastore, 1) := by decide +kernel
theorem dP_shrinkBoth_54 : decode cP_shrinkBoth 54 = .ok (.iinc 2 1, 3) := by decide +kernel
theorem dP_shrinkBoth_57 : decode cP_shrinkBoth 57 = .ok (.goto (-42), 3) := by decide +kernel
theorem dP_shrinkBoth_60 : decode cP_shrinkBoth 60 = .ok (.iinc 1 1, 3) := by decide +kernel
theorem dP_shrinkBoth_63 : decode cP_shrinkBoth 63 = .ok (.goto (-61), 3) := by decide +kernel
theorem dP_shrinkBoth_66 : decode cP_shrinkBoth 66 = .ok (.aload_n 0, 1) := by decide +kernel
theorem dP_shrinkBoth_67 : decode cP_shrinkBoth 67 = .ok (.aload_n 0, 1) := by decide +kernel
theorem dP_shrinkBoth_68 : decode cP_shrinkBoth 68 = .ok (.getfield 15, 3) := by decide +kernel
theorem dP_shrinkBoth_71 : decode cP_shrinkBoth 71 = .ok (.invokestatic 49, 3) := by decide +kernel
theorem dP_shrinkBoth_74 : decode cP_shrinkBoth 74 = .ok (.putfield 15, 3) := by decide +kernel
theorem dP_shrinkBoth_77 : decode cP_shrinkBoth 77 = .ok (.aload_n 0, 1) := by decide +kernel
theorem dP_shrinkBoth_78 : decode cP_shrinkBoth 78 = .ok (.aload_n 0, 1) := by decide +kernel
theorem dP_shrinkBoth_79 : decode cP_shrinkBoth 79 = .ok (.getfield 19, 3) := by decide +kernel
theorem dP_shrinkBoth_82 : decode cP_shrinkBoth 82 = .ok (.invokestatic 49, 3) := by decide +kernel
theorem dP_shrinkBoth_85 : decode cP_shrinkBoth 85 = .ok (.putfield 19, 3) := by decide +kernel
theorem dP_shrinkBoth_88 : decode cP_shrinkBoth 88 = .ok (.return_, 1) := by decide +kernel
theorem dP_sumOfFour_0 : decode cP_sumOfFour 0 = .ok (.iload_n 1, 1) := by decide +kernel
theorem dP_sumOfFour_1 : decode cP_sumOfFour 1 = .ok (.iconst 1, 1) := by decide +kernel
theorem dP_sumOfFour_2 : decode cP_sumOfFour 2 = .ok (.iadd, 1) := by decide +kernel
theorem dP_sumOfFour_3 : decode cP_sumOfFour 3 = .ok (.aload_n 0, 1) := by decide +kernel
theorem dP_sumOfFour_4 : decode cP_sumOfFour 4 = .ok (.getfield 15, 3) := by decide +kernel
theorem dP_sumOfFour_7 : decode cP_sumOfFour 7 = .ok (.iconst 1, 1) := by decide +kernel
theorem dP_sumOfFour_8 : decode cP_sumOfFour 8 = .ok (.isub, 1) := by decide +kernel
theorem dP_sumOfFour_9 : decode cP_sumOfFour 9 = .ok (.invokestatic 53, 3) := by decide +kernel
theorem dP_sumOfFour_12 : decode cP_sumOfFour 12 = .ok (.istore_n 3, 1) := by decide +kernel
theorem dP_sumOfFour_13 : decode cP_sumOfFour 13 = .ok (.iload_n 2, 1) := by decide +kernel
theorem dP_sumOfFour_14 : decode cP_sumOfFour 14 = .ok (.iconst 1, 1) := by decide +kernel
theorem dP_sumOfFour_15 : decode cP_sumOfFour 15 = .ok (.iadd, 1) := by decide +kernel
theorem dP_sumOfFour_16 : decode cP_sumOfFour 16 = .ok (.aload_n 0, 1) := by decide +kernel
theorem dP_sumOfFour_17 : decode cP_sumOfFour 17 = .ok (.getfield 19, 3) := by decide +kernel
theorem dP_sumOfFour_20 : decode cP_sumOfFour 20 = .ok (.iconst 1, 1) := by decide +kernel
theorem dP_sumOfFour_21 : decode cP_sumOfFour 21 = .ok (.isub, 1) := by decide +kernel
theorem dP_sumOfFour_22 : decode cP_sumOfFour 22 = .ok (.invokestatic 53, 3) := by decide +kernel
theorem dP_sumOfFour_25 : decode cP_sumOfFour 25 = .ok (.istore 4, 2) := by decide +kernel
theorem dP_sumOfFour_27 : decode cP_sumOfFour 27 = .ok (.aload_n 0, 1) := by decide +kernel
theorem dP_sumOfFour_28 : decode cP_sumOfFour 28 = .ok (.getfield 9, 3) := by decide +kernel
theorem dP_sumOfFour_31 : decode cP_sumOfFour 31 = .ok (.iload_n 1, 1) := by decide +kernel
theorem dP_sumOfFour_32 : decode cP_sumOfFour 32 = .ok (.iload_n 2, 1) := by decide +kernel
theorem dP_sumOfFour_33 : decode cP_sumOfFour 33 = .ok (.invokestatic 37, 3) := by decide +kernel
theorem dP_sumOfFour_36 : decode cP_sumOfFour 36 = .ok (.iaload, 1) := by decide +kernel
theorem dP_sumOfFour_37 : decode cP_sumOfFour 37 = .ok (.aload_n 0, 1) := by decide +kernel
theorem dP_sumOfFour_38 : decode cP_sumOfFour 38 = .ok (.getfield 9, 3) := by decide +kernel
theorem dP_sumOfFour_41 : decode cP_sumOfFour 41 = .ok (.iload_n 3, 1) := by decide +kernel
theorem dP_sumOfFour_42 : decode cP_sumOfFour 42 = .ok (.iload_n 2, 1) := by decide +kernel
theorem dP_sumOfFour_43 : decode cP_sumOfFour 43 = .ok (.invokestatic 37, 3) := by decide +kernel
theorem dP_sumOfFour_46 : decode cP_sumOfFour 46 = .ok (.iaload, 1) := by decide +kernel
theorem dP_sumOfFour_47 : decode cP_sumOfFour 47 = .ok (.iadd, 1) := by decide +kernel
theorem dP_sumOfFour_48 : decode cP_sumOfFour 48 = .ok (.aload_n 0, 1) := by decide +kernel
theorem dP_sumOfFour_49 : decode cP_sumOfFour 49 = .ok (.getfield 9, 3) := by decide +kernel
theorem dP_sumOfFour_52 : decode cP_sumOfFour 52 = .ok (.iload_n 1, 1) := by decide +kernel
theorem dP_sumOfFour_53 : decode cP_sumOfFour 53 = .ok (.iload 4, 2) := by decide +kernel
theorem dP_sumOfFour_55 : decode cP_sumOfFour 55 = .ok (.invokestatic 37, 3) := by decide +kernel
theorem dP_sumOfFour_58 : decode cP_sumOfFour 58 = .ok (.iaload, 1) := by decide +kernel
theorem dP_sumOfFour_59 : decode cP_sumOfFour 59 = .ok (.iadd, 1) := by decide +kernel
theorem dP_sumOfFour_60 : decode cP_sumOfFour 60 = .ok (.aload_n 0, 1) := by decide +kernel
theorem dP_sumOfFour_61 : decode cP_sumOfFour 61 = .ok (.getfield 9, 3) := by decide +kernel
theorem dP_sumOfFour_64 : decode cP_sumOfFour 64 = .ok (.iload_n 3, 1) := by decide +kernel
theorem dP_sumOfFour_65 : decode cP_sumOfFour 65 = .ok (.iload 4, 2) := by decide +kernel
theorem dP_sumOfFour_67 : decode cP_sumOfFour 67 = .ok (.invokestatic 37, 3) := by decide +kernel
theorem dP_sumOfFour_70 : decode cP_sumOfFour 70 = .ok (.iaload, 1) := by decide +kernel
theorem dP_sumOfFour_71 : decode cP_sumOfFour 71 = .ok (.iadd, 1) := by decide +kernel
theorem dP_sumOfFour_72 : decode cP_sumOfFour 72 = .ok (.ireturn, 1) := by decide +kernel
theorem dP_becomeLike_0 : decode cP_becomeLike 0 = .ok (.aload_n 1, 1) := by decide +kernel
theorem dP_becomeLike_1 : decode cP_becomeLike 1 = .ok (.getfield 9, 3) := by decide +kernel
theorem dP_becomeLike_4 : decode cP_becomeLike 4 = .ok (.iconst 0, 1) := by decide +kernel
theorem dP_becomeLike_5 : decode cP_becomeLike 5 = .ok (.aload_n 0, 1) := by decide +kernel
theorem dP_becomeLike_6 : decode cP_becomeLike 6 = .ok (.getfield 9, 3) := by decide +kernel
theorem dP_becomeLike_9 : decode cP_becomeLike 9 = .ok (.iconst 0, 1) := by decide +kernel
theorem dP_becomeLike_10 : decode cP_becomeLike 10 = .ok (.aload_n 0, 1) := by decide +kernel
theorem dP_becomeLike_11 : decode cP_becomeLike 11 = .ok (.getfield 9, 3) := by decide +kernel
theorem dP_becomeLike_14 : decode cP_becomeLike 14 = .ok (.arraylength, 1) := by decide +kernel
theorem dP_becomeLike_15 : decode cP_becomeLike 15 = .ok (.invokestatic 31, 3) := by decide +kernel
theorem dP_becomeLike_18 : decode cP_becomeLike 18 = .ok (.aload_n 0, 1) := by decide +kernel
theorem dP_becomeLike_19 : decode cP_becomeLike 19 = .ok (.aload_n 1, 1) := by decide +kernel
theorem dP_becomeLike_20 : decode cP_becomeLike 20 = .ok (.getfield 15, 3) := by decide +kernel
theorem dP_becomeLike_23 : decode cP_becomeLike 23 = .ok (.putfield 15, 3) := by decide +kernel
theorem dP_becomeLike_26 : decode cP_becomeLike 26 = .ok (.aload_n 0, 1) := by decide +kernel
theorem dP_becomeLike_27 : decode cP_becomeLike 27 = .ok (.aload_n 1, 1) := by decide +kernel
theorem dP_becomeLike_28 : decode cP_becomeLike 28 = .ok (.getfield 19, 3) := by decide +kernel
theorem dP_becomeLike_31 : decode cP_becomeLike 31 = .ok (.putfield 19, 3) := by decide +kernel
theorem dP_becomeLike_34 : decode cP_becomeLike 34 = .ok (.return_, 1) := by decide +kernel
theorem dP_widen_0 : decode cP_widen 0 = .ok (.iconst 0, 1) := by decide +kernel
theorem dP_widen_1 : decode cP_widen 1 = .ok (.istore_n 2, 1) := by decide +kernel
theorem dP_widen_2 : decode cP_widen 2 = .ok (.iload_n 2, 1) := by decide +kernel
theorem dP_widen_3 : decode cP_widen 3 = .ok (.aload_n 0, 1) := by decide +kernel
theorem dP_widen_4 : decode cP_widen 4 = .ok (.getfield 19, 3) := by decide +kernel
theorem dP_widen_7 : decode cP_widen 7 = .ok (.if_icmp .ge 55, 3) := by decide +kernel
theorem dP_widen_10 : decode cP_widen 10 = .ok (.aload_n 0, 1) := by decide +kernel
theorem dP_widen_11 : decode cP_widen 11 = .ok (.getfield 9, 3) := by decide +kernel
theorem dP_widen_14 : decode cP_widen 14 = .ok (.aload_n 0, 1) := by decide +kernel
theorem dP_widen_15 : decode cP_widen 15 = .ok (.getfield 15, 3) := by decide +kernel
theorem dP_widen_18 : decode cP_widen 18 = .ok (.iconst 1, 1) := by decide +kernel
theorem dP_widen_19 : decode cP_widen 19 = .ok (.isub, 1) := by decide +kernel
theorem dP_widen_20 : decode cP_widen 20 = .ok (.iload_n 2, 1) := by decide +kernel
theorem dP_widen_21 : decode cP_widen 21 = .ok (.invokestatic 37, 3) := by decide +kernel
theorem dP_widen_24 : decode cP_widen 24 = .ok (.iaload, 1) := by decide +kernel
theorem dP_widen_25 : decode cP_widen 25 = .ok (.istore_n 3, 1) := by decide +kernel
theorem dP_widen_26 : decode cP_widen 26 = .ok (.aload_n 0, 1) := by decide +kernel
theorem dP_widen_27 : decode cP_widen 27 = .ok (.getfield 15, 3) := by decide +kernel
theorem dP_widen_30 : decode cP_widen 30 = .ok (.istore 4, 2) := by decide +kernel
theorem dP_widen_32 : decode cP_widen 32 = .ok (.iload 4, 2) := by decide +kernel
theorem dP_widen_34 : decode cP_widen 34 = .ok (.iload_n 1, 1) := by decide +kernel
theorem dP_widen_35 : decode cP_widen 35 = .ok (.if_icmp .ge 21, 3) := by decide +kernel
theorem dP_widen_38 : decode cP_widen 38 = .ok (.aload_n 0, 1) := by decide +kernel
theorem dP_widen_39 : decode cP_widen 39 = .ok (.getfield 9, 3) := by decide +kernel
theorem dP_widen_42 : decode cP_widen 42 = .ok (.iload 4, 2) := by decide +kernel
theorem dP_widen_44 : decode cP_widen 44 = .ok (.iload_n 2, 1) := by decide +kernel
theorem dP_widen_45 : decode cP_widen 45 = .ok (.invokestatic 37, 3) := by decide +kernel
theorem dP_widen_48 : decode cP_widen 48 = .ok (.iload_n 3, 1) := by decide +kernel
theorem dP_widen_49 : decode cP_widen 49 = .ok (.iastore, 1) := by decide +kernel
theorem dP_widen_50 : decode cP_widen 50 = .ok (.iinc 4 1, 3) := by decide +kernel
theorem dP_widen_53 : decode cP_widen 53 = .ok (.goto (-21), 3) := by decide +kernel
theorem dP_widen_56 : decode cP_widen 56 = .ok (.iinc 2 1, 3) := by decide +kernel
theorem dP_widen_59 : decode cP_widen 59 = .ok (.goto (-57), 3) := by decide +kernel
theorem dP_widen_62 : decode cP_widen 62 = .ok (.aload_n 0, 1) := by decide +kernel
theorem dP_widen_63 : decode cP_widen 63 = .ok (.iload_n 1, 1) := by decide +kernel
theorem dP_widen_64 : decode cP_widen 64 = .ok (.putfield 15, 3) := by decide +kernel
theorem dP_widen_67 : decode cP_widen 67 = .ok (.return_, 1) := by decide +kernel
theorem dP_deepen_0 : decode cP_deepen 0 = .ok (.iconst 0, 1) := by decide +kernel
theorem dP_deepen_1 : decode cP_deepen 1 = .ok (.istore_n 2, 1) := by decide +kernel
theorem dP_deepen_2 : decode cP_deepen 2 = .ok (.iload_n 2, 1) := by decide +kernel
theorem dP_deepen_3 : decode cP_deepen 3 = .ok (.aload_n 0, 1) := by decide +kernel
theorem dP_deepen_4 : decode cP_deepen 4 = .ok (.getfield 15, 3) := by decide +kernel
theorem dP_deepen_7 : decode cP_deepen 7 = .ok (.if_icmp .ge 55, 3) := by decide +kernel
theorem dP_deepen_10 : decode cP_deepen 10 = .ok (.aload_n 0, 1) := by decide +kernel
theorem dP_deepen_11 : decode cP_deepen 11 = .ok (.getfield 9, 3) := by decide +kernel
theorem dP_deepen_14 : decode cP_deepen 14 = .ok (.iload_n 2, 1) := by decide +kernel
theorem dP_deepen_15 : decode cP_deepen 15 = .ok (.aload_n 0, 1) := by decide +kernel
theorem dP_deepen_16 : decode cP_deepen 16 = .ok (.getfield 19, 3) := by decide +kernel
theorem dP_deepen_19 : decode cP_deepen 19 = .ok (.iconst 1, 1) := by decide +kernel
theorem dP_deepen_20 : decode cP_deepen 20 = .ok (.isub, 1) := by decide +kernel
theorem dP_deepen_21 : decode cP_deepen 21 = .ok (.invokestatic 37, 3) := by decide +kernel
theorem dP_deepen_24 : decode cP_deepen 24 = .ok (.iaload, 1) := by decide +kernel
theorem dP_deepen_25 : decode cP_deepen 25 = .ok (.istore_n 3, 1) := by decide +kernel
theorem dP_deepen_26 : decode cP_deepen 26 = .ok (.aload_n 0, 1) := by decide +kernel
theorem dP_deepen_27 : decode cP_deepen 27 = .ok (.getfield 19, 3) := by decide +kernel
theorem dP_deepen_30 : decode cP_deepen 30 = .ok (.istore 4, 2) := by decide +kernel
theorem dP_deepen_32 : decode cP_deepen 32 = .ok (.iload 4, 2) := by decide +kernel
theorem dP_deepen_34 : decode cP_deepen 34 = .ok (.iload_n 1, 1) := by decide +kernel
theorem dP_deepen_35 : decode cP_deepen 35 = .ok (.if_icmp .ge 21, 3) := by decide +kernel
theorem dP_deepen_38 : decode cP_deepen 38 = .ok (.aload_n 0, 1) := by decide +kernel
theorem dP_deepen_39 : decode cP_deepen 39 = .ok (.getfield 9, 3) := by decide +kernel
theorem dP_deepen_42 : decode cP_deepen 42 = .ok (.iload_n 2, 1) := by decide +kernel
theorem dP_deepen_43 : decode cP_deepen 43 = .ok (.iload 4, 2) := by decide +kernel
theorem dP_deepen_45 : decode cP_deepen 45 = .ok (.invokestatic 37, 3) := by decide +kernel
theorem dP_deepen_48 : decode cP_deepen 48 = .ok (.iload_n 3, 1) := by decide +kernel
theorem dP_deepen_49 : decode cP_deepen 49 = .ok (.iastore, 1) := by decide +kernel
theorem dP_deepen_50 : decode cP_deepen 50 = .ok (.iinc 4 1, 3) := by decide +kernel
theorem dP_deepen_53 : decode cP_deepen 53 = .ok (.goto (-21), 3) := by decide +kernel
theorem dP_deepen_56 : decode cP_deepen 56 = .ok (.iinc 2 1, 3) := by decide +kernel
theorem dP_deepen_59 : decode cP_deepen 59 = .ok (.goto (-57), 3) := by decide +kernel
theorem dP_deepen_62 : decode cP_deepen 62 = .ok (.aload_n 0, 1) := by decide +kernel
theorem dP_deepen_63 : decode cP_deepen 63 = .ok (.iload_n 1, 1) := by decide +kernel
theorem dP_deepen_64 : decode cP_deepen 64 = .ok (.putfield 19, 3) := by decide +kernel
theorem dP_deepen_67 : decode cP_deepen 67 = .ok (.return_, 1) := by decide +kernel
theorem dP_greatestDifference_0 : decode cP_greatestDifference 0 = .ok (.iconst 0, 1) := by decide +kernel
theorem dP_greatestDifference_1 : decode cP_greatestDifference 1 = .ok (.istore_n 2, 1) := by decide +kernel
theorem dP_greatestDifference_2 : decode cP_greatestDifference 2 = .ok (.iconst 0, 1) := by decide +kernel
theorem dP_greatestDifference_3 : decode cP_greatestDifference 3 = .ok (.istore_n 3, 1) := by decide +kernel
theorem dP_greatestDifference_4 : decode cP_greatestDifference 4 = .ok (.iload_n 3, 1) := by decide +kernel
theorem dP_greatestDifference_5 : decode cP_greatestDifference 5 = .ok (.aload_n 0, 1) := by decide +kernel
theorem dP_greatestDifference_6 : decode cP_greatestDifference 6 = .ok (.getfield 19, 3) := by decide +kernel
theorem dP_greatestDifference_9 : decode cP_greatestDifference 9 = .ok (.if_icmp .ge 58, 3) := by decide +kernel
theorem dP_greatestDifference_12 : decode cP_greatestDifference 12 = .ok (.iconst 0, 1) := by decide +kernel
theorem dP_greatestDifference_13 : decode cP_greatestDifference 13 = .ok (.istore 4, 2) := by decide +kernel
theorem dP_greatestDifference_15 : decode cP_greatestDifference 15 = .ok (.iload 4, 2) := by decide +kernel
theorem dP_greatestDifference_17 : decode cP_greatestDifference 17 = .ok (.aload_n 0, 1) := by decide +kernel
theorem dP_greatestDifference_18 : decode cP_greatestDifference 18 = .ok (.getfield 15, 3) := by decide +kernel
theorem dP_greatestDifference_21 : decode cP_greatestDifference 21 = .ok (.if_icmp .ge 40, 3) := by decide +kernel
theorem dP_greatestDifference_24 : decode cP_greatestDifference 24 = .ok (.iload 4, 2) := by decide +kernel
theorem dP_greatestDifference_26 : decode cP_greatestDifference 26 = .ok (.iload_n 3, 1) := by decide +kernel
theorem dP_greatestDifference_27 : decode cP_greatestDifference 27 = .ok (.invokestatic 37, 3) := by decide +kernel
theorem dP_greatestDifference_30 : decode cP_greatestDifference 30 = .ok (.istore 5, 2) := by decide +kernel
theorem dP_greatestDifference_32 : decode cP_greatestDifference 32 = .ok (.iload_n 2, 1) := by decide +kernel
theorem dP_greatestDifference_33 : decode cP_greatestDifference 33 = .ok (.aload_n 0, 1) := by decide +kernel
theorem dP_greatestDifference_34 : decode cP_greatestDifference 34 = .ok (.getfield 9, 3) := by decide +kernel
theorem dP_greatestDifference_37 : decode cP_greatestDifference 37 = .ok (.iload 5, 2) := by decide +kernel
theorem dP_greatestDifference_39 : decode cP_greatestDifference 39 = .ok (.iaload, 1) := by decide +kernel
theorem dP_greatestDifference_40 : decode cP_greatestDifference 40 = .ok (.aload_n 1, 1) := by decide +kernel
theorem dP_greatestDifference_41 : decode cP_greatestDifference 41 = .ok (.getfield 9, 3) := by decide +kernel
theorem dP_greatestDifference_44 : decode cP_greatestDifference 44 = .ok (.iload 5, 2) := by decide +kernel
theorem dP_greatestDifference_46 : decode cP_greatestDifference 46 = .ok (.iaload, 1) := by decide +kernel
theorem dP_greatestDifference_47 : decode cP_greatestDifference 47 = .ok (.isub, 1) := by decide +kernel
theorem dP_greatestDifference_48 : decode cP_greatestDifference 48 = .ok (.invokestatic 61, 3) := by decide +kernel
theorem dP_greatestDifference_51 : decode cP_greatestDifference 51 = .ok (.invokestatic 64, 3) := by decide +kernel
theorem dP_greatestDifference_54 : decode cP_greatestDifference 54 = .ok (.istore_n 2, 1) := by decide +kernel
theorem dP_greatestDifference_55 : decode cP_greatestDifference 55 = .ok (.iinc 4 1, 3) := by decide +kernel
theorem dP_greatestDifference_58 : decode cP_greatestDifference 58 = .ok (.goto (-43), 3) := by decide +kernel
theorem dP_greatestDifference_61 : decode cP_greatestDifference 61 = .ok (.iinc 3 1, 3) := by decide +kernel
theorem dP_greatestDifference_64 : decode cP_greatestDifference 64 = .ok (.goto (-60), 3) := by decide +kernel
theorem dP_greatestDifference_67 : decode cP_greatestDifference 67 = .ok (.iload_n 2, 1) := by decide +kernel
theorem dP_greatestDifference_68 : decode cP_greatestDifference 68 = .ok (.ireturn, 1) := by decide +kernel
theorem dP_sum_0 : decode cP_sum 0 = .ok (.iconst 0, 1) := by decide +kernel
theorem dP_sum_1 : decode cP_sum 1 = .ok (.istore_n 1, 1) := by decide +kernel
theorem dP_sum_2 : decode cP_sum 2 = .ok (.iconst 0, 1) := by decide +kernel
theorem dP_sum_3 : decode cP_sum 3 = .ok (.istore_n 2, 1) := by decide +kernel
theorem dP_sum_4 : decode cP_sum 4 = .ok (.iload_n 2, 1) := by decide +kernel
theorem dP_sum_5 : decode cP_sum 5 = .ok (.aload_n 0, 1) := by decide +kernel
theorem dP_sum_6 : decode cP_sum 6 = .ok (.getfield 19, 3) := by decide +kernel
theorem dP_sum_9 : decode cP_sum 9 = .ok (.if_icmp .ge 38, 3) := by decide +kernel
theorem dP_sum_12 : decode cP_sum 12 = .ok (.iconst 0, 1) := by decide +kernel
theorem dP_sum_13 : decode cP_sum 13 = .ok (.istore_n 3, 1) := by decide +kernel
theorem dP_sum_14 : decode cP_sum 14 = .ok (.iload_n 3, 1) := by decide +kernel
theorem dP_sum_15 : decode cP_sum 15 = .ok (.aload_n 0, 1) := by decide +kernel
theorem dP_sum_16 : decode cP_sum 16 = .ok (.getfield 15, 3) := by decide +kernel
theorem dP_sum_19 : decode cP_sum 19 = .ok (.if_icmp .ge 22, 3) := by decide +kernel
theorem dP_sum_22 : decode cP_sum 22 = .ok (.iload_n 1, 1) := by decide +kernel
theorem dP_sum_23 : decode cP_sum 23 = .ok (.aload_n 0, 1) := by decide +kernel
theorem dP_sum_24 : decode cP_sum 24 = .ok (.getfield 9, 3) := by decide +kernel
theorem dP_sum_27 : decode cP_sum 27 = .ok (.iload_n 3, 1) := by decide +kernel
theorem dP_sum_28 : decode cP_sum 28 = .ok (.iload_n 2, 1) := by decide +kernel
theorem dP_sum_29 : decode cP_sum 29 = .ok (.invokestatic 37, 3) := by decide +kernel
theorem dP_sum_32 : decode cP_sum 32 = .ok (.iaload, 1) := by decide +kernel
theorem dP_sum_33 : decode cP_sum 33 = .ok (.iadd, 1) := by decide +kernel
theorem dP_sum_34 : decode cP_sum 34 = .ok (.istore_n 1, 1) := by decide +kernel
theorem dP_sum_35 : decode cP_sum 35 = .ok (.iinc 3 1, 3) := by decide +kernel
theorem dP_sum_38 : decode cP_sum 38 = .ok (.goto (-24), 3) := by decide +kernel
theorem dP_sum_41 : decode cP_sum 41 = .ok (.iinc 2 1, 3) := by decide +kernel
theorem dP_sum_44 : decode cP_sum 44 = .ok (.goto (-40), 3) := by decide +kernel
theorem dP_sum_47 : decode cP_sum 47 = .ok (.iload_n 1, 1) := by decide +kernel
theorem dP_sum_48 : decode cP_sum 48 = .ok (.ireturn, 1) := by decide +kernel
theorem dP_least_0 : decode cP_least 0 = .ok (.sipush 255, 3) := by decide +kernel
theorem dP_least_3 : decode cP_least 3 = .ok (.istore_n 1, 1) := by decide +kernel
theorem dP_least_4 : decode cP_least 4 = .ok (.iconst 0, 1) := by decide +kernel
theorem dP_least_5 : decode cP_least 5 = .ok (.istore_n 2, 1) := by decide +kernel
theorem dP_least_6 : decode cP_least 6 = .ok (.iload_n 2, 1) := by decide +kernel
theorem dP_least_7 : decode cP_least 7 = .ok (.aload_n 0, 1) := by decide +kernel
theorem dP_least_8 : decode cP_least 8 = .ok (.getfield 19, 3) := by decide +kernel
theorem dP_least_11 : decode cP_least 11 = .ok (.if_icmp .ge 40, 3) := by decide +kernel
theorem dP_least_14 : decode cP_least 14 = .ok (.iconst 0, 1) := by decide +kernel
theorem dP_least_15 : decode cP_least 15 = .ok (.istore_n 3, 1) := by decide +kernel
theorem dP_least_16 : decode cP_least 16 = .ok (.iload_n 3, 1) := by decide +kernel
theorem dP_least_17 : decode cP_least 17 = .ok (.aload_n 0, 1) := by decide +kernel
theorem dP_least_18 : decode cP_least 18 = .ok (.getfield 15, 3) := by decide +kernel
theorem dP_least_21 : decode cP_least 21 = .ok (.if_icmp .ge 24, 3) := by decide +kernel
theorem dP_least_24 : decode cP_least 24 = .ok (.iload_n 1, 1) := by decide +kernel
theorem dP_least_25 : decode cP_least 25 = .ok (.aload_n 0, 1) := by decide +kernel
theorem dP_least_26 : decode cP_least 26 = .ok (.getfield 9, 3) := by decide +kernel
theorem dP_least_29 : decode cP_least 29 = .ok (.iload_n 3, 1) := by decide +kernel
theorem dP_least_30 : decode cP_least 30 = .ok (.iload_n 2, 1) := by decide +kernel
theorem dP_least_31 : decode cP_least 31 = .ok (.invokestatic 37, 3) := by decide +kernel
theorem dP_least_34 : decode cP_least 34 = .ok (.iaload, 1) := by decide +kernel
theorem dP_least_35 : decode cP_least 35 = .ok (.invokestatic 53, 3) := by decide +kernel
theorem dP_least_38 : decode cP_least 38 = .ok (.istore_n 1, 1) := by decide +kernel
theorem dP_least_39 : decode cP_least 39 = .ok (.iinc 3 1, 3) := by decide +kernel
theorem dP_least_42 : decode cP_least 42 = .ok (.goto (-26), 3) := by decide +kernel
theorem dP_least_45 : decode cP_least 45 = .ok (.iinc 2 1, 3) := by decide +kernel
theorem dP_least_48 : decode cP_least 48 = .ok (.goto (-42), 3) := by decide +kernel
theorem dP_least_51 : decode cP_least 51 = .ok (.iload_n 1, 1) := by decide +kernel
theorem dP_least_52 : decode cP_least 52 = .ok (.ireturn, 1) := by decide +kernel
theorem dP_greatest_0 : decode cP_greatest 0 = .ok (.iconst 0, 1) := by decide +kernel
theorem dP_greatest_1 : decode cP_greatest 1 = .ok (.istore_n 1, 1) := by decide +kernel
theorem dP_greatest_2 : decode cP_greatest 2 = .ok (.iconst 0, 1) := by decide +kernel
theorem dP_greatest_3 : decode cP_greatest 3 = .ok (.istore_n 2, 1) := by decide +kernel
theorem dP_greatest_4 : decode cP_greatest 4 = .ok (.iload_n 2, 1) := by decide +kernel
theorem dP_greatest_5 : decode cP_greatest 5 = .ok (.aload_n 0, 1) := by decide +kernel
theorem dP_greatest_6 : decode cP_greatest 6 = .ok (.getfield 19, 3) := by decide +kernel
theorem dP_greatest_9 : decode cP_greatest 9 = .ok (.if_icmp .ge 40, 3) := by decide +kernel
theorem dP_greatest_12 : decode cP_greatest 12 = .ok (.iconst 0, 1) := by decide +kernel
theorem dP_greatest_13 : decode cP_greatest 13 = .ok (.istore_n 3, 1) := by decide +kernel
theorem dP_greatest_14 : decode cP_greatest 14 = .ok (.iload_n 3, 1) := by decide +kernel
theorem dP_greatest_15 : decode cP_greatest 15 = .ok (.aload_n 0, 1) := by decide +kernel
theorem dP_greatest_16 : decode cP_greatest 16 = .ok (.getfield 15, 3) := by decide +kernel
theorem dP_greatest_19 : decode cP_greatest 19 = .ok (.if_icmp .ge 24, 3) := by decide +kernel
theorem dP_greatest_22 : decode cP_greatest 22 = .ok (.iload_n 1, 1) := by decide +kernel
theorem dP_greatest_23 : decode cP_greatest 23 = .ok (.aload_n 0, 1) := by decide +kernel
theorem dP_greatest_24 : decode cP_greatest 24 = .ok (.getfield 9, 3) := by decide +kernel
theorem dP_greatest_27 : decode cP_greatest 27 = .ok (.iload_n 3, 1) := by decide +kernel
theorem dP_greatest_28 : decode cP_greatest 28 = .ok (.iload_n 2, 1) := by decide +kernel
theorem dP_greatest_29 : decode cP_greatest 29 = .ok (.invokestatic 37, 3) := by decide +kernel
theorem dP_greatest_32 : decode cP_greatest 32 = .ok (.iaload, 1) := by decide +kernel
theorem dP_greatest_33 : decode cP_greatest 33 = .ok (.invokestatic 64, 3) := by decide +kernel
theorem dP_greatest_36 : decode cP_greatest 36 = .ok (.istore_n 1, 1) := by decide +kernel
theorem dP_greatest_37 : decode cP_greatest 37 = .ok (.iinc 3 1, 3) := by decide +kernel
theorem dP_greatest_40 : decode cP_greatest 40 = .ok (.goto (-26), 3) := by decide +kernel
theorem dP_greatest_43 : decode cP_greatest 43 = .ok (.iinc 2 1, 3) := by decide +kernel
theorem dP_greatest_46 : decode cP_greatest 46 = .ok (.goto (-42), 3) := by decide +kernel
theorem dP_greatest_49 : decode cP_greatest 49 = .ok (.iload_n 1, 1) := by decide +kernel
theorem dP_greatest_50 : decode cP_greatest 50 = .ok (.ireturn, 1) := by decide +kernel
