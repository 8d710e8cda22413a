theorem dX12_thread_21 : decode cX12_thread 21 = .ok (.lconst 0, 1) := by decide +kernel
theorem dX12_thread_22 : decode cX12_thread 22 = .ok (.lastore, 1) := by decide +kernel
theorem dX12_thread_23 : decode cX12_thread 23 = .ok (.aload_n 0, 1) := by decide +kernel
theorem dX12_thread_24 : decode cX12_thread 24 = .ok (.getfield 41, 3) := by decide +kernel
theorem dX12_thread_27 : decode cX12_thread 27 = .ok (.bipush 50, 2) := by decide +kernel
theorem dX12_thread_29 : decode cX12_thread 29 = .ok (.lconst 0, 1) := by decide +kernel
theorem dX12_thread_30 : decode cX12_thread 30 = .ok (.lastore, 1) := by decide +kernel
theorem dX12_thread_31 : decode cX12_thread 31 = .ok (.aload_n 0, 1) := by decide +kernel
theorem dX12_thread_32 : decode cX12_thread 32 = .ok (.getfield 41, 3) := by decide +kernel
theorem dX12_thread_35 : decode cX12_thread 35 = .ok (.bipush 62, 2) := by decide +kernel
theorem dX12_thread_37 : decode cX12_thread 37 = .ok (.lconst 0, 1) := by decide +kernel
theorem dX12_thread_38 : decode cX12_thread 38 = .ok (.lastore, 1) := by decide +kernel
theorem dX12_thread_39 : decode cX12_thread 39 = .ok (.aload_n 0, 1) := by decide +kernel
theorem dX12_thread_40 : decode cX12_thread 40 = .ok (.getfield 41, 3) := by decide +kernel
theorem dX12_thread_43 : decode cX12_thread 43 = .ok (.bipush 51, 2) := by decide +kernel
theorem dX12_thread_45 : decode cX12_thread 45 = .ok (.aload_n 0, 1) := by decide +kernel
theorem dX12_thread_46 : decode cX12_thread 46 = .ok (.getfield 41, 3) := by decide +kernel
theorem dX12_thread_49 : decode cX12_thread 49 = .ok (.bipush 51, 2) := by decide +kernel
theorem dX12_thread_51 : decode cX12_thread 51 = .ok (.laload, 1) := by decide +kernel
theorem dX12_thread_52 : decode cX12_thread 52 = .ok (.lconst 0, 1) := by decide +kernel
theorem dX12_thread_53 : decode cX12_thread 53 = .ok (.lcmp, 1) := by decide +kernel
theorem dX12_thread_54 : decode cX12_thread 54 = .ok (.ifCond .ge 7, 3) := by decide +kernel
theorem dX12_thread_57 : decode cX12_thread 57 = .ok (.lconst 0, 1) := by decide +kernel
theorem dX12_thread_58 : decode cX12_thread 58 = .ok (.goto 10, 3) := by decide +kernel
theorem dX12_thread_61 : decode cX12_thread 61 = .ok (.aload_n 0, 1) := by decide +kernel
theorem dX12_thread_62 : decode cX12_thread 62 = .ok (.getfield 41, 3) := by decide +kernel
theorem dX12_thread_65 : decode cX12_thread 65 = .ok (.bipush 51, 2) := by decide +kernel
theorem dX12_thread_67 : decode cX12_thread 67 = .ok (.laload, 1) := by decide +kernel
theorem dX12_thread_68 : decode cX12_thread 68 = .ok (.lastore, 1) := by decide +kernel
theorem dX12_thread_69 : decode cX12_thread 69 = .ok (.iconst 0, 1) := by decide +kernel
theorem dX12_thread_70 : decode cX12_thread 70 = .ok (.istore_n 1, 1) := by decide +kernel
theorem dX12_thread_71 : decode cX12_thread 71 = .ok (.iload_n 1, 1) := by decide +kernel
theorem dX12_thread_72 : decode cX12_thread 72 = .ok (.aload_n 0, 1) := by decide +kernel
theorem dX12_thread_73 : decode cX12_thread 73 = .ok (.getfield 69, 3) := by decide +kernel
theorem dX12_thread_76 : decode cX12_thread 76 = .ok (.if_icmp .ge 45, 3) := by decide +kernel
theorem dX12_thread_79 : decode cX12_thread 79 = .ok (.aload_n 0, 1) := by decide +kernel
theorem dX12_thread_80 : decode cX12_thread 80 = .ok (.getfield 41, 3) := by decide +kernel
theorem dX12_thread_83 : decode cX12_thread 83 = .ok (.bipush 8, 2) := by decide +kernel
theorem dX12_thread_85 : decode cX12_thread 85 = .ok (.iload_n 1, 1) := by decide +kernel
theorem dX12_thread_86 : decode cX12_thread 86 = .ok (.imul, 1) := by decide +kernel
theorem dX12_thread_87 : decode cX12_thread 87 = .ok (.iconst 3, 1) := by decide +kernel
theorem dX12_thread_88 : decode cX12_thread 88 = .ok (.iadd, 1) := by decide +kernel
theorem dX12_thread_89 : decode cX12_thread 89 = .ok (.lconst 0, 1) := by decide +kernel
theorem dX12_thread_90 : decode cX12_thread 90 = .ok (.lastore, 1) := by decide +kernel
theorem dX12_thread_91 : decode cX12_thread 91 = .ok (.aload_n 0, 1) := by decide +kernel
theorem dX12_thread_92 : decode cX12_thread 92 = .ok (.getfield 41, 3) := by decide +kernel
theorem dX12_thread_95 : decode cX12_thread 95 = .ok (.bipush 8, 2) := by decide +kernel
theorem dX12_thread_97 : decode cX12_thread 97 = .ok (.iload_n 1, 1) := by decide +kernel
theorem dX12_thread_98 : decode cX12_thread 98 = .ok (.imul, 1) := by decide +kernel
theorem dX12_thread_99 : decode cX12_thread 99 = .ok (.iconst 5, 1) := by decide +kernel
theorem dX12_thread_100 : decode cX12_thread 100 = .ok (.iadd, 1) := by decide +kernel
theorem dX12_thread_101 : decode cX12_thread 101 = .ok (.lconst 0, 1) := by decide +kernel
theorem dX12_thread_102 : decode cX12_thread 102 = .ok (.lastore, 1) := by decide +kernel
theorem dX12_thread_103 : decode cX12_thread 103 = .ok (.aload_n 0, 1) := by decide +kernel
theorem dX12_thread_104 : decode cX12_thread 104 = .ok (.iload_n 1, 1) := by decide +kernel
theorem dX12_thread_105 : decode cX12_thread 105 = .ok (.aload_n 0, 1) := by decide +kernel
theorem dX12_thread_106 : decode cX12_thread 106 = .ok (.getfield 13, 3) := by decide +kernel
theorem dX12_thread_109 : decode cX12_thread 109 = .ok (.iload_n 1, 1) := by decide +kernel
theorem dX12_thread_110 : decode cX12_thread 110 = .ok (.iaload, 1) := by decide +kernel
theorem dX12_thread_111 : decode cX12_thread 111 = .ok (.invokevirtual 141, 3) := by decide +kernel
theorem dX12_thread_114 : decode cX12_thread 114 = .ok (.pop, 1) := by decide +kernel
theorem dX12_thread_115 : decode cX12_thread 115 = .ok (.iinc 1 1, 3) := by decide +kernel
theorem dX12_thread_118 : decode cX12_thread 118 = .ok (.goto (-47), 3) := by decide +kernel
theorem dX12_thread_121 : decode cX12_thread 121 = .ok (.iconst 1, 1) := by decide +kernel
theorem dX12_thread_122 : decode cX12_thread 122 = .ok (.ireturn, 1) := by decide +kernel
theorem dX12_value_0 : decode cX12_value 0 = .ok (.iload_n 1, 1) := by decide +kernel
theorem dX12_value_1 : decode cX12_value 1 = .ok (.tableswitch 115 0 7 #[47, 56, 65, 74, 79, 88, 97, 106], 47) := by decide +kernel
theorem dX12_value_48 : decode cX12_value 48 = .ok (.aload_n 0, 1) := by decide +kernel
theorem dX12_value_49 : decode cX12_value 49 = .ok (.getfield 41, 3) := by decide +kernel
theorem dX12_value_52 : decode cX12_value 52 = .ok (.bipush 48, 2) := by decide +kernel
theorem dX12_value_54 : decode cX12_value 54 = .ok (.laload, 1) := by decide +kernel
theorem dX12_value_55 : decode cX12_value 55 = .ok (.l2i, 1) := by decide +kernel
theorem dX12_value_56 : decode cX12_value 56 = .ok (.ireturn, 1) := by decide +kernel
theorem dX12_value_57 : decode cX12_value 57 = .ok (.aload_n 0, 1) := by decide +kernel
theorem dX12_value_58 : decode cX12_value 58 = .ok (.getfield 41, 3) := by decide +kernel
theorem dX12_value_61 : decode cX12_value 61 = .ok (.bipush 49, 2) := by decide +kernel
theorem dX12_value_63 : decode cX12_value 63 = .ok (.laload, 1) := by decide +kernel
theorem dX12_value_64 : decode cX12_value 64 = .ok (.l2i, 1) := by decide +kernel
theorem dX12_value_65 : decode cX12_value 65 = .ok (.ireturn, 1) := by decide +kernel
theorem dX12_value_66 : decode cX12_value 66 = .ok (.aload_n 0, 1) := by decide +kernel
theorem dX12_value_67 : decode cX12_value 67 = .ok (.getfield 41, 3) := by decide +kernel
theorem dX12_value_70 : decode cX12_value 70 = .ok (.bipush 50, 2) := by decide +kernel
theorem dX12_value_72 : decode cX12_value 72 = .ok (.laload, 1) := by decide +kernel
theorem dX12_value_73 : decode cX12_value 73 = .ok (.l2i, 1) := by decide +kernel
theorem dX12_value_74 : decode cX12_value 74 = .ok (.ireturn, 1) := by decide +kernel
theorem dX12_value_75 : decode cX12_value 75 = .ok (.aload_n 0, 1) := by decide +kernel
theorem dX12_value_76 : decode cX12_value 76 = .ok (.getfield 69, 3) := by decide +kernel
theorem dX12_value_79 : decode cX12_value 79 = .ok (.ireturn, 1) := by decide +kernel
theorem dX12_value_80 : decode cX12_value 80 = .ok (.aload_n 0, 1) := by decide +kernel
theorem dX12_value_81 : decode cX12_value 81 = .ok (.getfield 41, 3) := by decide +kernel
theorem dX12_value_84 : decode cX12_value 84 = .ok (.bipush 62, 2) := by decide +kernel
theorem dX12_value_86 : decode cX12_value 86 = .ok (.laload, 1) := by decide +kernel
theorem dX12_value_87 : decode cX12_value 87 = .ok (.l2i, 1) := by decide +kernel
theorem dX12_value_88 : decode cX12_value 88 = .ok (.ireturn, 1) := by decide +kernel
theorem dX12_value_89 : decode cX12_value 89 = .ok (.aload_n 0, 1) := by decide +kernel
theorem dX12_value_90 : decode cX12_value 90 = .ok (.getfield 41, 3) := by decide +kernel
theorem dX12_value_93 : decode cX12_value 93 = .ok (.bipush 58, 2) := by decide +kernel
theorem dX12_value_95 : decode cX12_value 95 = .ok (.laload, 1) := by decide +kernel
theorem dX12_value_96 : decode cX12_value 96 = .ok (.l2i, 1) := by decide +kernel
theorem dX12_value_97 : decode cX12_value 97 = .ok (.ireturn, 1) := by decide +kernel
theorem dX12_value_98 : decode cX12_value 98 = .ok (.aload_n 0, 1) := by decide +kernel
theorem dX12_value_99 : decode cX12_value 99 = .ok (.getfield 41, 3) := by decide +kernel
theorem dX12_value_102 : decode cX12_value 102 = .ok (.bipush 52, 2) := by decide +kernel
theorem dX12_value_104 : decode cX12_value 104 = .ok (.laload, 1) := by decide +kernel
theorem dX12_value_105 : decode cX12_value 105 = .ok (.l2i, 1) := by decide +kernel
theorem dX12_value_106 : decode cX12_value 106 = .ok (.ireturn, 1) := by decide +kernel
theorem dX12_value_107 : decode cX12_value 107 = .ok (.aload_n 0, 1) := by decide +kernel
theorem dX12_value_108 : decode cX12_value 108 = .ok (.getfield 41, 3) := by decide +kernel
theorem dX12_value_111 : decode cX12_value 111 = .ok (.bipush 63, 2) := by decide +kernel
theorem dX12_value_113 : decode cX12_value 113 = .ok (.laload, 1) := by decide +kernel
theorem dX12_value_114 : decode cX12_value 114 = .ok (.l2i, 1) := by decide +kernel
theorem dX12_value_115 : decode cX12_value 115 = .ok (.ireturn, 1) := by decide +kernel
theorem dX12_value_116 : decode cX12_value 116 = .ok (.ldc 126, 2) := by decide +kernel
theorem dX12_value_118 : decode cX12_value 118 = .ok (.ireturn, 1) := by decide +kernel
theorem dX12_breakAt_0 : decode cX12_breakAt 0 = .ok (.aload_n 0, 1) := by decide +kernel
theorem dX12_breakAt_1 : decode cX12_breakAt 1 = .ok (.getfield 41, 3) := by decide +kernel
theorem dX12_breakAt_4 : decode cX12_breakAt 4 = .ok (.bipush 59, 2) := by decide +kernel
theorem dX12_breakAt_6 : decode cX12_breakAt 6 = .ok (.laload, 1) := by decide +kernel
theorem dX12_breakAt_7 : decode cX12_breakAt 7 = .ok (.lconst 0, 1) := by decide +kernel
theorem dX12_breakAt_8 : decode cX12_breakAt 8 = .ok (.lcmp, 1) := by decide +kernel
theorem dX12_breakAt_9 : decode cX12_breakAt 9 = .ok (.ifCond .ne 8, 3) := by decide +kernel
theorem dX12_breakAt_12 : decode cX12_breakAt 12 = .ok (.ldc 229, 2) := by decide +kernel
theorem dX12_breakAt_14 : decode cX12_breakAt 14 = .ok (.goto 11, 3) := by decide +kernel
theorem dX12_breakAt_17 : decode cX12_breakAt 17 = .ok (.aload_n 0, 1) := by decide +kernel
theorem dX12_breakAt_18 : decode cX12_breakAt 18 = .ok (.getfield 41, 3) := by decide +kernel
theorem dX12_breakAt_21 : decode cX12_breakAt 21 = .ok (.bipush 60, 2) := by decide +kernel
theorem dX12_breakAt_23 : decode cX12_breakAt 23 = .ok (.laload, 1) := by decide +kernel
theorem dX12_breakAt_24 : decode cX12_breakAt 24 = .ok (.l2i, 1) := by decide +kernel
theorem dX12_breakAt_25 : decode cX12_breakAt 25 = .ok (.ireturn, 1) := by decide +kernel
theorem dX12_measure_0 : decode cX12_measure 0 = .ok (.aload_n 0, 1) := by decide +kernel
theorem dX12_measure_1 : decode cX12_measure 1 = .ok (.iload_n 1, 1) := by decide +kernel
theorem dX12_measure_2 : decode cX12_measure 2 = .ok (.invokevirtual 135, 3) := by decide +kernel
theorem dX12_measure_5 : decode cX12_measure 5 = .ok (.ifCond .ne 30, 3) := by decide +kernel
theorem dX12_measure_8 : decode cX12_measure 8 = .ok (.iload_n 2, 1) := by decide +kernel
theorem dX12_measure_9 : decode cX12_measure 9 = .ok (.i2l, 1) := by decide +kernel
theorem dX12_measure_10 : decode cX12_measure 10 = .ok (.lconst 0, 1) := by decide +kernel
theorem dX12_measure_11 : decode cX12_measure 11 = .ok (.ldc2_w 230, 3) := by decide +kernel
theorem dX12_measure_14 : decode cX12_measure 14 = .ok (.invokestatic 118, 3) := by decide +kernel
theorem dX12_measure_17 : decode cX12_measure 17 = .ok (.ifCond .eq 18, 3) := by decide +kernel
theorem dX12_measure_20 : decode cX12_measure 20 = .ok (.iload_n 2, 1) := by decide +kernel
theorem dX12_measure_21 : decode cX12_measure 21 = .ok (.iconst 5, 1) := by decide +kernel
theorem dX12_measure_22 : decode cX12_measure 22 = .ok (.if_icmp .le 17, 3) := by decide +kernel
theorem dX12_measure_25 : decode cX12_measure 25 = .ok (.aload_n 0, 1) := by decide +kernel
theorem dX12_measure_26 : decode cX12_measure 26 = .ok (.getfield 13, 3) := by decide +kernel
theorem dX12_measure_29 : decode cX12_measure 29 = .ok (.iload_n 1, 1) := by decide +kernel
theorem dX12_measure_30 : decode cX12_measure 30 = .ok (.iaload, 1) := by decide +kernel
theorem dX12_measure_31 : decode cX12_measure 31 = .ok (.iconst 1, 1) := by decide +kernel
theorem dX12_measure_32 : decode cX12_measure 32 = .ok (.if_icmp .eq 7, 3) := by decide +kernel
theorem dX12_measure_35 : decode cX12_measure 35 = .ok (.invokestatic 232, 3) := by decide +kernel
theorem dX12_measure_38 : decode cX12_measure 38 = .ok (.lreturn, 1) := by decide +kernel
theorem dX12_measure_39 : decode cX12_measure 39 = .ok (.iload_n 2, 1) := by decide +kernel
theorem dX12_measure_40 : decode cX12_measure 40 = .ok (.tableswitch 112 0 6 #[44, 50, 62, 68, 81, 93, 100], 44) := by decide +kernel
theorem dX12_measure_84 : decode cX12_measure 84 = .ok (.aload_n 0, 1) := by decide +kernel
theorem dX12_measure_85 : decode cX12_measure 85 = .ok (.iload_n 1, 1) := by decide +kernel
theorem dX12_measure_86 : decode cX12_measure 86 = .ok (.invokevirtual 186, 3) := by decide +kernel
theorem dX12_measure_89 : decode cX12_measure 89 = .ok (.lreturn, 1) := by decide +kernel
theorem dX12_measure_90 : decode cX12_measure 90 = .ok (.aload_n 0, 1) := by decide +kernel
theorem dX12_measure_91 : decode cX12_measure 91 = .ok (.getfield 41, 3) := by decide +kernel
theorem dX12_measure_94 : decode cX12_measure 94 = .ok (.bipush 8, 2) := by decide +kernel
theorem dX12_measure_96 : decode cX12_measure 96 = .ok (.iload_n 1, 1) := by decide +kernel
theorem dX12_measure_97 : decode cX12_measure 97 = .ok (.imul, 1) := by decide +kernel
theorem dX12_measure_98 : decode cX12_measure 98 = .ok (.iconst 0, 1) := by decide +kernel
theorem dX12_measure_99 : decode cX12_measure 99 = .ok (.iadd, 1) := by decide +kernel
theorem dX12_measure_100 : decode cX12_measure 100 = .ok (.laload, 1) := by decide +kernel
theorem dX12_measure_101 : decode cX12_measure 101 = .ok (.lreturn, 1) := by decide +kernel
theorem dX12_measure_102 : decode cX12_measure 102 = .ok (.aload_n 0, 1) := by decide +kernel
theorem dX12_measure_103 : decode cX12_measure 103 = .ok (.iload_n 1, 1) := by decide +kernel
theorem dX12_measure_104 : decode cX12_measure 104 = .ok (.invokevirtual 131, 3) := by decide +kernel
theorem dX12_measure_107 : decode cX12_measure 107 = .ok (.lreturn, 1) := by decide +kernel
theorem dX12_measure_108 : decode cX12_measure 108 = .ok (.aload_n 0, 1) := by decide +kernel
theorem dX12_measure_109 : decode cX12_measure 109 = .ok (.getfield 41, 3) := by decide +kernel
theorem dX12_measure_112 : decode cX12_measure 112 = .ok (.bipush 8, 2) := by decide +kernel
theorem dX12_measure_114 : decode cX12_measure 114 = .ok (.iload_n 1, 1) := by decide +kernel
theorem dX12_measure_115 : decode cX12_measure 115 = .ok (.imul, 1) := by decide +kernel
theorem dX12_measure_116 : decode cX12_measure 116 = .ok (.bipush 6, 2) := by decide +kernel
theorem dX12_measure_118 : decode cX12_measure 118 = .ok (.iadd, 1) := by decide +kernel
theorem dX12_measure_119 : decode cX12_measure 119 = .ok (.laload, 1) := by decide +kernel
theorem dX12_measure_120 : decode cX12_measure 120 = .ok (.lreturn, 1) := by decide +kernel
theorem dX12_measure_121 : decode cX12_measure 121 = .ok (.aload_n 0, 1) := by decide +kernel
theorem dX12_measure_122 : decode cX12_measure 122 = .ok (.getfield 41, 3) := by decide +kernel
theorem dX12_measure_125 : decode cX12_measure 125 = .ok (.bipush 8, 2) := by decide +kernel
theorem dX12_measure_127 : decode cX12_measure 127 = .ok (.iload_n 1, 1) := by decide +kernel
theorem dX12_measure_128 : decode cX12_measure 128 = .ok (.imul, 1) := by decide +kernel
theorem dX12_measure_129 : decode cX12_measure 129 = .ok (.iconst 5, 1) := by decide +kernel
theorem dX12_measure_130 : decode cX12_measure 130 = .ok (.iadd, 1) := by decide +kernel
theorem dX12_measure_131 : decode cX12_measure 131 = .ok (.laload, 1) := by decide +kernel
theorem dX12_measure_132 : decode cX12_measure 132 = .ok (.lreturn, 1) := by decide +kernel
theorem dX12_measure_133 : decode cX12_measure 133 = .ok (.aload_n 0, 1) := by decide +kernel
theorem dX12_measure_134 : decode cX12_measure 134 = .ok (.iload_n 1, 1) := by decide +kernel
theorem dX12_measure_135 : decode cX12_measure 135 = .ok (.invokevirtual 199, 3) := by decide +kernel
theorem dX12_measure_138 : decode cX12_measure 138 = .ok (.i2l, 1) := by decide +kernel
theorem dX12_measure_139 : decode cX12_measure 139 = .ok (.lreturn, 1) := by decide +kernel
theorem dX12_measure_140 : decode cX12_measure 140 = .ok (.aload_n 0, 1) := by decide +kernel
theorem dX12_measure_141 : decode cX12_measure 141 = .ok (.getfield 41, 3) := by decide +kernel
theorem dX12_measure_144 : decode cX12_measure 144 = .ok (.bipush 8, 2) := by decide +kernel
theorem dX12_measure_146 : decode cX12_measure 146 = .ok (.iload_n 1, 1) := by decide +kernel
theorem dX12_measure_147 : decode cX12_measure 147 = .ok (.imul, 1) := by decide +kernel
theorem dX12_measure_148 : decode cX12_measure 148 = .ok (.iconst 1, 1) := by decide +kernel
theorem dX12_measure_149 : decode cX12_measure 149 = .ok (.iadd, 1) := by decide +kernel
theorem dX12_measure_150 : decode cX12_measure 150 = .ok (.laload, 1) := by decide +kernel
theorem dX12_measure_151 : decode cX12_measure 151 = .ok (.lreturn, 1) := by decide +kernel
theorem dX12_measure_152 : decode cX12_measure 152 = .ok (.aload_n 0, 1) := by decide +kernel
theorem dX12_measure_153 : decode cX12_measure 153 = .ok (.getfield 41, 3) := by decide +kernel
theorem dX12_measure_156 : decode cX12_measure 156 = .ok (.bipush 8, 2) := by decide +kernel
theorem dX12_measure_158 : decode cX12_measure 158 = .ok (.iload_n 1, 1) := by decide +kernel
theorem dX12_measure_159 : decode cX12_measure 159 = .ok (.imul, 1) := by decide +kernel
theorem dX12_measure_160 : decode cX12_measure 160 = .ok (.iconst 2, 1) := by decide +kernel
theorem dX12_measure_161 : decode cX12_measure 161 = .ok (.iadd, 1) := by decide +kernel
theorem dX12_measure_162 : decode cX12_measure 162 = .ok (.laload, 1) := by decide +kernel
theorem dX12_measure_163 : decode cX12_measure 163 = .ok (.lreturn, 1) := by decide +kernel
theorem dX12_roller_0 : decode cX12_roller 0 = .ok (.iload_n 1, 1) := by decide +kernel
theorem dX12_roller_1 : decode cX12_roller 1 = .ok (.i2l, 1) := by decide +kernel
theorem dX12_roller_2 : decode cX12_roller 2 = .ok (.lconst 0, 1) := by decide +kernel
theorem dX12_roller_3 : decode cX12_roller 3 = .ok (.aload_n 0, 1) := by decide +kernel
theorem dX12_roller_4 : decode cX12_roller 4 = .ok (.getfield 69, 3) := by decide +kernel
theorem dX12_roller_7 : decode cX12_roller 7 = .ok (.i2l, 1) := by decide +kernel
theorem dX12_roller_8 : decode cX12_roller 8 = .ok (.invokestatic 118, 3) := by decide +kernel
theorem dX12_roller_11 : decode cX12_roller 11 = .ok (.ifCond .eq 15, 3) := by decide +kernel
theorem dX12_roller_14 : decode cX12_roller 14 = .ok (.iload_n 2, 1) := by decide +kernel
theorem dX12_roller_15 : decode cX12_roller 15 = .ok (.i2l, 1) := by decide +kernel
theorem dX12_roller_16 : decode cX12_roller 16 = .ok (.lconst 0, 1) := by decide +kernel
theorem dX12_roller_17 : decode cX12_roller 17 = .ok (.ldc2_w 236, 3) := by decide +kernel
theorem dX12_roller_20 : decode cX12_roller 20 = .ok (.invokestatic 118, 3) := by decide +kernel
theorem dX12_roller_23 : decode cX12_roller 23 = .ok (.ifCond .ne 7, 3) := by decide +kernel
theorem dX12_roller_26 : decode cX12_roller 26 = .ok (.invokestatic 232, 3) := by decide +kernel
theorem dX12_roller_29 : decode cX12_roller 29 = .ok (.lreturn, 1) := by decide +kernel
theorem dX12_roller_30 : decode cX12_roller 30 = .ok (.iload_n 2, 1) := by decide +kernel
theorem dX12_roller_31 : decode cX12_roller 31 = .ok (.iconst 1, 1) := by decide +kernel
theorem dX12_roller_32 : decode cX12_roller 32 = .ok (.if_icmp .ne 9, 3) := by decide +kernel
theorem dX12_roller_35 : decode cX12_roller 35 = .ok (.aload_n 0, 1) := by decide +kernel
theorem dX12_roller_36 : decode cX12_roller 36 = .ok (.iload_n 1, 1) := by decide +kernel
theorem dX12_roller_37 : decode cX12_roller 37 = .ok (.invokevirtual 180, 3) := by decide +kernel
theorem dX12_roller_40 : decode cX12_roller 40 = .ok (.lreturn, 1) := by decide +kernel
theorem dX12_roller_41 : decode cX12_roller 41 = .ok (.iload_n 1, 1) := by decide +kernel
theorem dX12_roller_42 : decode cX12_roller 42 = .ok (.ifCond .ne 19, 3) := by decide +kernel
theorem dX12_roller_45 : decode cX12_roller 45 = .ok (.iload_n 2, 1) := by decide +kernel
theorem dX12_roller_46 : decode cX12_roller 46 = .ok (.ifCond .ne 13, 3) := by decide +kernel
theorem dX12_roller_49 : decode cX12_roller 49 = .ok (.aload_n 0, 1) := by decide +kernel
theorem dX12_roller_50 : decode cX12_roller 50 = .ok (.getfield 41, 3) := by decide +kernel
theorem dX12_roller_53 : decode cX12_roller 53 = .ok (.bipush 61, 2) := by decide +kernel
theorem dX12_roller_55 : decode cX12_roller 55 = .ok (.laload, 1) := by decide +kernel
theorem dX12_roller_56 : decode cX12_roller 56 = .ok (.goto 4, 3) := by decide +kernel
theorem dX12_roller_59 : decode cX12_roller 59 = .ok (.lconst 0, 1) := by decide +kernel
theorem dX12_roller_60 : decode cX12_roller 60 = .ok (.lreturn, 1) := by decide +kernel
theorem dX12_roller_61 : decode cX12_roller 61 = .ok (.iload_n 2, 1) := by decide +kernel
theorem dX12_roller_62 : decode cX12_roller 62 = .ok (.ifCond .ne 20, 3) := by decide +kernel
theorem dX12_roller_65 : decode cX12_roller 65 = .ok (.aload_n 0, 1) := by decide +kernel
theorem dX12_roller_66 : decode cX12_roller 66 = .ok (.getfield 41, 3) := by decide +kernel
theorem dX12_roller_69 : decode cX12_roller 69 = .ok (.bipush 8, 2) := by decide +kernel
theorem dX12_roller_71 : decode cX12_roller 71 = .ok (.iload_n 1, 1) := by decide +kernel
theorem dX12_roller_72 : decode cX12_roller 72 = .ok (.imul, 1) := by decide +kernel
theorem dX12_roller_73 : decode cX12_roller 73 = .ok (.bipush 8, 2) := by decide +kernel
theorem dX12_roller_75 : decode cX12_roller 75 = .ok (.isub, 1) := by decide +kernel
theorem dX12_roller_76 : decode cX12_roller 76 = .ok (.iconst 4, 1) := by decide +kernel
theorem dX12_roller_77 : decode cX12_roller 77 = .ok (.iadd, 1) := by decide +kernel
theorem dX12_roller_78 : decode cX12_roller 78 = .ok (.laload, 1) := by decide +kernel
theorem dX12_roller_79 : decode cX12_roller 79 = .ok (.goto 33, 3) := by decide +kernel
theorem dX12_roller_82 : decode cX12_roller 82 = .ok (.iload_n 2, 1) := by decide +kernel
theorem dX12_roller_83 : decode cX12_roller 83 = .ok (.iconst 2, 1) := by decide +kernel
theorem dX12_roller_84 : decode cX12_roller 84 = .ok (.if_icmp .ne 14, 3) := by decide +kernel
theorem dX12_roller_87 : decode cX12_roller 87 = .ok (.aload_n 0, 1) := by decide +kernel
theorem dX12_roller_88 : decode cX12_roller 88 = .ok (.getfield 38, 3) := by decide +kernel
theorem dX12_roller_91 : decode cX12_roller 91 = .ok (.iload_n 1, 1) := by decide +kernel
theorem dX12_roller_92 : decode cX12_roller 92 = .ok (.iconst 1, 1) := by decide +kernel
theorem dX12_roller_93 : decode cX12_roller 93 = .ok (.isub, 1) := by decide +kernel
theorem dX12_roller_94 : decode cX12_roller 94 = .ok (.laload, 1) := by decide +kernel
theorem dX12_roller_95 : decode cX12_roller 95 = .ok (.goto 17, 3) := by decide +kernel
theorem dX12_roller_98 : decode cX12_roller 98 = .ok (.aload_n 0, 1) := by decide +kernel
theorem dX12_roller_99 : decode cX12_roller 99 = .ok (.getfield 41, 3) := by decide +kernel
theorem dX12_roller_102 : decode cX12_roller 102 = .ok (.bipush 8, 2) := by decide +kernel
theorem dX12_roller_104 : decode cX12_roller 104 = .ok (.iload_n 1, 1) := by decide +kernel
theorem dX12_roller_105 : decode cX12_roller 105 = .ok (.imul, 1) := by decide +kernel
theorem dX12_roller_106 : decode cX12_roller 106 = .ok (.bipush 8, 2) := by decide +kernel
theorem dX12_roller_108 : decode cX12_roller 108 = .ok (.isub, 1) := by decide +kernel
theorem dX12_roller_109 : decode cX12_roller 109 = .ok (.iconst 3, 1) := by decide +kernel
theorem dX12_roller_110 : decode cX12_roller 110 = .ok (.iadd, 1) := by decide +kernel
theorem dX12_roller_111 : decode cX12_roller 111 = .ok (.laload, 1) := by decide +kernel
theorem dX12_roller_112 : decode cX12_roller 112 = .ok (.lreturn, 1) := by decide +kernel
theorem dX12_web_0 : decode cX12_web 0 = .ok (.iload_n 1, 1) := by decide +kernel
theorem dX12_web_1 : decode cX12_web 1 = .ok (.i2l, 1) := by decide +kernel
theorem dX12_web_2 : decode cX12_web 2 = .ok (.lconst 0, 1) := by decide +kernel
theorem dX12_web_3 : decode cX12_web 3 = .ok (.ldc2_w 129, 3) := by decide +kernel
theorem dX12_web_6 : decode cX12_web 6 = .ok (.invokestatic 118, 3) := by decide +kernel
theorem dX12_web_9 : decode cX12_web 9 = .ok (.ifCond .ne 7, 3) := by decide +kernel
theorem dX12_web_12 : decode cX12_web 12 = .ok (.invokestatic 232, 3) := by decide +kernel
theorem dX12_web_15 : decode cX12_web 15 = .ok (.lreturn, 1) := by decide +kernel
theorem dX12_web_16 : decode cX12_web 16 = .ok (.lconst 0, 1) := by decide +kernel
theorem dX12_web_17 : decode cX12_web 17 = .ok (.lstore_n 2, 1) := by decide +kernel
theorem dX12_web_18 : decode cX12_web 18 = .ok (.iconst 0, 1) := by decide +kernel
theorem dX12_web_19 : decode cX12_web 19 = .ok (.istore 4, 2) := by decide +kernel
theorem dX12_web_21 : decode cX12_web 21 = .ok (.iload 4, 2) := by decide +kernel
theorem dX12_web_23 : decode cX12_web 23 = .ok (.i2l, 1) := by decide +kernel
theorem dX12_web_24 : decode cX12_web 24 = .ok (.aload_n 0, 1) := by decide +kernel
theorem dX12_web_25 : decode cX12_web 25 = .ok (.getfield 41, 3) := by decide +kernel
theorem dX12_web_28 : decode cX12_web 28 = .ok (.bipush 52, 2) := by decide +kernel
theorem dX12_web_30 : decode cX12_web 30 = .ok (.laload, 1) := by decide +kernel
theorem dX12_web_31 : decode cX12_web 31 = .ok (.lcmp, 1) := by decide +kernel
theorem dX12_web_32 : decode cX12_web 32 = .ok (.ifCond .ge 22, 3) := by decide +kernel
theorem dX12_web_35 : decode cX12_web 35 = .ok (.lload_n 2, 1) := by decide +kernel
theorem dX12_web_36 : decode cX12_web 36 = .ok (.aload_n 0, 1) := by decide +kernel
theorem dX12_web_37 : decode cX12_web 37 = .ok (.getfield 41, 3) := by decide +kernel
theorem dX12_web_40 : decode cX12_web 40 = .ok (.bipush 53, 2) := by decide +kernel
theorem dX12_web_42 : decode cX12_web 42 = .ok (.iload 4, 2) := by decide +kernel
theorem dX12_web_44 : decode cX12_web 44 = .ok (.iadd, 1) := by decide +kernel
theorem dX12_web_45 : decode cX12_web 45 = .ok (.laload, 1) := by decide +kernel
theorem dX12_web_46 : decode cX12_web 46 = .ok (.ladd, 1) := by decide +kernel
theorem dX12_web_47 : decode cX12_web 47 = .ok (.lstore_n 2, 1) := by decide +kernel
theorem dX12_web_48 : decode cX12_web 48 = .ok (.iinc 4 1, 3) := by decide +kernel
theorem dX12_web_51 : decode cX12_web 51 = .ok (.goto (-30), 3) := by decide +kernel
theorem dX12_web_54 : decode cX12_web 54 = .ok (.iload_n 1, 1) := by decide +kernel
theorem dX12_web_55 : decode cX12_web 55 = .ok (.ifCond .ne 13, 3) := by decide +kernel
theorem dX12_web_58 : decode cX12_web 58 = .ok (.aload_n 0, 1) := by decide +kernel
theorem dX12_web_59 : decode cX12_web 59 = .ok (.getfield 41, 3) := by decide +kernel
theorem dX12_web_62 : decode cX12_web 62 = .ok (.bipush 51, 2) := by decide +kernel
theorem dX12_web_64 : decode cX12_web 64 = .ok (.laload, 1) := by decide +kernel
theorem dX12_web_65 : decode cX12_web 65 = .ok (.goto 19, 3) := by decide +kernel
theorem dX12_web_68 : decode cX12_web 68 = .ok (.iload_n 1, 1) := by decide +kernel
theorem dX12_web_69 : decode cX12_web 69 = .ok (.iconst 1, 1) := by decide +kernel
theorem dX12_web_70 : decode cX12_web 70 = .ok (.if_icmp .ne 7, 3) := by decide +kernel
theorem dX12_web_73 : decode cX12_web 73 = .ok (.lload_n 2, 1) := by decide +kernel
theorem dX12_web_74 : decode cX12_web 74 = .ok (.goto 10, 3) := by decide +kernel
theorem dX12_web_77 : decode cX12_web 77 = .ok (.aload_n 0, 1) := by decide +kernel
theorem dX12_web_78 : decode cX12_web 78 = .ok (.getfield 41, 3) := by decide +kernel
theorem dX12_web_81 : decode cX12_web 81 = .ok (.bipush 57, 2) := by decide +kernel
theorem dX12_web_83 : decode cX12_web 83 = .ok (.laload, 1) := by decide +kernel
theorem dX12_web_84 : decode cX12_web 84 = .ok (.lreturn, 1) := by decide +kernel
theorem dX12_markDistance_0 : decode cX12_markDistance 0 = .ok (.iload_n 1, 1) := by decide +kernel
theorem dX12_markDistance_1 : decode cX12_markDistance 1 = .ok (.i2l, 1) := by decide +kernel
theorem dX12_markDistance_2 : decode cX12_markDistance 2 = .ok (.lconst 0, 1) := by decide +kernel
theorem dX12_markDistance_3 : decode cX12_markDistance 3 = .ok (.aload_n 0, 1) := by decide +kernel
theorem dX12_markDistance_4 : decode cX12_markDistance 4 = .ok (.getfield 41, 3) := by decide +kernel
theorem dX12_markDistance_7 : decode cX12_markDistance 7 = .ok (.bipush 62, 2) := by decide +kernel
theorem dX12_markDistance_9 : decode cX12_markDistance 9 = .ok (.laload, 1) := by decide +kernel
theorem dX12_markDistance_10 : decode cX12_markDistance 10 = .ok (.lconst 1, 1) := by decide +kernel
theorem dX12_markDistance_11 : decode cX12_markDistance 11 = .ok (.lsub, 1) := by decide +kernel
theorem dX12_markDistance_12 : decode cX12_markDistance 12 = .ok (.invokestatic 118, 3) := by decide +kernel
theorem dX12_markDistance_15 : decode cX12_markDistance 15 = .ok (.ifCond .eq 29, 3) := by decide +kernel
theorem dX12_markDistance_18 : decode cX12_markDistance 18 = .ok (.aload_n 0, 1) := by decide +kernel
theorem dX12_markDistance_19 : decode cX12_markDistance 19 = .ok (.aload_n 0, 1) := by decide +kernel
theorem dX12_markDistance_20 : decode cX12_markDistance 20 = .ok (.getfield 69, 3) := by decide +kernel
theorem dX12_markDistance_23 : decode cX12_markDistance 23 = .ok (.invokevirtual 165, 3) := by decide +kernel
theorem dX12_markDistance_26 : decode cX12_markDistance 26 = .ok (.aload_n 0, 1) := by decide +kernel
theorem dX12_markDistance_27 : decode cX12_markDistance 27 = .ok (.getfield 41, 3) := by decide +kernel
theorem dX12_markDistance_30 : decode cX12_markDistance 30 = .ok (.bipush 61, 2) := by decide +kernel
theorem dX12_markDistance_32 : decode cX12_markDistance 32 = .ok (.laload, 1) := by decide +kernel
theorem dX12_markDistance_33 : decode cX12_markDistance 33 = .ok (.lsub, 1) := by decide +kernel
theorem dX12_markDistance_34 : decode cX12_markDistance 34 = .ok (.aload_n 0, 1) := by decide +kernel
theorem dX12_markDistance_35 : decode cX12_markDistance 35 = .ok (.getfield 53, 3) := by decide +kernel
theorem dX12_markDistance_38 : decode cX12_markDistance 38 = .ok (.iload_n 1, 1) := by decide +kernel
theorem dX12_markDistance_39 : decode cX12_markDistance 39 = .ok (.laload, 1) := by decide +kernel
theorem dX12_markDistance_40 : decode cX12_markDistance 40 = .ok (.ladd, 1) := by decide +kernel
theorem dX12_markDistance_41 : decode cX12_markDistance 41 = .ok (.goto 6, 3) := by decide +kernel
theorem dX12_markDistance_44 : decode cX12_markDistance 44 = .ok (.invokestatic 232, 3) := by decide +kernel
theorem dX12_markDistance_47 : decode cX12_markDistance 47 = .ok (.lreturn, 1) := by decide +kernel
theorem dX12_slackSpans_0 : decode cX12_slackSpans 0 = .ok (.iconst 0, 1) := by decide +kernel
theorem dX12_slackSpans_1 : decode cX12_slackSpans 1 = .ok (.istore_n 1, 1) := by decide +kernel
theorem dX12_slackSpans_2 : decode cX12_slackSpans 2 = .ok (.iconst 0, 1) := by decide +kernel
theorem dX12_slackSpans_3 : decode cX12_slackSpans 3 = .ok (.istore_n 2, 1) := by decide +kernel
theorem dX12_slackSpans_4 : decode cX12_slackSpans 4 = .ok (.iload_n 2, 1) := by decide +kernel
theorem dX12_slackSpans_5 : decode cX12_slackSpans 5 = .ok (.aload_n 0, 1) := by decide +kernel
theorem dX12_slackSpans_6 : decode cX12_slackSpans 6 = .ok (.getfield 69, 3) := by decide +kernel
theorem dX12_slackSpans_9 : decode cX12_slackSpans 9 = .ok (.if_icmp .ge 37, 3) := by decide +kernel
theorem dX12_slackSpans_12 : decode cX12_slackSpans 12 = .ok (.iload_n 1, 1) := by decide +kernel
theorem dX12_slackSpans_13 : decode cX12_slackSpans 13 = .ok (.aload_n 0, 1) := by decide +kernel
theorem dX12_slackSpans_14 : decode cX12_slackSpans 14 = .ok (.getfield 41, 3) := by decide +kernel
theorem dX12_slackSpans_17 : decode cX12_slackSpans 17 = .ok (.bipush 8, 2) := by decide +kernel
theorem dX12_slackSpans_19 : decode cX12_slackSpans 19 = .ok (.iload_n 2, 1) := by decide +kernel
theorem dX12_slackSpans_20 : decode cX12_slackSpans 20 = .ok (.imul, 1) := by decide +kernel
theorem dX12_slackSpans_21 : decode cX12_slackSpans 21 = .ok (.iconst 5, 1) := by decide +kernel
theorem dX12_slackSpans_22 : decode cX12_slackSpans 22 = .ok (.iadd, 1) := by decide +kernel
theorem dX12_slackSpans_23 : decode cX12_slackSpans 23 = .ok (.laload, 1) := by decide +kernel
theorem dX12_slackSpans_24 : decode cX12_slackSpans 24 = .ok (.ldc2_w 197, 3) := by decide +kernel
theorem dX12_slackSpans_27 : decode cX12_slackSpans 27 = .ok (.lcmp, 1) := by decide +kernel
theorem dX12_slackSpans_28 : decode cX12_slackSpans 28 = .ok (.ifCond .lt 9, 3) := by decide +kernel
theorem dX12_slackSpans_31 : decode cX12_slackSpans 31 = .ok (.iconst 1, 1) := by decide +kernel
theorem dX12_slackSpans_32 : decode cX12_slackSpans 32 = .ok (.iload_n 2, 1) := by decide +kernel
theorem dX12_slackSpans_33 : decode cX12_slackSpans 33 = .ok (.ishl, 1) := by decide +kernel
theorem dX12_slackSpans_34 : decode cX12_slackSpans 34 = .ok (.goto 4, 3) := by decide +kernel
theorem dX12_slackSpans_37 : decode cX12_slackSpans 37 = .ok (.iconst 0, 1) := by decide +kernel
theorem dX12_slackSpans_38 : decode cX12_slackSpans 38 = .ok (.ior, 1) := by decide +kernel
theorem dX12_slackSpans_39 : decode cX12_slackSpans 39 = .ok (.istore_n 1, 1) := by decide +kernel
theorem dX12_slackSpans_40 : decode cX12_slackSpans 40 = .ok (.iinc 2 1, 3) := by decide +kernel
theorem dX12_slackSpans_43 : decode cX12_slackSpans 43 = .ok (.goto (-39), 3) := by decide +kernel
theorem dX12_slackSpans_46 : decode cX12_slackSpans 46 = .ok (.iload_n 1, 1) := by decide +kernel
theorem dX12_slackSpans_47 : decode cX12_slackSpans 47 = .ok (.ireturn, 1) := by decide +kernel
theorem dX12_event_0 : decode cX12_event 0 = .ok (.iload_n 1, 1) := by decide +kernel
theorem dX12_event_1 : decode cX12_event 1 = .ok (.ifCond .lt 15, 3) := by decide +kernel
theorem dX12_event_4 : decode cX12_event 4 = .ok (.iload_n 2, 1) := by decide +kernel
theorem dX12_event_5 : decode cX12_event 5 = .ok (.i2l, 1) := by decide +kernel
theorem dX12_event_6 : decode cX12_event 6 = .ok (.lconst 0, 1) := by decide +kernel
theorem dX12_event_7 : decode cX12_event 7 = .ok (.ldc2_w 129, 3) := by decide +kernel
theorem dX12_event_10 : decode cX12_event 10 = .ok (.invokestatic 118, 3) := by decide +kernel
theorem dX12_event_13 : decode cX12_event 13 = .ok (.ifCond .ne 6, 3) := by decide +kernel
theorem dX12_event_16 : decode cX12_event 16 = .ok (.ldc 126, 2) := by decide +kernel
theorem dX12_event_18 : decode cX12_event 18 = .ok (.ireturn, 1) := by decide +kernel
theorem dX12_event_19 : decode cX12_event 19 = .ok (.iload_n 1, 1) := by decide +kernel
theorem dX12_event_20 : decode cX12_event 20 = .ok (.i2l, 1) := by decide +kernel
theorem dX12_event_21 : decode cX12_event 21 = .ok (.aload_n 0, 1) := by decide +kernel
theorem dX12_event_22 : decode cX12_event 22 = .ok (.getfield 41, 3) := by decide +kernel
theorem dX12_event_25 : decode cX12_event 25 = .ok (.bipush 63, 2) := by decide +kernel
theorem dX12_event_27 : decode cX12_event 27 = .ok (.laload, 1) := by decide +kernel
theorem dX12_event_28 : decode cX12_event 28 = .ok (.lcmp, 1) := by decide +kernel
theorem dX12_event_29 : decode cX12_event 29 = .ok (.ifCond .ge 17, 3) := by decide +kernel
theorem dX12_event_32 : decode cX12_event 32 = .ok (.aload_n 0, 1) := by decide +kernel
theorem dX12_event_33 : decode cX12_event 33 = .ok (.getfield 47, 3) := by decide +kernel
theorem dX12_event_36 : decode cX12_event 36 = .ok (.iconst 3, 1) := by decide +kernel
theorem dX12_event_37 : decode cX12_event 37 = .ok (.iload_n 1, 1) := by decide +kernel
theorem dX12_event_38 : decode cX12_event 38 = .ok (.imul, 1) := by decide +kernel
theorem dX12_event_39 : decode cX12_event 39 = .ok (.iload_n 2, 1) := by decide +kernel
theorem dX12_event_40 : decode cX12_event 40 = .ok (.iadd, 1) := by decide +kernel
theorem dX12_event_41 : decode cX12_event 41 = .ok (.laload, 1) := by decide +kernel
theorem dX12_event_42 : decode cX12_event 42 = .ok (.l2i, 1) := by decide +kernel
theorem dX12_event_43 : decode cX12_event 43 = .ok (.goto 5, 3) := by decide +kernel
theorem dX12_event_46 : decode cX12_event 46 = .ok (.ldc 229, 2) := by decide +kernel
theorem dX12_event_48 : decode cX12_event 48 = .ok (.ireturn, 1) := by decide +kernel
theorem dX12_steady_0 : decode cX12_steady 0 = .ok (.aload_n 0, 1) := by decide +kernel
theorem dX12_steady_1 : decode cX12_steady 1 = .ok (.iload_n 1, 1) := by decide +kernel
theorem dX12_steady_2 : decode cX12_steady 2 = .ok (.iconst 1, 1) := by decide +kernel
theorem dX12_steady_3 : decode cX12_steady 3 = .ok (.iadd, 1) := by decide +kernel
theorem dX12_steady_4 : decode cX12_steady 4 = .ok (.aload_n 0, 1) := by decide +kernel
theorem dX12_steady_5 : decode cX12_steady 5 = .ok (.getfield 90, 3) := by decide +kernel
theorem dX12_steady_8 : decode cX12_steady 8 = .ok (.invokevirtual 161, 3) := by decide +kernel
theorem dX12_steady_11 : decode cX12_steady 11 = .ok (.lstore_n 2, 1) := by decide +kernel
theorem dX12_steady_12 : decode cX12_steady 12 = .ok (.aload_n 0, 1) := by decide +kernel
theorem dX12_steady_13 : decode cX12_steady 13 = .ok (.getfield 75, 3) := by decide +kernel
theorem dX12_steady_16 : decode cX12_steady 16 = .ok (.aload_n 0, 1) := by decide +kernel
theorem dX12_steady_17 : decode cX12_steady 17 = .ok (.getfield 79, 3) := by decide +kernel
theorem dX12_steady_20 : decode cX12_steady 20 = .ok (.ladd, 1) := by decide +kernel
theorem dX12_steady_21 : decode cX12_steady 21 = .ok (.lload_n 2, 1) := by decide +kernel
theorem dX12_steady_22 : decode cX12_steady 22 = .ok (.lmul, 1) := by decide +kernel
theorem dX12_steady_23 : decode cX12_steady 23 = .ok (.aload_n 0, 1) := by decide +kernel
theorem dX12_steady_24 : decode cX12_steady 24 = .ok (.getfield 75, 3) := by decide +kernel
theorem dX12_steady_27 : decode cX12_steady 27 = .ok (.aload_n 0, 1) := by decide +kernel
theorem dX12_steady_28 : decode cX12_steady 28 = .ok (.getfield 90, 3) := by decide +kernel
theorem dX12_steady_31 : decode cX12_steady 31 = .ok (.lmul, 1) := by decide +kernel
theorem dX12_steady_32 : decode cX12_steady 32 = .ok (.lsub, 1) := by decide +kernel
theorem dX12_steady_33 : decode cX12_steady 33 = .ok (.aload_n 0, 1) := by decide +kernel
theorem dX12_steady_34 : decode cX12_steady 34 = .ok (.getfield 90, 3) := by decide +kernel
theorem dX12_steady_37 : decode cX12_steady 37 = .ok (.invokestatic 157, 3) := by decide +kernel
theorem dX12_steady_40 : decode cX12_steady 40 = .ok (.lstore 4, 2) := by decide +kernel
theorem dX12_steady_42 : decode cX12_steady 42 = .ok (.lload 4, 2) := by decide +kernel
theorem dX12_steady_44 : decode cX12_steady 44 = .ok (.lconst 0, 1) := by decide +kernel
theorem dX12_steady_45 : decode cX12_steady 45 = .ok (.lcmp, 1) := by decide +kernel
theorem dX12_steady_46 : decode cX12_steady 46 = .ok (.ifCond .ge 7, 3) := by decide +kernel
theorem dX12_steady_49 : decode cX12_steady 49 = .ok (.lconst 0, 1) := by decide +kernel
theorem dX12_steady_50 : decode cX12_steady 50 = .ok (.goto 5, 3) := by decide +kernel
theorem dX12_steady_53 : decode cX12_steady 53 = .ok (.lload 4, 2) := by decide +kernel
theorem dX12_steady_55 : decode cX12_steady 55 = .ok (.lreturn, 1) := by decide +kernel
theorem dX12_steadyTension_0 : decode cX12_steadyTension 0 = .ok (.aload_n 0, 1) := by decide +kernel
theorem dX12_steadyTension_1 : decode cX12_steadyTension 1 = .ok (.iload_n 1, 1) := by decide +kernel
theorem dX12_steadyTension_2 : decode cX12_steadyTension 2 = .ok (.invokevirtual 135, 3) := by decide +kernel
theorem dX12_steadyTension_5 : decode cX12_steadyTension 5 = .ok (.ifCond .eq 6, 3) := by decide +kernel
theorem dX12_steadyTension_8 : decode cX12_steadyTension 8 = .ok (.ldc 138, 2) := by decide +kernel
theorem dX12_steadyTension_10 : decode cX12_steadyTension 10 = .ok (.ireturn, 1) := by decide +kernel
theorem dX12_steadyTension_11 : decode cX12_steadyTension 11 = .ok (.aload_n 0, 1) := by decide +kernel
theorem dX12_steadyTension_12 : decode cX12_steadyTension 12 = .ok (.getfield 90, 3) := by decide +kernel
theorem dX12_steadyTension_15 : decode cX12_steadyTension 15 = .ok (.lconst 0, 1) := by decide +kernel
theorem dX12_steadyTension_16 : decode cX12_steadyTension 16 = .ok (.lcmp, 1) := by decide +kernel
theorem dX12_steadyTension_17 : decode cX12_steadyTension 17 = .ok (.ifCond .ne 8, 3) := by decide +kernel
theorem dX12_steadyTension_20 : decode cX12_steadyTension 20 = .ok (.ldc 229, 2) := by decide +kernel
theorem dX12_steadyTension_22 : decode cX12_steadyTension 22 = .ok (.goto 9, 3) := by decide +kernel
theorem dX12_steadyTension_25 : decode cX12_steadyTension 25 = .ok (.aload_n 0, 1) := by decide +kernel
theorem dX12_steadyTension_26 : decode cX12_steadyTension 26 = .ok (.iload_n 1, 1) := by decide +kernel
theorem dX12_steadyTension_27 : decode cX12_steadyTension 27 = .ok (.invokevirtual 238, 3) := by decide +kernel
theorem dX12_steadyTension_30 : decode cX12_steadyTension 30 = .ok (.l2i, 1) := by decide +kernel
theorem dX12_steadyTension_31 : decode cX12_steadyTension 31 = .ok (.ireturn, 1) := by decide +kernel
theorem dX12_bestDraw_0 : decode cX12_bestDraw 0 = .ok (.aload_n 0, 1) := by decide +kernel
theorem dX12_bestDraw_1 : decode cX12_bestDraw 1 = .ok (.iload_n 1, 1) := by decide +kernel
theorem dX12_bestDraw_2 : decode cX12_bestDraw 2 = .ok (.invokevirtual 135, 3) := by decide +kernel
theorem dX12_bestDraw_5 : decode cX12_bestDraw 5 = .ok (.ifCond .eq 6, 3) := by decide +kernel
theorem dX12_bestDraw_8 : decode cX12_bestDraw 8 = .ok (.ldc 138, 2) := by decide +kernel
theorem dX12_bestDraw_10 : decode cX12_bestDraw 10 = .ok (.ireturn, 1) := by decide +kernel
theorem dX12_bestDraw_11 : decode cX12_bestDraw 11 = .ok (.iload_n 2, 1) := by decide +kernel
theorem dX12_bestDraw_12 : decode cX12_bestDraw 12 = .ok (.i2l, 1) := by decide +kernel
theorem dX12_bestDraw_13 : decode cX12_bestDraw 13 = .ok (.lconst 0, 1) := by decide +kernel
theorem dX12_bestDraw_14 : decode cX12_bestDraw 14 = .ok (.ldc2_w 73, 3) := by decide +kernel
theorem dX12_bestDraw_17 : decode cX12_bestDraw 17 = .ok (.invokestatic 118, 3) := by decide +kernel
theorem dX12_bestDraw_20 : decode cX12_bestDraw 20 = .ok (.ifCond .ne 6, 3) := by decide +kernel
theorem dX12_bestDraw_23 : decode cX12_bestDraw 23 = .ok (.ldc 126, 2) := by decide +kernel
theorem dX12_bestDraw_25 : decode cX12_bestDraw 25 = .ok (.ireturn, 1) := by decide +kernel
theorem dX12_bestDraw_26 : decode cX12_bestDraw 26 = .ok (.aload_n 0, 1) := by decide +kernel
theorem dX12_bestDraw_27 : decode cX12_bestDraw 27 = .ok (.getfield 90, 3) := by decide +kernel
theorem dX12_bestDraw_30 : decode cX12_bestDraw 30 = .ok (.lconst 0, 1) := by decide +kernel
theorem dX12_bestDraw_31 : decode cX12_bestDraw 31 = .ok (.lcmp, 1) := by decide +kernel
theorem dX12_bestDraw_32 : decode cX12_bestDraw 32 = .ok (.ifCond .ne 6, 3) := by decide +kernel
theorem dX12_bestDraw_35 : decode cX12_bestDraw 35 = .ok (.ldc 229, 2) := by decide +kernel
theorem dX12_bestDraw_37 : decode cX12_bestDraw 37 = .ok (.ireturn, 1) := by decide +kernel
theorem dX12_bestDraw_38 : decode cX12_bestDraw 38 = .ok (.aload_n 0, 1) := by decide +kernel
theorem dX12_bestDraw_39 : decode cX12_bestDraw 39 = .ok (.getfield 38, 3) := by decide +kernel
theorem dX12_bestDraw_42 : decode cX12_bestDraw 42 = .ok (.iload_n 1, 1) := by decide +kernel
theorem dX12_bestDraw_43 : decode cX12_bestDraw 43 = .ok (.laload, 1) := by decide +kernel
theorem dX12_bestDraw_44 : decode cX12_bestDraw 44 = .ok (.lstore_n 3, 1) := by decide +kernel
theorem dX12_bestDraw_45 : decode cX12_bestDraw 45 = .ok (.iconst 0, 1) := by decide +kernel
theorem dX12_bestDraw_46 : decode cX12_bestDraw 46 = .ok (.istore 5, 2) := by decide +kernel
theorem dX12_bestDraw_48 : decode cX12_bestDraw 48 = .ok (.ldc2_w 241, 3) := by decide +kernel
theorem dX12_bestDraw_51 : decode cX12_bestDraw 51 = .ok (.lstore 6, 2) := by decide +kernel
theorem dX12_bestDraw_53 : decode cX12_bestDraw 53 = .ok (.sipush (-20000), 3) := by decide +kernel
theorem dX12_bestDraw_56 : decode cX12_bestDraw 56 = .ok (.istore 8, 2) := by decide +kernel
theorem dX12_bestDraw_58 : decode cX12_bestDraw 58 = .ok (.iload 8, 2) := by decide +kernel
theorem dX12_bestDraw_60 : decode cX12_bestDraw 60 = .ok (.sipush 20000, 3) := by decide +kernel
theorem dX12_bestDraw_63 : decode cX12_bestDraw 63 = .ok (.if_icmp .gt 93, 3) := by decide +kernel
theorem dX12_bestDraw_66 : decode cX12_bestDraw 66 = .ok (.aload_n 0, 1) := by decide +kernel
theorem dX12_bestDraw_67 : decode cX12_bestDraw 67 = .ok (.getfield 38, 3) := by decide +kernel
theorem dX12_bestDraw_70 : decode cX12_bestDraw 70 = .ok (.iload_n 1, 1) := by decide +kernel
theorem dX12_bestDraw_71 : decode cX12_bestDraw 71 = .ok (.iload 8, 2) := by decide +kernel
theorem dX12_bestDraw_73 : decode cX12_bestDraw 73 = .ok (.i2l, 1) := by decide +kernel
theorem dX12_bestDraw_74 : decode cX12_bestDraw 74 = .ok (.lastore, 1) := by decide +kernel
theorem dX12_bestDraw_75 : decode cX12_bestDraw 75 = .ok (.aload_n 0, 1) := by decide +kernel
theorem dX12_bestDraw_76 : decode cX12_bestDraw 76 = .ok (.iload_n 1, 1) := by decide +kernel
theorem dX12_bestDraw_77 : decode cX12_bestDraw 77 = .ok (.invokevirtual 238, 3) := by decide +kernel
theorem dX12_bestDraw_80 : decode cX12_bestDraw 80 = .ok (.iload_n 2, 1) := by decide +kernel
theorem dX12_bestDraw_81 : decode cX12_bestDraw 81 = .ok (.i2l, 1) := by decide +kernel
theorem dX12_bestDraw_82 : decode cX12_bestDraw 82 = .ok (.lsub, 1) := by decide +kernel
theorem dX12_bestDraw_83 : decode cX12_bestDraw 83 = .ok (.lstore 9, 2) := by decide +kernel
theorem dX12_bestDraw_85 : decode cX12_bestDraw 85 = .ok (.lload 9, 2) := by decide +kernel
theorem dX12_bestDraw_87 : decode cX12_bestDraw 87 = .ok (.lconst 0, 1) := by decide +kernel
theorem dX12_bestDraw_88 : decode cX12_bestDraw 88 = .ok (.lcmp, 1) := by decide +kernel
theorem dX12_bestDraw_89 : decode cX12_bestDraw 89 = .ok (.ifCond .ge 9, 3) := by decide +kernel
theorem dX12_bestDraw_92 : decode cX12_bestDraw 92 = .ok (.lload 9, 2) := by decide +kernel
theorem dX12_bestDraw_94 : decode cX12_bestDraw 94 = .ok (.lneg, 1) := by decide +kernel
theorem dX12_bestDraw_95 : decode cX12_bestDraw 95 = .ok (.goto 5, 3) := by decide +kernel
theorem dX12_bestDraw_98 : decode cX12_bestDraw 98 = .ok (.lload 9, 2) := by decide +kernel
theorem dX12_bestDraw_100 : decode cX12_bestDraw 100 = .ok (.lstore 9, 2) := by decide +kernel
theorem dX12_bestDraw_102 : decode cX12_bestDraw 102 = .ok (.lload 6, 2) := by decide +kernel
theorem dX12_bestDraw_104 : decode cX12_bestDraw 104 = .ok (.lconst 0, 1) := by decide +kernel
theorem dX12_bestDraw_105 : decode cX12_bestDraw 105 = .ok (.lcmp, 1) := by decide +kernel
theorem dX12_bestDraw_106 : decode cX12_bestDraw 106 = .ok (.ifCond .lt 11, 3) := by decide +kernel
theorem dX12_bestDraw_109 : decode cX12_bestDraw 109 = .ok (.lload 9, 2) := by decide +kernel
theorem dX12_bestDraw_111 : decode cX12_bestDraw 111 = .ok (.lload 6, 2) := by decide +kernel
theorem dX12_bestDraw_113 : decode cX12_bestDraw 113 = .ok (.lcmp, 1) := by decide +kernel
theorem dX12_bestDraw_114 : decode cX12_bestDraw 114 = .ok (.ifCond .ge 8, 3) := by decide +kernel
theorem dX12_bestDraw_117 : decode cX12_bestDraw 117 = .ok (.iload 8, 2) := by decide +kernel
theorem dX12_bestDraw_119 : decode cX12_bestDraw 119 = .ok (.goto 5, 3) := by decide +kernel
theorem dX12_bestDraw_122 : decode cX12_bestDraw 122 = .ok (.iload 5, 2) := by decide +kernel
theorem dX12_bestDraw_124 : decode cX12_bestDraw 124 = .ok (.istore 5, 2) := by decide +kernel
theorem dX12_bestDraw_126 : decode cX12_bestDraw 126 = .ok (.lload 6, 2) := by decide +kernel
theorem dX12_bestDraw_128 : decode cX12_bestDraw 128 = .ok (.lconst 0, 1) := by decide +kernel
theorem dX12_bestDraw_129 : decode cX12_bestDraw 129 = .ok (.lcmp, 1) := by decide +kernel
theorem dX12_bestDraw_130 : decode cX12_bestDraw 130 = .ok (.ifCond .lt 11, 3) := by decide +kernel
theorem dX12_bestDraw_133 : decode cX12_bestDraw 133 = .ok (.lload 9, 2) := by decide +kernel
theorem dX12_bestDraw_135 : decode cX12_bestDraw 135 = .ok (.lload 6, 2) := by decide +kernel
theorem dX12_bestDraw_137 : decode cX12_bestDraw 137 = .ok (.lcmp, 1) := by decide +kernel
theorem dX12_bestDraw_138 : decode cX12_bestDraw 138 = .ok (.ifCond .ge 8, 3) := by decide +kernel
theorem dX12_bestDraw_141 : decode cX12_bestDraw 141 = .ok (.lload 9, 2) := by decide +kernel
theorem dX12_bestDraw_143 : decode cX12_bestDraw 143 = .ok (.goto 5, 3) := by decide +kernel
theorem dX12_bestDraw_146 : decode cX12_bestDraw 146 = .ok (.lload 6, 2) := by decide +kernel
theorem dX12_bestDraw_148 : decode cX12_bestDraw 148 = .ok (.lstore 6, 2) := by decide +kernel
theorem dX12_bestDraw_150 : decode cX12_bestDraw 150 = .ok (.iinc 8 50, 3) := by decide +kernel
theorem dX12_bestDraw_153 : decode cX12_bestDraw 153 = .ok (.goto (-95), 3) := by decide +kernel
theorem dX12_bestDraw_156 : decode cX12_bestDraw 156 = .ok (.aload_n 0, 1) := by decide +kernel
theorem dX12_bestDraw_157 : decode cX12_bestDraw 157 = .ok (.getfield 38, 3) := by decide +kernel
theorem dX12_bestDraw_160 : decode cX12_bestDraw 160 = .ok (.iload_n 1, 1) := by decide +kernel
theorem dX12_bestDraw_161 : decode cX12_bestDraw 161 = .ok (.lload_n 3, 1) := by decide +kernel
theorem dX12_bestDraw_162 : decode cX12_bestDraw 162 = .ok (.lastore, 1) := by decide +kernel
theorem dX12_bestDraw_163 : decode cX12_bestDraw 163 = .ok (.iload 5, 2) := by decide +kernel
theorem dX12_bestDraw_165 : decode cX12_bestDraw 165 = .ok (.ireturn, 1) := by decide +kernel
theorem dX12_putAside_0 : decode cX12_putAside 0 = .ok (.iconst 0, 1) := by decide +kernel
theorem dX12_putAside_1 : decode cX12_putAside 1 = .ok (.istore_n 1, 1) := by decide +kernel
theorem dX12_putAside_2 : decode cX12_putAside 2 = .ok (.iload_n 1, 1) := by decide +kernel
theorem dX12_putAside_3 : decode cX12_putAside 3 = .ok (.bipush 64, 2) := by decide +kernel
theorem dX12_putAside_5 : decode cX12_putAside 5 = .ok (.if_icmp .ge 21, 3) := by decide +kernel
theorem dX12_putAside_8 : decode cX12_putAside 8 = .ok (.aload_n 0, 1) := by decide +kernel
theorem dX12_putAside_9 : decode cX12_putAside 9 = .ok (.getfield 44, 3) := by decide +kernel
theorem dX12_putAside_12 : decode cX12_putAside 12 = .ok (.iload_n 1, 1) := by decide +kernel
theorem dX12_putAside_13 : decode cX12_putAside 13 = .ok (.aload_n 0, 1) := by decide +kernel
theorem dX12_putAside_14 : decode cX12_putAside 14 = .ok (.getfield 41, 3) := by decide +kernel
theorem dX12_putAside_17 : decode cX12_putAside 17 = .ok (.iload_n 1, 1) := by decide +kernel
theorem dX12_putAside_18 : decode cX12_putAside 18 = .ok (.laload, 1) := by decide +kernel
theorem dX12_putAside_19 : decode cX12_putAside 19 = .ok (.lastore, 1) := by decide +kernel
theorem dX12_putAside_20 : decode cX12_putAside 20 = .ok (.iinc 1 1, 3) := by decide +kernel
theorem dX12_putAside_23 : decode cX12_putAside 23 = .ok (.goto (-21), 3) := by decide +kernel
theorem dX12_putAside_26 : decode cX12_putAside 26 = .ok (.iconst 0, 1) := by decide +kernel
theorem dX12_putAside_27 : decode cX12_putAside 27 = .ok (.istore_n 1, 1) := by decide +kernel
theorem dX12_putAside_28 : decode cX12_putAside 28 = .ok (.iload_n 1, 1) := by decide +kernel
theorem dX12_putAside_29 : decode cX12_putAside 29 = .ok (.bipush 90, 2) := by decide +kernel
theorem dX12_putAside_31 : decode cX12_putAside 31 = .ok (.if_icmp .ge 21, 3) := by decide +kernel
theorem dX12_putAside_34 : decode cX12_putAside 34 = .ok (.aload_n 0, 1) := by decide +kernel
theorem dX12_putAside_35 : decode cX12_putAside 35 = .ok (.getfield 50, 3) := by decide +kernel
theorem dX12_putAside_38 : decode cX12_putAside 38 = .ok (.iload_n 1, 1) := by decide +kernel
theorem dX12_putAside_39 : decode cX12_putAside 39 = .ok (.aload_n 0, 1) := by decide +kernel
theorem dX12_putAside_40 : decode cX12_putAside 40 = .ok (.getfield 47, 3) := by decide +kernel
theorem dX12_putAside_43 : decode cX12_putAside 43 = .ok (.iload_n 1, 1) := by decide +kernel
theorem dX12_putAside_44 : decode cX12_putAside 44 = .ok (.laload, 1) := by decide +kernel
theorem dX12_putAside_45 : decode cX12_putAside 45 = .ok (.lastore, 1) := by decide +kernel
theorem dX12_putAside_46 : decode cX12_putAside 46 = .ok (.iinc 1 1, 3) := by decide +kernel
theorem dX12_putAside_49 : decode cX12_putAside 49 = .ok (.goto (-21), 3) := by decide +kernel
theorem dX12_putAside_52 : decode cX12_putAside 52 = .ok (.iconst 0, 1) := by decide +kernel
theorem dX12_putAside_53 : decode cX12_putAside 53 = .ok (.istore_n 1, 1) := by decide +kernel
theorem dX12_putAside_54 : decode cX12_putAside 54 = .ok (.iload_n 1, 1) := by decide +kernel
theorem dX12_putAside_55 : decode cX12_putAside 55 = .ok (.sipush 512, 3) := by decide +kernel
theorem dX12_putAside_58 : decode cX12_putAside 58 = .ok (.if_icmp .ge 21, 3) := by decide +kernel
theorem dX12_putAside_61 : decode cX12_putAside 61 = .ok (.aload_n 0, 1) := by decide +kernel
theorem dX12_putAside_62 : decode cX12_putAside 62 = .ok (.getfield 56, 3) := by decide +kernel
theorem dX12_putAside_65 : decode cX12_putAside 65 = .ok (.iload_n 1, 1) := by decide +kernel
theorem dX12_putAside_66 : decode cX12_putAside 66 = .ok (.aload_n 0, 1) := by decide +kernel
theorem dX12_putAside_67 : decode cX12_putAside 67 = .ok (.getfield 53, 3) := by decide +kernel
theorem dX12_putAside_70 : decode cX12_putAside 70 = .ok (.iload_n 1, 1) := by decide +kernel
theorem dX12_putAside_71 : decode cX12_putAside 71 = .ok (.laload, 1) := by decide +kernel
theorem dX12_putAside_72 : decode cX12_putAside 72 = .ok (.lastore, 1) := by decide +kernel
theorem dX12_putAside_73 : decode cX12_putAside 73 = .ok (.iinc 1 1, 3) := by decide +kernel
theorem dX12_putAside_76 : decode cX12_putAside 76 = .ok (.goto (-22), 3) := by decide +kernel
theorem dX12_putAside_79 : decode cX12_putAside 79 = .ok (.return_, 1) := by decide +kernel
theorem dX12_takeBack_0 : decode cX12_takeBack 0 = .ok (.iconst 0, 1) := by decide +kernel
theorem dX12_takeBack_1 : decode cX12_takeBack 1 = .ok (.istore_n 1, 1) := by decide +kernel
theorem dX12_takeBack_2 : decode cX12_takeBack 2 = .ok (.iload_n 1, 1) := by decide +kernel
theorem dX12_takeBack_3 : decode cX12_takeBack 3 = .ok (.bipush 64, 2) := by decide +kernel
theorem dX12_takeBack_5 : decode cX12_takeBack 5 = .ok (.if_icmp .ge 21, 3) := by decide +kernel
theorem dX12_takeBack_8 : decode cX12_takeBack 8 = .ok (.aload_n 0, 1) := by decide +kernel
theorem dX12_takeBack_9 : decode cX12_takeBack 9 = .ok (.getfield 41, 3) := by decide +kernel
theorem dX12_takeBack_12 : decode cX12_takeBack 12 = .ok (.iload_n 1, 1) := by decide +kernel
theorem dX12_takeBack_13 : decode cX12_takeBack 13 = .ok (.aload_n 0, 1) := by decide +kernel
theorem dX12_takeBack_14 : decode cX12_takeBack 14 = .ok (.getfield 44, 3) := by decide +kernel
theorem dX12_takeBack_17 : decode cX12_takeBack 17 = .ok (.iload_n 1, 1) := by decide +kernel
theorem dX12_takeBack_18 : decode cX12_takeBack 18 = .ok (.laload, 1) := by decide +kernel
theorem dX12_takeBack_19 : decode cX12_takeBack 19 = .ok (.lastore, 1) := by decide +kernel
theorem dX12_takeBack_20 : decode cX12_takeBack 20 = .ok (.iinc 1 1, 3) := by decide +kernel
theorem dX12_takeBack_23 : decode cX12_takeBack 23 = .ok (.goto (-21), 3) := by decide +kernel
theorem dX12_takeBack_26 : decode cX12_takeBack 26 = .ok (.iconst 0, 1) := by decide +kernel
theorem dX12_takeBack_27 : decode cX12_takeBack 27 = .ok (.istore_n 1, 1) := by decide +kernel
theorem dX12_takeBack_28 : decode cX12_takeBack 28 = .ok (.iload_n 1, 1) := by decide +kernel
theorem dX12_takeBack_29 : decode cX12_takeBack 29 = .ok (.bipush 90, 2) := by decide +kernel
theorem dX12_takeBack_31 : decode cX12_takeBack 31 = .ok (.if_icmp .ge 21, 3) := by decide +kernel
theorem dX12_takeBack_34 : decode cX12_takeBack 34 = .ok (.aload_n 0, 1) := by decide +kernel
theorem dX12_takeBack_35 : decode cX12_takeBack 35 = .ok (.getfield 47, 3) := by decide +kernel
theorem dX12_takeBack_38 : decode cX12_takeBack 38 = .ok (.iload_n 1, 1) := by decide +kernel
theorem dX12_takeBack_39 : decode cX12_takeBack 39 = .ok (.aload_n 0, 1) := by decide +kernel
theorem dX12_takeBack_40 : decode cX12_takeBack 40 = .ok (.getfield 50, 3) := by decide +kernel
theorem dX12_takeBack_43 : decode cX12_takeBack 43 = .ok (.iload_n 1, 1) := by decide +kernel
theorem dX12_takeBack_44 : decode cX12_takeBack 44 = .ok (.laload, 1) := by decide +kernel
theorem dX12_takeBack_45 : decode cX12_takeBack 45 = .ok (.lastore, 1) := by decide +kernel
theorem dX12_takeBack_46 : decode cX12_takeBack 46 = .ok (.iinc 1 1, 3) := by decide +kernel
theorem dX12_takeBack_49 : decode cX12_takeBack 49 = .ok (.goto (-21), 3) := by decide +kernel
theorem dX12_takeBack_52 : decode cX12_takeBack 52 = .ok (.iconst 0, 1) := by decide +kernel
theorem dX12_takeBack_53 : decode cX12_takeBack 53 = .ok (.istore_n 1, 1) := by decide +kernel
theorem dX12_takeBack_54 : decode cX12_takeBack 54 = .ok (.iload_n 1, 1) := by decide +kernel
theorem dX12_takeBack_55 : decode cX12_takeBack 55 = .ok (.sipush 512, 3) := by decide +kernel
theorem dX12_takeBack_58 : decode cX12_takeBack 58 = .ok (.if_icmp .ge 21, 3) := by decide +kernel
theorem dX12_takeBack_61 : decode cX12_takeBack 61 = .ok (.aload_n 0, 1) := by decide +kernel
theorem dX12_takeBack_62 : decode cX12_takeBack 62 = .ok (.getfield 53, 3) := by decide +kernel
theorem dX12_takeBack_65 : decode cX12_takeBack 65 = .ok (.iload_n 1, 1) := by decide +kernel
theorem dX12_takeBack_66 : decode cX12_takeBack 66 = .ok (.aload_n 0, 1) := by decide +kernel
theorem dX12_takeBack_67 : decode cX12_takeBack 67 = .ok (.getfield 56, 3) := by decide +kernel
theorem dX12_takeBack_70 : decode cX12_takeBack 70 = .ok (.iload_n 1, 1) := by decide +kernel
theorem dX12_takeBack_71 : decode cX12_takeBack 71 = .ok (.laload, 1) := by decide +kernel
theorem dX12_takeBack_72 : decode cX12_takeBack 72 = .ok (.lastore, 1) := by decide +kernel
theorem dX12_takeBack_73 : decode cX12_takeBack 73 = .ok (.iinc 1 1, 3) := by decide +kernel
theorem dX12_takeBack_76 : decode cX12_takeBack 76 = .ok (.goto (-22), 3) := by decide +kernel
theorem dX12_takeBack_79 : decode cX12_takeBack 79 = .ok (.return_, 1) := by decide +kernel
theorem dX12_forecast_0 : decode cX12_forecast 0 = .ok (.aload_n 0, 1) := by decide +kernel
theorem dX12_forecast_1 : decode cX12_forecast 1 = .ok (.iload_n 1, 1) := by decide +kernel
theorem dX12_forecast_2 : decode cX12_forecast 2 = .ok (.invokevirtual 135, 3) := by decide +kernel
theorem dX12_forecast_5 : decode cX12_forecast 5 = .ok (.ifCond .ne 15, 3) := by decide +kernel
theorem dX12_forecast_8 : decode cX12_forecast 8 = .ok (.iload_n 2, 1) := by decide +kernel
theorem dX12_forecast_9 : decode cX12_forecast 9 = .ok (.i2l, 1) := by decide +kernel
theorem dX12_forecast_10 : decode cX12_forecast 10 = .ok (.lconst 1, 1) := by decide +kernel
theorem dX12_forecast_11 : decode cX12_forecast 11 = .ok (.ldc2_w 224, 3) := by decide +kernel
theorem dX12_forecast_14 : decode cX12_forecast 14 = .ok (.invokestatic 118, 3) := by decide +kernel
theorem dX12_forecast_17 : decode cX12_forecast 17 = .ok (.ifCond .ne 7, 3) := by decide +kernel
theorem dX12_forecast_20 : decode cX12_forecast 20 = .ok (.invokestatic 232, 3) := by decide +kernel
theorem dX12_forecast_23 : decode cX12_forecast 23 = .ok (.lreturn, 1) := by decide +kernel
theorem dX12_forecast_24 : decode cX12_forecast 24 = .ok (.aload_n 0, 1) := by decide +kernel
theorem dX12_forecast_25 : decode cX12_forecast 25 = .ok (.getfield 41, 3) := by decide +kernel
theorem dX12_forecast_28 : decode cX12_forecast 28 = .ok (.bipush 49, 2) := by decide +kernel
theorem dX12_forecast_30 : decode cX12_forecast 30 = .ok (.laload, 1) := by decide +kernel
theorem dX12_forecast_31 : decode cX12_forecast 31 = .ok (.lconst 0, 1) := by decide +kernel
theorem dX12_forecast_32 : decode cX12_forecast 32 = .ok (.lcmp, 1) := by decide +kernel
theorem dX12_forecast_33 : decode cX12_forecast 33 = .ok (.ifCond .eq 9, 3) := by decide +kernel
theorem dX12_forecast_36 : decode cX12_forecast 36 = .ok (.aload_n 0, 1) := by decide +kernel
theorem dX12_forecast_37 : decode cX12_forecast 37 = .ok (.iload_n 1, 1) := by decide +kernel
theorem dX12_forecast_38 : decode cX12_forecast 38 = .ok (.invokevirtual 186, 3) := by decide +kernel
theorem dX12_forecast_41 : decode cX12_forecast 41 = .ok (.lreturn, 1) := by decide +kernel
theorem dX12_forecast_42 : decode cX12_forecast 42 = .ok (.aload_n 0, 1) := by decide +kernel
theorem dX12_forecast_43 : decode cX12_forecast 43 = .ok (.invokevirtual 243, 3) := by decide +kernel
theorem dX12_forecast_46 : decode cX12_forecast 46 = .ok (.lconst 0, 1) := by decide +kernel
theorem dX12_forecast_47 : decode cX12_forecast 47 = .ok (.lstore_n 3, 1) := by decide +kernel
theorem dX12_forecast_48 : decode cX12_forecast 48 = .ok (.iconst 0, 1) := by decide +kernel
theorem dX12_forecast_49 : decode cX12_forecast 49 = .ok (.istore 5, 2) := by decide +kernel
theorem dX12_forecast_51 : decode cX12_forecast 51 = .ok (.iload 5, 2) := by decide +kernel
theorem dX12_forecast_53 : decode cX12_forecast 53 = .ok (.iload_n 2, 1) := by decide +kernel
theorem dX12_forecast_54 : decode cX12_forecast 54 = .ok (.if_icmp .ge 46, 3) := by decide +kernel
theorem dX12_forecast_57 : decode cX12_forecast 57 = .ok (.aload_n 0, 1) := by decide +kernel
theorem dX12_forecast_58 : decode cX12_forecast 58 = .ok (.getfield 41, 3) := by decide +kernel
theorem dX12_forecast_61 : decode cX12_forecast 61 = .ok (.bipush 49, 2) := by decide +kernel
theorem dX12_forecast_63 : decode cX12_forecast 63 = .ok (.laload, 1) := by decide +kernel
theorem dX12_forecast_64 : decode cX12_forecast 64 = .ok (.lconst 0, 1) := by decide +kernel
theorem dX12_forecast_65 : decode cX12_forecast 65 = .ok (.lcmp, 1) := by decide +kernel
theorem dX12_forecast_66 : decode cX12_forecast 66 = .ok (.ifCond .ne 34, 3) := by decide +kernel
theorem dX12_forecast_69 : decode cX12_forecast 69 = .ok (.aload_n 0, 1) := by decide +kernel
theorem dX12_forecast_70 : decode cX12_forecast 70 = .ok (.invokevirtual 226, 3) := by decide +kernel
theorem dX12_forecast_73 : decode cX12_forecast 73 = .ok (.aload_n 0, 1) := by decide +kernel
theorem dX12_forecast_74 : decode cX12_forecast 74 = .ok (.iload_n 1, 1) := by decide +kernel
theorem dX12_forecast_75 : decode cX12_forecast 75 = .ok (.invokevirtual 186, 3) := by decide +kernel
theorem dX12_forecast_78 : decode cX12_forecast 78 = .ok (.lstore 6, 2) := by decide +kernel
theorem dX12_forecast_80 : decode cX12_forecast 80 = .ok (.lload 6, 2) := by decide +kernel
theorem dX12_forecast_82 : decode cX12_forecast 82 = .ok (.lload_n 3, 1) := by decide +kernel
theorem dX12_forecast_83 : decode cX12_forecast 83 = .ok (.lcmp, 1) := by decide +kernel
theorem dX12_forecast_84 : decode cX12_forecast 84 = .ok (.ifCond .le 8, 3) := by decide +kernel
theorem dX12_forecast_87 : decode cX12_forecast 87 = .ok (.lload 6, 2) := by decide +kernel
theorem dX12_forecast_89 : decode cX12_forecast 89 = .ok (.goto 4, 3) := by decide +kernel
theorem dX12_forecast_92 : decode cX12_forecast 92 = .ok (.lload_n 3, 1) := by decide +kernel
theorem dX12_forecast_93 : decode cX12_forecast 93 = .ok (.lstore_n 3, 1) := by decide +kernel
theorem dX12_forecast_94 : decode cX12_forecast 94 = .ok (.iinc 5 1, 3) := by decide +kernel
theorem dX12_forecast_97 : decode cX12_forecast 97 = .ok (.goto (-46), 3) := by decide +kernel
theorem dX12_forecast_100 : decode cX12_forecast 100 = .ok (.aload_n 0, 1) := by decide +kernel
theorem dX12_forecast_101 : decode cX12_forecast 101 = .ok (.invokevirtual 246, 3) := by decide +kernel
theorem dX12_forecast_104 : decode cX12_forecast 104 = .ok (.lload_n 3, 1) := by decide +kernel
theorem dX12_forecast_105 : decode cX12_forecast 105 = .ok (.lreturn, 1) := by decide +kernel
theorem dX12_outlook_0 : decode cX12_outlook 0 = .ok (.iload_n 1, 1) := by decide +kernel
theorem dX12_outlook_1 : decode cX12_outlook 1 = .ok (.i2l, 1) := by decide +kernel
theorem dX12_outlook_2 : decode cX12_outlook 2 = .ok (.lconst 1, 1) := by decide +kernel
theorem dX12_outlook_3 : decode cX12_outlook 3 = .ok (.ldc2_w 224, 3) := by decide +kernel
theorem dX12_outlook_6 : decode cX12_outlook 6 = .ok (.invokestatic 118, 3) := by decide +kernel
theorem dX12_outlook_9 : decode cX12_outlook 9 = .ok (.ifCond .ne 6, 3) := by decide +kernel
theorem dX12_outlook_12 : decode cX12_outlook 12 = .ok (.ldc 126, 2) := by decide +kernel
theorem dX12_outlook_14 : decode cX12_outlook 14 = .ok (.ireturn, 1) := by decide +kernel
theorem dX12_outlook_15 : decode cX12_outlook 15 = .ok (.aload_n 0, 1) := by decide +kernel
theorem dX12_outlook_16 : decode cX12_outlook 16 = .ok (.getfield 41, 3) := by decide +kernel
theorem dX12_outlook_19 : decode cX12_outlook 19 = .ok (.bipush 49, 2) := by decide +kernel
theorem dX12_outlook_21 : decode cX12_outlook 21 = .ok (.laload, 1) := by decide +kernel
theorem dX12_outlook_22 : decode cX12_outlook 22 = .ok (.lconst 0, 1) := by decide +kernel
theorem dX12_outlook_23 : decode cX12_outlook 23 = .ok (.lcmp, 1) := by decide +kernel
theorem dX12_outlook_24 : decode cX12_outlook 24 = .ok (.ifCond .eq 12, 3) := by decide +kernel
theorem dX12_outlook_27 : decode cX12_outlook 27 = .ok (.aload_n 0, 1) := by decide +kernel
theorem dX12_outlook_28 : decode cX12_outlook 28 = .ok (.getfield 41, 3) := by decide +kernel
theorem dX12_outlook_31 : decode cX12_outlook 31 = .ok (.bipush 49, 2) := by decide +kernel
theorem dX12_outlook_33 : decode cX12_outlook 33 = .ok (.laload, 1) := by decide +kernel
theorem dX12_outlook_34 : decode cX12_outlook 34 = .ok (.l2i, 1) := by decide +kernel
theorem dX12_outlook_35 : decode cX12_outlook 35 = .ok (.ireturn, 1) := by decide +kernel
theorem dX12_outlook_36 : decode cX12_outlook 36 = .ok (.aload_n 0, 1) := by decide +kernel
theorem dX12_outlook_37 : decode cX12_outlook 37 = .ok (.invokevirtual 243, 3) := by decide +kernel
theorem dX12_outlook_40 : decode cX12_outlook 40 = .ok (.iconst 0, 1) := by decide +kernel
theorem dX12_outlook_41 : decode cX12_outlook 41 = .ok (.istore_n 2, 1) := by decide +kernel
theorem dX12_outlook_42 : decode cX12_outlook 42 = .ok (.iload_n 2, 1) := by decide +kernel
theorem dX12_outlook_43 : decode cX12_outlook 43 = .ok (.iload_n 1, 1) := by decide +kernel
theorem dX12_outlook_44 : decode cX12_outlook 44 = .ok (.if_icmp .ge 25, 3) := by decide +kernel
theorem dX12_outlook_47 : decode cX12_outlook 47 = .ok (.aload_n 0, 1) := by decide +kernel
theorem dX12_outlook_48 : decode cX12_outlook 48 = .ok (.getfield 41, 3) := by decide +kernel
theorem dX12_outlook_51 : decode cX12_outlook 51 = .ok (.bipush 49, 2) := by decide +kernel
theorem dX12_outlook_53 : decode cX12_outlook 53 = .ok (.laload, 1) := by decide +kernel
theorem dX12_outlook_54 : decode cX12_outlook 54 = .ok (.lconst 0, 1) := by decide +kernel
theorem dX12_outlook_55 : decode cX12_outlook 55 = .ok (.lcmp, 1) := by decide +kernel
theorem dX12_outlook_56 : decode cX12_outlook 56 = .ok (.ifCond .ne 13, 3) := by decide +kernel
theorem dX12_outlook_59 : decode cX12_outlook 59 = .ok (.aload_n 0, 1) := by decide +kernel
theorem dX12_outlook_60 : decode cX12_outlook 60 = .ok (.invokevirtual 226, 3) := by decide +kernel
theorem dX12_outlook_63 : decode cX12_outlook 63 = .ok (.iinc 2 1, 3) := by decide +kernel
theorem dX12_outlook_66 : decode cX12_outlook 66 = .ok (.goto (-24), 3) := by decide +kernel
theorem dX12_outlook_69 : decode cX12_outlook 69 = .ok (.aload_n 0, 1) := by decide +kernel
theorem dX12_outlook_70 : decode cX12_outlook 70 = .ok (.getfield 41, 3) := by decide +kernel
theorem dX12_outlook_73 : decode cX12_outlook 73 = .ok (.bipush 49, 2) := by decide +kernel
theorem dX12_outlook_75 : decode cX12_outlook 75 = .ok (.laload, 1) := by decide +kernel
theorem dX12_outlook_76 : decode cX12_outlook 76 = .ok (.l2i, 1) := by decide +kernel
theorem dX12_outlook_77 : decode cX12_outlook 77 = .ok (.istore_n 3, 1) := by decide +kernel
theorem dX12_outlook_78 : decode cX12_outlook 78 = .ok (.aload_n 0, 1) := by decide +kernel
theorem dX12_outlook_79 : decode cX12_outlook 79 = .ok (.invokevirtual 246, 3) := by decide +kernel
theorem dX12_outlook_82 : decode cX12_outlook 82 = .ok (.iload_n 3, 1) := by decide +kernel
theorem dX12_outlook_83 : decode cX12_outlook 83 = .ok (.ifCond .ne 7, 3) := by decide +kernel
theorem dX12_outlook_86 : decode cX12_outlook 86 = .ok (.iconst 0, 1) := by decide +kernel
theorem dX12_outlook_87 : decode cX12_outlook 87 = .ok (.goto 9, 3) := by decide +kernel
theorem dX12_outlook_90 : decode cX12_outlook 90 = .ok (.bipush 10, 2) := by decide +kernel
theorem dX12_outlook_92 : decode cX12_outlook 92 = .ok (.iload_n 2, 1) := by decide +kernel
theorem dX12_outlook_93 : decode cX12_outlook 93 = .ok (.imul, 1) := by decide +kernel
theorem dX12_outlook_94 : decode cX12_outlook 94 = .ok (.iload_n 3, 1) := by decide +kernel
theorem dX12_outlook_95 : decode cX12_outlook 95 = .ok (.iadd, 1) := by decide +kernel
theorem dX12_outlook_96 : decode cX12_outlook 96 = .ok (.ireturn, 1) := by decide +kernel
theorem dJ9_floorDiv_f86c9_0 : decode cJ9_floorDiv_f86c9 0 = .ok (.lload_n 0, 1) := by decide +kernel
theorem dJ9_floorDiv_f86c9_1 : decode cJ9_floorDiv_f86c9 1 = .ok (.lload_n 2, 1) := by decide +kernel
theorem dJ9_floorDiv_f86c9_2 : decode cJ9_floorDiv_f86c9 2 = .ok (.ldiv, 1) := by decide +kernel
theorem dJ9_floorDiv_f86c9_3 : decode cJ9_floorDiv_f86c9 3 = .ok (.lstore 4, 2) := by decide +kernel
theorem dJ9_floorDiv_f86c9_5 : decode cJ9_floorDiv_f86c9 5 = .ok (.lload_n 0, 1) := by decide +kernel
theorem dJ9_floorDiv_f86c9_6 : decode cJ9_floorDiv_f86c9 6 = .ok (.lload_n 2, 1) := by decide +kernel
theorem dJ9_floorDiv_f86c9_7 : decode cJ9_floorDiv_f86c9 7 = .ok (.lxor, 1) := by decide +kernel
theorem dJ9_floorDiv_f86c9_8 : decode cJ9_floorDiv_f86c9 8 = .ok (.lconst 0, 1) := by decide +kernel
theorem dJ9_floorDiv_f86c9_9 : decode cJ9_floorDiv_f86c9 9 = .ok (.lcmp, 1) := by decide +kernel
theorem dJ9_floorDiv_f86c9_10 : decode cJ9_floorDiv_f86c9 10 = .ok (.ifCond .ge 17, 3) := by decide +kernel
theorem dJ9_floorDiv_f86c9_13 : decode cJ9_floorDiv_f86c9 13 = .ok (.lload 4, 2) := by decide +kernel
theorem dJ9_floorDiv_f86c9_15 : decode cJ9_floorDiv_f86c9 15 = .ok (.lload_n 2, 1) := by decide +kernel
theorem dJ9_floorDiv_f86c9_16 : decode cJ9_floorDiv_f86c9 16 = .ok (.lmul, 1) := by decide +kernel
theorem dJ9_floorDiv_f86c9_17 : decode cJ9_floorDiv_f86c9 17 = .ok (.lload_n 0, 1) := by decide +kernel
theorem dJ9_floorDiv_f86c9_18 : decode cJ9_floorDiv_f86c9 18 = .ok (.lcmp, 1) := by decide +kernel
theorem dJ9_floorDiv_f86c9_19 : decode cJ9_floorDiv_f86c9 19 = .ok (.ifCond .eq 8, 3) := by decide +kernel
theorem dJ9_floorDiv_f86c9_22 : decode cJ9_floorDiv_f86c9 22 = .ok (.lload 4, 2) := by decide +kernel
theorem dJ9_floorDiv_f86c9_24 : decode cJ9_floorDiv_f86c9 24 = .ok (.lconst 1, 1) := by decide +kernel
theorem dJ9_floorDiv_f86c9_25 : decode cJ9_floorDiv_f86c9 25 = .ok (.lsub, 1) := by decide +kernel
theorem dJ9_floorDiv_f86c9_26 : decode cJ9_floorDiv_f86c9 26 = .ok (.lreturn, 1) := by decide +kernel
theorem dJ9_floorDiv_f86c9_27 : decode cJ9_floorDiv_f86c9 27 = .ok (.lload 4, 2) := by decide +kernel
theorem dJ9_floorDiv_f86c9_29 : decode cJ9_floorDiv_f86c9 29 = .ok (.lreturn, 1) := by decide +kernel
theorem dJ9_floorMod_7cf53_0 : decode cJ9_floorMod_7cf53 0 = .ok (.iload_n 0, 1) := by decide +kernel
theorem dJ9_floorMod_7cf53_1 : decode cJ9_floorMod_7cf53 1 = .ok (.iload_n 1, 1) := by decide +kernel
theorem dJ9_floorMod_7cf53_2 : decode cJ9_floorMod_7cf53 2 = .ok (.irem, 1) := by decide +kernel
theorem dJ9_floorMod_7cf53_3 : decode cJ9_floorMod_7cf53 3 = .ok (.istore_n 2, 1) := by decide +kernel
theorem dJ9_floorMod_7cf53_4 : decode cJ9_floorMod_7cf53 4 = .ok (.iload_n 0, 1) := by decide +kernel
theorem dJ9_floorMod_7cf53_5 : decode cJ9_floorMod_7cf53 5 = .ok (.iload_n 1, 1) := by decide +kernel
theorem dJ9_floorMod_7cf53_6 : decode cJ9_floorMod_7cf53 6 = .ok (.ixor, 1) := by decide +kernel
theorem dJ9_floorMod_7cf53_7 : decode cJ9_floorMod_7cf53 7 = .ok (.ifCond .ge 11, 3) := by decide +kernel
theorem dJ9_floorMod_7cf53_10 : decode cJ9_floorMod_7cf53 10 = .ok (.iload_n 2, 1) := by decide +kernel
theorem dJ9_floorMod_7cf53_11 : decode cJ9_floorMod_7cf53 11 = .ok (.ifCond .eq 7, 3) := by decide +kernel
theorem dJ9_floorMod_7cf53_14 : decode cJ9_floorMod_7cf53 14 = .ok (.iload_n 2, 1) := by decide +kernel
theorem dJ9_floorMod_7cf53_15 : decode cJ9_floorMod_7cf53 15 = .ok (.iload_n 1, 1) := by decide +kernel
theorem dJ9_floorMod_7cf53_16 : decode cJ9_floorMod_7cf53 16 = .ok (.iadd, 1) := by decide +kernel
theorem dJ9_floorMod_7cf53_17 : decode cJ9_floorMod_7cf53 17 = .ok (.ireturn, 1) := by decide +kernel
theorem dJ9_floorMod_7cf53_18 : decode cJ9_floorMod_7cf53 18 = .ok (.iload_n 2, 1) := by decide +kernel
theorem dJ9_floorMod_7cf53_19 : decode cJ9_floorMod_7cf53 19 = .ok (.ireturn, 1) := by decide +kernel
theorem dJ9_abs_067f4_0 : decode cJ9_abs_067f4 0 = .ok (.lload_n 0, 1) := by decide +kernel
theorem dJ9_abs_067f4_1 : decode cJ9_abs_067f4 1 = .ok (.lconst 0, 1) := by decide +kernel
theorem dJ9_abs_067f4_2 : decode cJ9_abs_067f4 2 = .ok (.lcmp, 1) := by decide +kernel
theorem dJ9_abs_067f4_3 : decode cJ9_abs_067f4 3 = .ok (.ifCond .ge 8, 3) := by decide +kernel
theorem dJ9_abs_067f4_6 : decode cJ9_abs_067f4 6 = .ok (.lload_n 0, 1) := by decide +kernel
theorem dJ9_abs_067f4_7 : decode cJ9_abs_067f4 7 = .ok (.lneg, 1) := by decide +kernel
theorem dJ9_abs_067f4_8 : decode cJ9_abs_067f4 8 = .ok (.goto 4, 3) := by decide +kernel
theorem dJ9_abs_067f4_11 : decode cJ9_abs_067f4 11 = .ok (.lload_n 0, 1) := by decide +kernel
theorem dJ9_abs_067f4_12 : decode cJ9_abs_067f4 12 = .ok (.lreturn, 1) := by decide +kernel
theorem dJ9_max_f86c9_0 : decode cJ9_max_f86c9 0 = .ok (.lload_n 0, 1) := by decide +kernel
theorem dJ9_max_f86c9_1 : decode cJ9_max_f86c9 1 = .ok (.lload_n 2, 1) := by decide +kernel
theorem dJ9_max_f86c9_2 : decode cJ9_max_f86c9 2 = .ok (.lcmp, 1) := by decide +kernel
theorem dJ9_max_f86c9_3 : decode cJ9_max_f86c9 3 = .ok (.ifCond .lt 7, 3) := by decide +kernel
theorem dJ9_max_f86c9_6 : decode cJ9_max_f86c9 6 = .ok (.lload_n 0, 1) := by decide +kernel
theorem dJ9_max_f86c9_7 : decode cJ9_max_f86c9 7 = .ok (.goto 4, 3) := by decide +kernel
theorem dJ9_max_f86c9_10 : decode cJ9_max_f86c9 10 = .ok (.lload_n 2, 1) := by decide +kernel
theorem dJ9_max_f86c9_11 : decode cJ9_max_f86c9 11 = .ok (.lreturn, 1) := by decide +kernel
theorem dJ9_min_7cf53_0 : decode cJ9_min_7cf53 0 = .ok (.iload_n 0, 1) := by decide +kernel
theorem dJ9_min_7cf53_1 : decode cJ9_min_7cf53 1 = .ok (.iload_n 1, 1) := by decide +kernel
theorem dJ9_min_7cf53_2 : decode cJ9_min_7cf53 2 = .ok (.if_icmp .gt 7, 3) := by decide +kernel
theorem dJ9_min_7cf53_5 : decode cJ9_min_7cf53 5 = .ok (.iload_n 0, 1) := by decide +kernel
theorem dJ9_min_7cf53_6 : decode cJ9_min_7cf53 6 = .ok (.goto 4, 3) := by decide +kernel
theorem dJ9_min_7cf53_9 : decode cJ9_min_7cf53 9 = .ok (.iload_n 1, 1) := by decide +kernel
theorem dJ9_min_7cf53_10 : decode cJ9_min_7cf53 10 = .ok (.ireturn, 1) := by decide +kernel
theorem dJ9_min_f86c9_0 : decode cJ9_min_f86c9 0 = .ok (.lload_n 0, 1) := by decide +kernel
theorem dJ9_min_f86c9_1 : decode cJ9_min_f86c9 1 = .ok (.lload_n 2, 1) := by decide +kernel
theorem dJ9_min_f86c9_2 : decode cJ9_min_f86c9 2 = .ok (.lcmp, 1) := by decide +kernel
theorem dJ9_min_f86c9_3 : decode cJ9_min_f86c9 3 = .ok (.ifCond .gt 7, 3) := by decide +kernel
theorem dJ9_min_f86c9_6 : decode cJ9_min_f86c9 6 = .ok (.lload_n 0, 1) := by decide +kernel
theorem dJ9_min_f86c9_7 : decode cJ9_min_f86c9 7 = .ok (.goto 4, 3) := by decide +kernel
theorem dJ9_min_f86c9_10 : decode cJ9_min_f86c9 10 = .ok (.lload_n 2, 1) := by decide +kernel
theorem dJ9_min_f86c9_11 : decode cJ9_min_f86c9 11 = .ok (.lreturn, 1) := by decide +kernel
theorem dL_law_0 : decode cL_law 0 = .ok (.new 7, 3) := by decide +kernel
theorem dL_law_3 : decode cL_law 3 = .ok (.dup, 1) := by decide +kernel
theorem dL_law_4 : decode cL_law 4 = .ok (.invokespecial 9, 3) := by decide +kernel
theorem dL_law_7 : decode cL_law 7 = .ok (.astore_n 1, 1) := by decide +kernel
theorem dL_law_8 : decode cL_law 8 = .ok (.new 10, 3) := by decide +kernel
theorem dL_law_11 : decode cL_law 11 = .ok (.dup, 1) := by decide +kernel
theorem dL_law_12 : decode cL_law 12 = .ok (.invokespecial 12, 3) := by decide +kernel
theorem dL_law_15 : decode cL_law 15 = .ok (.astore_n 2, 1) := by decide +kernel
theorem dL_law_16 : decode cL_law 16 = .ok (.iconst 0, 1) := by decide +kernel
theorem dL_law_17 : decode cL_law 17 = .ok (.istore_n 3, 1) := by decide +kernel
theorem dL_law_18 : decode cL_law 18 = .ok (.iload_n 3, 1) := by decide +kernel
theorem dL_law_19 : decode cL_law 19 = .ok (.aload_n 0, 1) := by decide +kernel
theorem dL_law_20 : decode cL_law 20 = .ok (.arraylength, 1) := by decide +kernel
theorem dL_law_21 : decode cL_law 21 = .ok (.bipush 7, 2) := by decide +kernel
theorem dL_law_23 : decode cL_law 23 = .ok (.isub, 1) := by decide +kernel
theorem dL_law_24 : decode cL_law 24 = .ok (.if_icmp .gt 852, 3) := by decide +kernel
theorem dL_law_27 : decode cL_law 27 = .ok (.aload_n 0, 1) := by decide +kernel
theorem dL_law_28 : decode cL_law 28 = .ok (.iload_n 3, 1) := by decide +kernel
theorem dL_law_29 : decode cL_law 29 = .ok (.iaload, 1) := by decide +kernel
theorem dL_law_30 : decode cL_law 30 = .ok (.bipush 31, 2) := by decide +kernel
theorem dL_law_32 : decode cL_law 32 = .ok (.iand, 1) := by decide +kernel
theorem dL_law_33 : decode cL_law 33 = .ok (.tableswitch 837 0 24 #[115, 138, 161, 236, 279, 312, 345, 378, 411, 444, 467, 490, 513, 526, 549, 562, 596, 630, 654, 678, 691, 724, 747, 780, 814], 115) := by decide +kernel
theorem dL_law_148 : decode cL_law 148 = .ok (.aload_n 1, 1) := by decide +kernel
theorem dL_law_149 : decode cL_law 149 = .ok (.aload_n 0, 1) := by decide +kernel
theorem dL_law_150 : decode cL_law 150 = .ok (.iload_n 3, 1) := by decide +kernel
theorem dL_law_151 : decode cL_law 151 = .ok (.iconst 1, 1) := by decide +kernel
theorem dL_law_152 : decode cL_law 152 = .ok (.iadd, 1) := by decide +kernel
theorem dL_law_153 : decode cL_law 153 = .ok (.iaload, 1) := by decide +kernel
theorem dL_law_154 : decode cL_law 154 = .ok (.invokevirtual 13, 3) := by decide +kernel
theorem dL_law_157 : decode cL_law 157 = .ok (.aload_n 2, 1) := by decide +kernel
theorem dL_law_158 : decode cL_law 158 = .ok (.aload_n 0, 1) := by decide +kernel
theorem dL_law_159 : decode cL_law 159 = .ok (.iload_n 3, 1) := by decide +kernel
theorem dL_law_160 : decode cL_law 160 = .ok (.iconst 1, 1) := by decide +kernel
theorem dL_law_161 : decode cL_law 161 = .ok (.iadd, 1) := by decide +kernel
theorem dL_law_162 : decode cL_law 162 = .ok (.iaload, 1) := by decide +kernel
theorem dL_law_163 : decode cL_law 163 = .ok (.invokevirtual 17, 3) := by decide +kernel
theorem dL_law_166 : decode cL_law 166 = .ok (.if_icmp .eq 704, 3) := by decide +kernel
theorem dL_law_169 : decode cL_law 169 = .ok (.iconst 0, 1) := by decide +kernel
theorem dL_law_170 : decode cL_law 170 = .ok (.ireturn, 1) := by decide +kernel
theorem dL_law_171 : decode cL_law 171 = .ok (.aload_n 1, 1) := by decide +kernel
theorem dL_law_172 : decode cL_law 172 = .ok (.aload_n 0, 1) := by decide +kernel
theorem dL_law_173 : decode cL_law 173 = .ok (.iload_n 3, 1) := by decide +kernel
theorem dL_law_174 : decode cL_law 174 = .ok (.iconst 1, 1) := by decide +kernel
theorem dL_law_175 : decode cL_law 175 = .ok (.iadd, 1) := by decide +kernel
theorem dL_law_176 : decode cL_law 176 = .ok (.iaload, 1) := by decide +kernel
theorem dL_law_177 : decode cL_law 177 = .ok (.invokevirtual 18, 3) := by decide +kernel
theorem dL_law_180 : decode cL_law 180 = .ok (.aload_n 2, 1) := by decide +kernel
theorem dL_law_181 : decode cL_law 181 = .ok (.aload_n 0, 1) := by decide +kernel
theorem dL_law_182 : decode cL_law 182 = .ok (.iload_n 3, 1) := by decide +kernel
theorem dL_law_183 : decode cL_law 183 = .ok (.iconst 1, 1) := by decide +kernel
theorem dL_law_184 : decode cL_law 184 = .ok (.iadd, 1) := by decide +kernel
theorem dL_law_185 : decode cL_law 185 = .ok (.iaload, 1) := by decide +kernel
theorem dL_law_186 : decode cL_law 186 = .ok (.invokevirtual 21, 3) := by decide +kernel
theorem dL_law_189 : decode cL_law 189 = .ok (.if_icmp .eq 681, 3) := by decide +kernel
theorem dL_law_192 : decode cL_law 192 = .ok (.iconst 0, 1) := by decide +kernel
theorem dL_law_193 : decode cL_law 193 = .ok (.ireturn, 1) := by decide +kernel
theorem dL_law_194 : decode cL_law 194 = .ok (.aload_n 1, 1) := by decide +kernel
theorem dL_law_195 : decode cL_law 195 = .ok (.aload_n 0, 1) := by decide +kernel
theorem dL_law_196 : decode cL_law 196 = .ok (.iload_n 3, 1) := by decide +kernel
theorem dL_law_197 : decode cL_law 197 = .ok (.iconst 1, 1) := by decide +kernel
theorem dL_law_198 : decode cL_law 198 = .ok (.iadd, 1) := by decide +kernel
theorem dL_law_199 : decode cL_law 199 = .ok (.iaload, 1) := by decide +kernel
theorem dL_law_200 : decode cL_law 200 = .ok (.aload_n 0, 1) := by decide +kernel
theorem dL_law_201 : decode cL_law 201 = .ok (.iload_n 3, 1) := by decide +kernel
theorem dL_law_202 : decode cL_law 202 = .ok (.iconst 2, 1) := by decide +kernel
theorem dL_law_203 : decode cL_law 203 = .ok (.iadd, 1) := by decide +kernel
theorem dL_law_204 : decode cL_law 204 = .ok (.iaload, 1) := by decide +kernel
theorem dL_law_205 : decode cL_law 205 = .ok (.aload_n 0, 1) := by decide +kernel
theorem dL_law_206 : decode cL_law 206 = .ok (.iload_n 3, 1) := by decide +kernel
theorem dL_law_207 : decode cL_law 207 = .ok (.iconst 3, 1) := by decide +kernel
theorem dL_law_208 : decode cL_law 208 = .ok (.iadd, 1) := by decide +kernel
theorem dL_law_209 : decode cL_law 209 = .ok (.iaload, 1) := by decide +kernel
theorem dL_law_210 : decode cL_law 210 = .ok (.aload_n 0, 1) := by decide +kernel
theorem dL_law_211 : decode cL_law 211 = .ok (.iload_n 3, 1) := by decide +kernel
theorem dL_law_212 : decode cL_law 212 = .ok (.iconst 4, 1) := by decide +kernel
theorem dL_law_213 : decode cL_law 213 = .ok (.iadd, 1) := by decide +kernel
theorem dL_law_214 : decode cL_law 214 = .ok (.iaload, 1) := by decide +kernel
theorem dL_law_215 : decode cL_law 215 = .ok (.aload_n 0, 1) := by decide +kernel
theorem dL_law_216 : decode cL_law 216 = .ok (.iload_n 3, 1) := by decide +kernel
theorem dL_law_217 : decode cL_law 217 = .ok (.iconst 5, 1) := by decide +kernel
theorem dL_law_218 : decode cL_law 218 = .ok (.iadd, 1) := by decide +kernel
theorem dL_law_219 : decode cL_law 219 = .ok (.iaload, 1) := by decide +kernel
theorem dL_law_220 : decode cL_law 220 = .ok (.aload_n 0, 1) := by decide +kernel
theorem dL_law_221 : decode cL_law 221 = .ok (.iload_n 3, 1) := by decide +kernel
theorem dL_law_222 : decode cL_law 222 = .ok (.bipush 6, 2) := by decide +kernel
theorem dL_law_224 : decode cL_law 224 = .ok (.iadd, 1) := by decide +kernel
theorem dL_law_225 : decode cL_law 225 = .ok (.iaload, 1) := by decide +kernel
theorem dL_law_226 : decode cL_law 226 = .ok (.invokevirtual 22, 3) := by decide +kernel
theorem dL_law_229 : decode cL_law 229 = .ok (.aload_n 2, 1) := by decide +kernel
theorem dL_law_230 : decode cL_law 230 = .ok (.aload_n 0, 1) := by decide +kernel
theorem dL_law_231 : decode cL_law 231 = .ok (.iload_n 3, 1) := by decide +kernel
theorem dL_law_232 : decode cL_law 232 = .ok (.iconst 1, 1) := by decide +kernel
theorem dL_law_233 : decode cL_law 233 = .ok (.iadd, 1) := by decide +kernel
theorem dL_law_234 : decode cL_law 234 = .ok (.iaload, 1) := by decide +kernel
theorem dL_law_235 : decode cL_law 235 = .ok (.aload_n 0, 1) := by decide +kernel
theorem dL_law_236 : decode cL_law 236 = .ok (.iload_n 3, 1) := by decide +kernel
theorem dL_law_237 : decode cL_law 237 = .ok (.iconst 2, 1) := by decide +kernel
theorem dL_law_238 : decode cL_law 238 = .ok (.iadd, 1) := by decide +kernel
theorem dL_law_239 : decode cL_law 239 = .ok (.iaload, 1) := by decide +kernel
theorem dL_law_240 : decode cL_law 240 = .ok (.aload_n 0, 1) := by decide +kernel
theorem dL_law_241 : decode cL_law 241 = .ok (.iload_n 3, 1) := by decide +kernel
theorem dL_law_242 : decode cL_law 242 = .ok (.iconst 3, 1) := by decide +kernel
theorem dL_law_243 : decode cL_law 243 = .ok (.iadd, 1) := by decide +kernel
theorem dL_law_244 : decode cL_law 244 = .ok (.iaload, 1) := by decide +kernel
theorem dL_law_245 : decode cL_law 245 = .ok (.aload_n 0, 1) := by decide +kernel
theorem dL_law_246 : decode cL_law 246 = .ok (.iload_n 3, 1) := by decide +kernel
theorem dL_law_247 : decode cL_law 247 = .ok (.iconst 4, 1) := by decide +kernel
theorem dL_law_248 : decode cL_law 248 = .ok (.iadd, 1) := by decide +kernel
theorem dL_law_249 : decode cL_law 249 = .ok (.iaload, 1) := by decide +kernel
theorem dL_law_250 : decode cL_law 250 = .ok (.aload_n 0, 1) := by decide +kernel
theorem dL_law_251 : decode cL_law 251 = .ok (.iload_n 3, 1) := by decide +kernel
theorem dL_law_252 : decode cL_law 252 = .ok (.iconst 5, 1) := by decide +kernel
theorem dL_law_253 : decode cL_law 253 = .ok (.iadd, 1) := by decide +kernel
theorem dL_law_254 : decode cL_law 254 = .ok (.iaload, 1) := by decide +kernel
theorem dL_law_255 : decode cL_law 255 = .ok (.aload_n 0, 1) := by decide +kernel
theorem dL_law_256 : decode cL_law 256 = .ok (.iload_n 3, 1) := by decide +kernel
theorem dL_law_257 : decode cL_law 257 = .ok (.bipush 6, 2) := by decide +kernel
theorem dL_law_259 : decode cL_law 259 = .ok (.iadd, 1) := by decide +kernel
theorem dL_law_260 : decode cL_law 260 = .ok (.iaload, 1) := by decide +kernel
theorem dL_law_261 : decode cL_law 261 = .ok (.invokevirtual 26, 3) := by decide +kernel
theorem dL_law_264 : decode cL_law 264 = .ok (.if_icmp .eq 606, 3) := by decide +kernel
theorem dL_law_267 : decode cL_law 267 = .ok (.iconst 0, 1) := by decide +kernel
theorem dL_law_268 : decode cL_law 268 = .ok (.ireturn, 1) := by decide +kernel
theorem dL_law_269 : decode cL_law 269 = .ok (.aload_n 1, 1) := by decide +kernel
theorem dL_law_270 : decode cL_law 270 = .ok (.aload_n 0, 1) := by decide +kernel
theorem dL_law_271 : decode cL_law 271 = .ok (.iload_n 3, 1) := by decide +kernel
theorem dL_law_272 : decode cL_law 272 = .ok (.iconst 1, 1) := by decide +kernel
theorem dL_law_273 : decode cL_law 273 = .ok (.iadd, 1) := by decide +kernel
theorem dL_law_274 : decode cL_law 274 = .ok (.iaload, 1) := by decide +kernel
theorem dL_law_275 : decode cL_law 275 = .ok (.aload_n 0, 1) := by decide +kernel
theorem dL_law_276 : decode cL_law 276 = .ok (.iload_n 3, 1) := by decide +kernel
theorem dL_law_277 : decode cL_law 277 = .ok (.iconst 2, 1) := by decide +kernel
theorem dL_law_278 : decode cL_law 278 = .ok (.iadd, 1) := by decide +kernel
theorem dL_law_279 : decode cL_law 279 = .ok (.iaload, 1) := by decide +kernel
theorem dL_law_280 : decode cL_law 280 = .ok (.aload_n 0, 1) := by decide +kernel
theorem dL_law_281 : decode cL_law 281 = .ok (.iload_n 3, 1) := by decide +kernel
theorem dL_law_282 : decode cL_law 282 = .ok (.iconst 3, 1) := by decide +kernel
theorem dL_law_283 : decode cL_law 283 = .ok (.iadd, 1) := by decide +kernel
theorem dL_law_284 : decode cL_law 284 = .ok (.iaload, 1) := by decide +kernel
theorem dL_law_285 : decode cL_law 285 = .ok (.invokevirtual 27, 3) := by decide +kernel
theorem dL_law_288 : decode cL_law 288 = .ok (.aload_n 2, 1) := by decide +kernel
theorem dL_law_289 : decode cL_law 289 = .ok (.aload_n 0, 1) := by decide +kernel
theorem dL_law_290 : decode cL_law 290 = .ok (.iload_n 3, 1) := by decide +kernel
theorem dL_law_291 : decode cL_law 291 = .ok (.iconst 1, 1) := by decide +kernel
theorem dL_law_292 : decode cL_law 292 = .ok (.iadd, 1) := by decide +kernel
theorem dL_law_293 : decode cL_law 293 = .ok (.iaload, 1) := by decide +kernel
theorem dL_law_294 : decode cL_law 294 = .ok (.aload_n 0, 1) := by decide +kernel
theorem dL_law_295 : decode cL_law 295 = .ok (.iload_n 3, 1) := by decide +kernel
theorem dL_law_296 : decode cL_law 296 = .ok (.iconst 2, 1) := by decide +kernel
theorem dL_law_297 : decode cL_law 297 = .ok (.iadd, 1) := by decide +kernel
theorem dL_law_298 : decode cL_law 298 = .ok (.iaload, 1) := by decide +kernel
theorem dL_law_299 : decode cL_law 299 = .ok (.aload_n 0, 1) := by decide +kernel
theorem dL_law_300 : decode cL_law 300 = .ok (.iload_n 3, 1) := by decide +kernel
theorem dL_law_301 : decode cL_law 301 = .ok (.iconst 3, 1) := by decide +kernel
theorem dL_law_302 : decode cL_law 302 = .ok (.iadd, 1) := by decide +kernel
theorem dL_law_303 : decode cL_law 303 = .ok (.iaload, 1) := by decide +kernel
theorem dL_law_304 : decode cL_law 304 = .ok (.invokevirtual 31, 3) := by decide +kernel
theorem dL_law_307 : decode cL_law 307 = .ok (.if_icmp .eq 563, 3) := by decide +kernel
theorem dL_law_310 : decode cL_law 310 = .ok (.iconst 0, 1) := by decide +kernel
theorem dL_law_311 : decode cL_law 311 = .ok (.ireturn, 1) := by decide +kernel
theorem dL_law_312 : decode cL_law 312 = .ok (.aload_n 1, 1) := by decide +kernel
theorem dL_law_313 : decode cL_law 313 = .ok (.aload_n 0, 1) := by decide +kernel
theorem dL_law_314 : decode cL_law 314 = .ok (.iload_n 3, 1) := by decide +kernel
theorem dL_law_315 : decode cL_law 315 = .ok (.iconst 1, 1) := by decide +kernel
theorem dL_law_316 : decode cL_law 316 = .ok (.iadd, 1) := by decide +kernel
theorem dL_law_317 : decode cL_law 317 = .ok (.iaload, 1) := by decide +kernel
theorem dL_law_318 : decode cL_law 318 = .ok (.aload_n 0, 1) := by decide +kernel
theorem dL_law_319 : decode cL_law 319 = .ok (.iload_n 3, 1) := by decide +kernel
theorem dL_law_320 : decode cL_law 320 = .ok (.iconst 2, 1) := by decide +kernel
theorem dL_law_321 : decode cL_law 321 = .ok (.iadd, 1) := by decide +kernel
theorem dL_law_322 : decode cL_law 322 = .ok (.iaload, 1) := by decide +kernel
theorem dL_law_323 : decode cL_law 323 = .ok (.invokevirtual 32, 3) := by decide +kernel
theorem dL_law_326 : decode cL_law 326 = .ok (.aload_n 2, 1) := by decide +kernel
theorem dL_law_327 : decode cL_law 327 = .ok (.aload_n 0, 1) := by decide +kernel
theorem dL_law_328 : decode cL_law 328 = .ok (.iload_n 3, 1) := by decide +kernel
theorem dL_law_329 : decode cL_law 329 = .ok (.iconst 1, 1) := by decide +kernel
theorem dL_law_330 : decode cL_law 330 = .ok (.iadd, 1) := by decide +kernel
theorem dL_law_331 : decode cL_law 331 = .ok (.iaload, 1) := by decide +kernel
theorem dL_law_332 : decode cL_law 332 = .ok (.aload_n 0, 1) := by decide +kernel
theorem dL_law_333 : decode cL_law 333 = .ok (.iload_n 3, 1) := by decide +kernel
theorem dL_law_334 : decode cL_law 334 = .ok (.iconst 2, 1) := by decide +kernel
theorem dL_law_335 : decode cL_law 335 = .ok (.iadd, 1) := by decide +kernel
theorem dL_law_336 : decode cL_law 336 = .ok (.iaload, 1) := by decide +kernel
theorem dL_law_337 : decode cL_law 337 = .ok (.invokevirtual 36, 3) := by decide +kernel
theorem dL_law_340 : decode cL_law 340 = .ok (.if_icmp .eq 530, 3) := by decide +kernel
theorem dL_law_343 : decode cL_law 343 = .ok (.iconst 0, 1) := by decide +kernel
theorem dL_law_344 : decode cL_law 344 = .ok (.ireturn, 1) := by decide +kernel
theorem dL_law_345 : decode cL_law 345 = .ok (.aload_n 1, 1) := by decide +kernel
theorem dL_law_346 : decode cL_law 346 = .ok (.aload_n 0, 1) := by decide +kernel
theorem dL_law_347 : decode cL_law 347 = .ok (.iload_n 3, 1) := by decide +kernel
theorem dL_law_348 : decode cL_law 348 = .ok (.iconst 1, 1) := by decide +kernel
theorem dL_law_349 : decode cL_law 349 = .ok (.iadd, 1) := by decide +kernel
theorem dL_law_350 : decode cL_law 350 = .ok (.iaload, 1) := by decide +kernel
theorem dL_law_351 : decode cL_law 351 = .ok (.aload_n 0, 1) := by decide +kernel
theorem dL_law_352 : decode cL_law 352 = .ok (.iload_n 3, 1) := by decide +kernel
theorem dL_law_353 : decode cL_law 353 = .ok (.iconst 2, 1) := by decide +kernel
theorem dL_law_354 : decode cL_law 354 = .ok (.iadd, 1) := by decide +kernel
theorem dL_law_355 : decode cL_law 355 = .ok (.iaload, 1) := by decide +kernel
theorem dL_law_356 : decode cL_law 356 = .ok (.invokevirtual 37, 3) := by decide +kernel
theorem dL_law_359 : decode cL_law 359 = .ok (.aload_n 2, 1) := by decide +kernel
theorem dL_law_360 : decode cL_law 360 = .ok (.aload_n 0, 1) := by decide +kernel
theorem dL_law_361 : decode cL_law 361 = .ok (.iload_n 3, 1) := by decide +kernel
theorem dL_law_362 : decode cL_law 362 = .ok (.iconst 1, 1) := by decide +kernel
theorem dL_law_363 : decode cL_law 363 = .ok (.iadd, 1) := by decide +kernel
theorem dL_law_364 : decode cL_law 364 = .ok (.iaload, 1) := by decide +kernel
theorem dL_law_365 : decode cL_law 365 = .ok (.aload_n 0, 1) := by decide +kernel
theorem dL_law_366 : decode cL_law 366 = .ok (.iload_n 3, 1) := by decide +kernel
theorem dL_law_367 : decode cL_law 367 = .ok (.iconst 2, 1) := by decide +kernel
theorem dL_law_368 : decode cL_law 368 = .ok (.iadd, 1) := by decide +kernel
theorem dL_law_369 : decode cL_law 369 = .ok (.iaload, 1) := by decide +kernel
theorem dL_law_370 : decode cL_law 370 = .ok (.invokevirtual 40, 3) := by decide +kernel
theorem dL_law_373 : decode cL_law 373 = .ok (.if_icmp .eq 497, 3) := by decide +kernel
theorem dL_law_376 : decode cL_law 376 = .ok (.iconst 0, 1) := by decide +kernel
theorem dL_law_377 : decode cL_law 377 = .ok (.ireturn, 1) := by decide +kernel
theorem dL_law_378 : decode cL_law 378 = .ok (.aload_n 1, 1) := by decide +kernel
theorem dL_law_379 : decode cL_law 379 = .ok (.aload_n 0, 1) := by decide +kernel
theorem dL_law_380 : decode cL_law 380 = .ok (.iload_n 3, 1) := by decide +kernel
theorem dL_law_381 : decode cL_law 381 = .ok (.iconst 1, 1) := by decide +kernel
theorem dL_law_382 : decode cL_law 382 = .ok (.iadd, 1) := by decide +kernel
theorem dL_law_383 : decode cL_law 383 = .ok (.iaload, 1) := by decide +kernel
theorem dL_law_384 : decode cL_law 384 = .ok (.aload_n 0, 1) := by decide +kernel
theorem dL_law_385 : decode cL_law 385 = .ok (.iload_n 3, 1) := by decide +kernel
theorem dL_law_386 : decode cL_law 386 = .ok (.iconst 2, 1) := by decide +kernel
theorem dL_law_387 : decode cL_law 387 = .ok (.iadd, 1) := by decide +kernel
theorem dL_law_388 : decode cL_law 388 = .ok (.iaload, 1) := by decide +kernel
theorem dL_law_389 : decode cL_law 389 = .ok (.invokevirtual 41, 3) := by decide +kernel
theorem dL_law_392 : decode cL_law 392 = .ok (.aload_n 2, 1) := by decide +kernel
theorem dL_law_393 : decode cL_law 393 = .ok (.aload_n 0, 1) := by decide +kernel
theorem dL_law_394 : decode cL_law 394 = .ok (.iload_n 3, 1) := by decide +kernel
theorem dL_law_395 : decode cL_law 395 = .ok (.iconst 1, 1) := by decide +kernel
theorem dL_law_396 : decode cL_law 396 = .ok (.iadd, 1) := by decide +kernel
theorem dL_law_397 : decode cL_law 397 = .ok (.iaload, 1) := by decide +kernel
theorem dL_law_398 : decode cL_law 398 = .ok (.aload_n 0, 1) := by decide +kernel
theorem dL_law_399 : decode cL_law 399 = .ok (.iload_n 3, 1) := by decide +kernel
theorem dL_law_400 : decode cL_law 400 = .ok (.iconst 2, 1) := by decide +kernel
theorem dL_law_401 : decode cL_law 401 = .ok (.iadd, 1) := by decide +kernel
theorem dL_law_402 : decode cL_law 402 = .ok (.iaload, 1) := by decide +kernel
theorem dL_law_403 : decode cL_law 403 = .ok (.invokevirtual 44, 3) := by decide +kernel
theorem dL_law_406 : decode cL_law 406 = .ok (.if_icmp .eq 464, 3) := by decide +kernel
theorem dL_law_409 : decode cL_law 409 = .ok (.iconst 0, 1) := by decide +kernel
theorem dL_law_410 : decode cL_law 410 = .ok (.ireturn, 1) := by decide +kernel
theorem dL_law_411 : decode cL_law 411 = .ok (.aload_n 1, 1) := by decide +kernel
theorem dL_law_412 : decode cL_law 412 = .ok (.aload_n 0, 1) := by decide +kernel
theorem dL_law_413 : decode cL_law 413 = .ok (.iload_n 3, 1) := by decide +kernel
theorem dL_law_414 : decode cL_law 414 = .ok (.iconst 1, 1) := by decide +kernel
theorem dL_law_415 : decode cL_law 415 = .ok (.iadd, 1) := by decide +kernel
theorem dL_law_416 : decode cL_law 416 = .ok (.iaload, 1) := by decide +kernel
theorem dL_law_417 : decode cL_law 417 = .ok (.aload_n 0, 1) := by decide +kernel
theorem dL_law_418 : decode cL_law 418 = .ok (.iload_n 3, 1) := by decide +kernel
theorem dL_law_419 : decode cL_law 419 = .ok (.iconst 2, 1) := by decide +kernel
theorem dL_law_420 : decode cL_law 420 = .ok (.iadd, 1) := by decide +kernel
theorem dL_law_421 : decode cL_law 421 = .ok (.iaload, 1) := by decide +kernel
theorem dL_law_422 : decode cL_law 422 = .ok (.invokevirtual 45, 3) := by decide +kernel
theorem dL_law_425 : decode cL_law 425 = .ok (.aload_n 2, 1) := by decide +kernel
theorem dL_law_426 : decode cL_law 426 = .ok (.aload_n 0, 1) := by decide +kernel
theorem dL_law_427 : decode cL_law 427 = .ok (.iload_n 3, 1) := by decide +kernel
theorem dL_law_428 : decode cL_law 428 = .ok (.iconst 1, 1) := by decide +kernel
theorem dL_law_429 : decode cL_law 429 = .ok (.iadd, 1) := by decide +kernel
theorem dL_law_430 : decode cL_law 430 = .ok (.iaload, 1) := by decide +kernel
theorem dL_law_431 : decode cL_law 431 = .ok (.aload_n 0, 1) := by decide +kernel
theorem dL_law_432 : decode cL_law 432 = .ok (.iload_n 3, 1) := by decide +kernel
theorem dL_law_433 : decode cL_law 433 = .ok (.iconst 2, 1) := by decide +kernel
theorem dL_law_434 : decode cL_law 434 = .ok (.iadd, 1) := by decide +kernel
theorem dL_law_435 : decode cL_law 435 = .ok (.iaload, 1) := by decide +kernel
theorem dL_law_436 : decode cL_law 436 = .ok (.invokevirtual 48, 3) := by decide +kernel
theorem dL_law_439 : decode cL_law 439 = .ok (.if_icmp .eq 431, 3) := by decide +kernel
theorem dL_law_442 : decode cL_law 442 = .ok (.iconst 0, 1) := by decide +kernel
theorem dL_law_443 : decode cL_law 443 = .ok (.ireturn, 1) := by decide +kernel
theorem dL_law_444 : decode cL_law 444 = .ok (.aload_n 1, 1) := by decide +kernel
theorem dL_law_445 : decode cL_law 445 = .ok (.aload_n 0, 1) := by decide +kernel
theorem dL_law_446 : decode cL_law 446 = .ok (.iload_n 3, 1) := by decide +kernel
theorem dL_law_447 : decode cL_law 447 = .ok (.iconst 1, 1) := by decide +kernel
theorem dL_law_448 : decode cL_law 448 = .ok (.iadd, 1) := by decide +kernel
theorem dL_law_449 : decode cL_law 449 = .ok (.iaload, 1) := by decide +kernel
theorem dL_law_450 : decode cL_law 450 = .ok (.aload_n 0, 1) := by decide +kernel
theorem dL_law_451 : decode cL_law 451 = .ok (.iload_n 3, 1) := by decide +kernel
theorem dL_law_452 : decode cL_law 452 = .ok (.iconst 2, 1) := by decide +kernel
theorem dL_law_453 : decode cL_law 453 = .ok (.iadd, 1) := by decide +kernel
theorem dL_law_454 : decode cL_law 454 = .ok (.iaload, 1) := by decide +kernel
theorem dL_law_455 : decode cL_law 455 = .ok (.invokevirtual 49, 3) := by decide +kernel
theorem dL_law_458 : decode cL_law 458 = .ok (.aload_n 2, 1) := by decide +kernel
theorem dL_law_459 : decode cL_law 459 = .ok (.aload_n 0, 1) := by decide +kernel
theorem dL_law_460 : decode cL_law 460 = .ok (.iload_n 3, 1) := by decide +kernel
theorem dL_law_461 : decode cL_law 461 = .ok (.iconst 1, 1) := by decide +kernel
theorem dL_law_462 : decode cL_law 462 = .ok (.iadd, 1) := by decide +kernel
theorem dL_law_463 : decode cL_law 463 = .ok (.iaload, 1) := by decide +kernel
theorem dL_law_464 : decode cL_law 464 = .ok (.aload_n 0, 1) := by decide +kernel
theorem dL_law_465 : decode cL_law 465 = .ok (.iload_n 3, 1) := by decide +kernel
theorem dL_law_466 : decode cL_law 466 = .ok (.iconst 2, 1) := by decide +kernel
theorem dL_law_467 : decode cL_law 467 = .ok (.iadd, 1) := by decide +kernel
theorem dL_law_468 : decode cL_law 468 = .ok (.iaload, 1) := by decide +kernel
theorem dL_law_469 : decode cL_law 469 = .ok (.invokevirtual 52, 3) := by decide +kernel
theorem dL_law_472 : decode cL_law 472 = .ok (.if_icmp .eq 398, 3) := by decide +kernel
theorem dL_law_475 : decode cL_law 475 = .ok (.iconst 0, 1) := by decide +kernel
theorem dL_law_476 : decode cL_law 476 = .ok (.ireturn, 1) := by decide +kernel
theorem dL_law_477 : decode cL_law 477 = .ok (.aload_n 1, 1) := by decide +kernel
theorem dL_law_478 : decode cL_law 478 = .ok (.aload_n 0, 1) := by decide +kernel
theorem dL_law_479 : decode cL_law 479 = .ok (.iload_n 3, 1) := by decide +kernel
theorem dL_law_480 : decode cL_law 480 = .ok (.iconst 1, 1) := by decide +kernel
theorem dL_law_481 : decode cL_law 481 = .ok (.iadd, 1) := by decide +kernel
theorem dL_law_482 : decode cL_law 482 = .ok (.iaload, 1) := by decide +kernel
theorem dL_law_483 : decode cL_law 483 = .ok (.invokevirtual 53, 3) := by decide +kernel
theorem dL_law_486 : decode cL_law 486 = .ok (.aload_n 2, 1) := by decide +kernel
theorem dL_law_487 : decode cL_law 487 = .ok (.aload_n 0, 1) := by decide +kernel
theorem dL_law_488 : decode cL_law 488 = .ok (.iload_n 3, 1) := by decide +kernel
theorem dL_law_489 : decode cL_law 489 = .ok (.iconst 1, 1) := by decide +kernel
theorem dL_law_490 : decode cL_law 490 = .ok (.iadd, 1) := by decide +kernel
theorem dL_law_491 : decode cL_law 491 = .ok (.iaload, 1) := by decide +kernel
theorem dL_law_492 : decode cL_law 492 = .ok (.invokevirtual 56, 3) := by decide +kernel
theorem dL_law_495 : decode cL_law 495 = .ok (.if_icmp .eq 375, 3) := by decide +kernel
theorem dL_law_498 : decode cL_law 498 = .ok (.iconst 0, 1) := by decide +kernel
theorem dL_law_499 : decode cL_law 499 = .ok (.ireturn, 1) := by decide +kernel
theorem dL_law_500 : decode cL_law 500 = .ok (.aload_n 1, 1) := by decide +kernel
theorem dL_law_501 : decode cL_law 501 = .ok (.aload_n 0, 1) := by decide +kernel
theorem dL_law_502 : decode cL_law 502 = .ok (.iload_n 3, 1) := by decide +kernel
theorem dL_law_503 : decode cL_law 503 = .ok (.iconst 1, 1) := by decide +kernel
theorem dL_law_504 : decode cL_law 504 = .ok (.iadd, 1) := by decide +kernel
theorem dL_law_505 : decode cL_law 505 = .ok (.iaload, 1) := by decide +kernel
theorem dL_law_506 : decode cL_law 506 = .ok (.invokevirtual 57, 3) := by decide +kernel
theorem dL_law_509 : decode cL_law 509 = .ok (.aload_n 2, 1) := by decide +kernel
theorem dL_law_510 : decode cL_law 510 = .ok (.aload_n 0, 1) := by decide +kernel
theorem dL_law_511 : decode cL_law 511 = .ok (.iload_n 3, 1) := by decide +kernel
theorem dL_law_512 : decode cL_law 512 = .ok (.iconst 1, 1) := by decide +kernel
theorem dL_law_513 : decode cL_law 513 = .ok (.iadd, 1) := by decide +kernel
theorem dL_law_514 : decode cL_law 514 = .ok (.iaload, 1) := by decide +kernel
theorem dL_law_515 : decode cL_law 515 = .ok (.invokevirtual 60, 3) := by decide +kernel
theorem dL_law_518 : decode cL_law 518 = .ok (.if_icmp .eq 352, 3) := by decide +kernel
theorem dL_law_521 : decode cL_law 521 = .ok (.iconst 0, 1) := by decide +kernel
theorem dL_law_522 : decode cL_law 522 = .ok (.ireturn, 1) := by decide +kernel
theorem dL_law_523 : decode cL_law 523 = .ok (.aload_n 1, 1) := by decide +kernel
theorem dL_law_524 : decode cL_law 524 = .ok (.aload_n 0, 1) := by decide +kernel
theorem dL_law_525 : decode cL_law 525 = .ok (.iload_n 3, 1) := by decide +kernel
theorem dL_law_526 : decode cL_law 526 = .ok (.iconst 1, 1) := by decide +kernel
theorem dL_law_527 : decode cL_law 527 = .ok (.iadd, 1) := by decide +kernel
theorem dL_law_528 : decode cL_law 528 = .ok (.iaload, 1) := by decide +kernel
theorem dL_law_529 : decode cL_law 529 = .ok (.invokevirtual 61, 3) := by decide +kernel
theorem dL_law_532 : decode cL_law 532 = .ok (.aload_n 2, 1) := by decide +kernel
theorem dL_law_533 : decode cL_law 533 = .ok (.aload_n 0, 1) := by decide +kernel
theorem dL_law_534 : decode cL_law 534 = .ok (.iload_n 3, 1) := by decide +kernel
theorem dL_law_535 : decode cL_law 535 = .ok (.iconst 1, 1) := by decide +kernel
theorem dL_law_536 : decode cL_law 536 = .ok (.iadd, 1) := by decide +kernel
theorem dL_law_537 : decode cL_law 537 = .ok (.iaload, 1) := by decide +kernel
theorem dL_law_538 : decode cL_law 538 = .ok (.invokevirtual 64, 3) := by decide +kernel
theorem dL_law_541 : decode cL_law 541 = .ok (.if_icmp .eq 329, 3) := by decide +kernel
theorem dL_law_544 : decode cL_law 544 = .ok (.iconst 0, 1) := by decide +kernel
theorem dL_law_545 : decode cL_law 545 = .ok (.ireturn, 1) := by decide +kernel
theorem dL_law_546 : decode cL_law 546 = .ok (.aload_n 1, 1) := by decide +kernel
theorem dL_law_547 : decode cL_law 547 = .ok (.invokevirtual 65, 3) := by decide +kernel
theorem dL_law_550 : decode cL_law 550 = .ok (.aload_n 2, 1) := by decide +kernel
theorem dL_law_551 : decode cL_law 551 = .ok (.invokevirtual 69, 3) := by decide +kernel
theorem dL_law_554 : decode cL_law 554 = .ok (.if_icmp .eq 316, 3) := by decide +kernel
theorem dL_law_557 : decode cL_law 557 = .ok (.iconst 0, 1) := by decide +kernel
theorem dL_law_558 : decode cL_law 558 = .ok (.ireturn, 1) := by decide +kernel
theorem dL_law_559 : decode cL_law 559 = .ok (.aload_n 1, 1) := by decide +kernel
theorem dL_law_560 : decode cL_law 560 = .ok (.aload_n 0, 1) := by decide +kernel
theorem dL_law_561 : decode cL_law 561 = .ok (.iload_n 3, 1) := by decide +kernel
theorem dL_law_562 : decode cL_law 562 = .ok (.iconst 1, 1) := by decide +kernel
theorem dL_law_563 : decode cL_law 563 = .ok (.iadd, 1) := by decide +kernel
theorem dL_law_564 : decode cL_law 564 = .ok (.iaload, 1) := by decide +kernel
theorem dL_law_565 : decode cL_law 565 = .ok (.invokevirtual 70, 3) := by decide +kernel
theorem dL_law_568 : decode cL_law 568 = .ok (.aload_n 2, 1) := by decide +kernel
theorem dL_law_569 : decode cL_law 569 = .ok (.aload_n 0, 1) := by decide +kernel
theorem dL_law_570 : decode cL_law 570 = .ok (.iload_n 3, 1) := by decide +kernel
theorem dL_law_571 : decode cL_law 571 = .ok (.iconst 1, 1) := by decide +kernel
theorem dL_law_572 : decode cL_law 572 = .ok (.iadd, 1) := by decide +kernel
theorem dL_law_573 : decode cL_law 573 = .ok (.iaload, 1) := by decide +kernel
theorem dL_law_574 : decode cL_law 574 = .ok (.invokevirtual 73, 3) := by decide +kernel
theorem dL_law_577 : decode cL_law 577 = .ok (.if_icmp .eq 293, 3) := by decide +kernel
theorem dL_law_580 : decode cL_law 580 = .ok (.iconst 0, 1) := by decide +kernel
theorem dL_law_581 : decode cL_law 581 = .ok (.ireturn, 1) := by decide +kernel
theorem dL_law_582 : decode cL_law 582 = .ok (.aload_n 1, 1) := by decide +kernel
theorem dL_law_583 : decode cL_law 583 = .ok (.invokevirtual 74, 3) := by decide +kernel
theorem dL_law_586 : decode cL_law 586 = .ok (.aload_n 2, 1) := by decide +kernel
theorem dL_law_587 : decode cL_law 587 = .ok (.invokevirtual 77, 3) := by decide +kernel
theorem dL_law_590 : decode cL_law 590 = .ok (.if_icmp .eq 280, 3) := by decide +kernel
theorem dL_law_593 : decode cL_law 593 = .ok (.iconst 0, 1) := by decide +kernel
theorem dL_law_594 : decode cL_law 594 = .ok (.ireturn, 1) := by decide +kernel
theorem dL_law_595 : decode cL_law 595 = .ok (.aload_n 1, 1) := by decide +kernel
theorem dL_law_596 : decode cL_law 596 = .ok (.aload_n 0, 1) := by decide +kernel
theorem dL_law_597 : decode cL_law 597 = .ok (.iload_n 3, 1) := by decide +kernel
theorem dL_law_598 : decode cL_law 598 = .ok (.iconst 1, 1) := by decide +kernel
theorem dL_law_599 : decode cL_law 599 = .ok (.iadd, 1) := by decide +kernel
theorem dL_law_600 : decode cL_law 600 = .ok (.iaload, 1) := by decide +kernel
theorem dL_law_601 : decode cL_law 601 = .ok (.aload_n 0, 1) := by decide +kernel
theorem dL_law_602 : decode cL_law 602 = .ok (.iload_n 3, 1) := by decide +kernel
theorem dL_law_603 : decode cL_law 603 = .ok (.iconst 2, 1) := by decide +kernel
theorem dL_law_604 : decode cL_law 604 = .ok (.iadd, 1) := by decide +kernel
theorem dL_law_605 : decode cL_law 605 = .ok (.iaload, 1) := by decide +kernel
theorem dL_law_606 : decode cL_law 606 = .ok (.invokevirtual 78, 3) := by decide +kernel
theorem dL_law_609 : decode cL_law 609 = .ok (.aload_n 2, 1) := by decide +kernel
theorem dL_law_610 : decode cL_law 610 = .ok (.aload_n 0, 1) := by decide +kernel
theorem dL_law_611 : decode cL_law 611 = .ok (.iload_n 3, 1) := by decide +kernel
theorem dL_law_612 : decode cL_law 612 = .ok (.iconst 1, 1) := by decide +kernel
theorem dL_law_613 : decode cL_law 613 = .ok (.iadd, 1) := by decide +kernel
theorem dL_law_614 : decode cL_law 614 = .ok (.iaload, 1) := by decide +kernel
theorem dL_law_615 : decode cL_law 615 = .ok (.aload_n 0, 1) := by decide +kernel
theorem dL_law_616 : decode cL_law 616 = .ok (.iload_n 3, 1) := by decide +kernel
theorem dL_law_617 : decode cL_law 617 = .ok (.iconst 2, 1) := by decide +kernel
theorem dL_law_618 : decode cL_law 618 = .ok (.iadd, 1) := by decide +kernel
theorem dL_law_619 : decode cL_law 619 = .ok (.iaload, 1) := by decide +kernel
theorem dL_law_620 : decode cL_law 620 = .ok (.invokevirtual 82, 3) := by decide +kernel
theorem dL_law_623 : decode cL_law 623 = .ok (.lcmp, 1) := by decide +kernel
theorem dL_law_624 : decode cL_law 624 = .ok (.ifCond .eq 246, 3) := by decide +kernel
theorem dL_law_627 : decode cL_law 627 = .ok (.iconst 0, 1) := by decide +kernel
theorem dL_law_628 : decode cL_law 628 = .ok (.ireturn, 1) := by decide +kernel
theorem dL_law_629 : decode cL_law 629 = .ok (.aload_n 1, 1) := by decide +kernel
theorem dL_law_630 : decode cL_law 630 = .ok (.aload_n 0, 1) := by decide +kernel
theorem dL_law_631 : decode cL_law 631 = .ok (.iload_n 3, 1) := by decide +kernel
theorem dL_law_632 : decode cL_law 632 = .ok (.iconst 1, 1) := by decide +kernel
theorem dL_law_633 : decode cL_law 633 = .ok (.iadd, 1) := by decide +kernel
theorem dL_law_634 : decode cL_law 634 = .ok (.iaload, 1) := by decide +kernel
theorem dL_law_635 : decode cL_law 635 = .ok (.aload_n 0, 1) := by decide +kernel
theorem dL_law_636 : decode cL_law 636 = .ok (.iload_n 3, 1) := by decide +kernel
theorem dL_law_637 : decode cL_law 637 = .ok (.iconst 2, 1) := by decide +kernel
theorem dL_law_638 : decode cL_law 638 = .ok (.iadd, 1) := by decide +kernel
theorem dL_law_639 : decode cL_law 639 = .ok (.iaload, 1) := by decide +kernel
theorem dL_law_640 : decode cL_law 640 = .ok (.invokevirtual 83, 3) := by decide +kernel
theorem dL_law_643 : decode cL_law 643 = .ok (.aload_n 2, 1) := by decide +kernel
theorem dL_law_644 : decode cL_law 644 = .ok (.aload_n 0, 1) := by decide +kernel
theorem dL_law_645 : decode cL_law 645 = .ok (.iload_n 3, 1) := by decide +kernel
theorem dL_law_646 : decode cL_law 646 = .ok (.iconst 1, 1) := by decide +kernel
theorem dL_law_647 : decode cL_law 647 = .ok (.iadd, 1) := by decide +kernel
theorem dL_law_648 : decode cL_law 648 = .ok (.iaload, 1) := by decide +kernel
theorem dL_law_649 : decode cL_law 649 = .ok (.aload_n 0, 1) := by decide +kernel
theorem dL_law_650 : decode cL_law 650 = .ok (.iload_n 3, 1) := by decide +kernel
theorem dL_law_651 : decode cL_law 651 = .ok (.iconst 2, 1) := by decide +kernel
theorem dL_law_652 : decode cL_law 652 = .ok (.iadd, 1) := by decide +kernel
theorem dL_law_653 : decode cL_law 653 = .ok (.iaload, 1) := by decide +kernel
theorem dL_law_654 : decode cL_law 654 = .ok (.invokevirtual 86, 3) := by decide +kernel
theorem dL_law_657 : decode cL_law 657 = .ok (.lcmp, 1) := by decide +kernel
theorem dL_law_658 : decode cL_law 658 = .ok (.ifCond .eq 212, 3) := by decide +kernel
theorem dL_law_661 : decode cL_law 661 = .ok (.iconst 0, 1) := by decide +kernel
theorem dL_law_662 : decode cL_law 662 = .ok (.ireturn, 1) := by decide +kernel
theorem dL_law_663 : decode cL_law 663 = .ok (.aload_n 1, 1) := by decide +kernel
theorem dL_law_664 : decode cL_law 664 = .ok (.aload_n 0, 1) := by decide +kernel
theorem dL_law_665 : decode cL_law 665 = .ok (.iload_n 3, 1) := by decide +kernel
theorem dL_law_666 : decode cL_law 666 = .ok (.iconst 1, 1) := by decide +kernel
theorem dL_law_667 : decode cL_law 667 = .ok (.iadd, 1) := by decide +kernel
theorem dL_law_668 : decode cL_law 668 = .ok (.iaload, 1) := by decide +kernel
theorem dL_law_669 : decode cL_law 669 = .ok (.invokevirtual 87, 3) := by decide +kernel
theorem dL_law_672 : decode cL_law 672 = .ok (.aload_n 2, 1) := by decide +kernel
theorem dL_law_673 : decode cL_law 673 = .ok (.aload_n 0, 1) := by decide +kernel
theorem dL_law_674 : decode cL_law 674 = .ok (.iload_n 3, 1) := by decide +kernel
theorem dL_law_675 : decode cL_law 675 = .ok (.iconst 1, 1) := by decide +kernel
theorem dL_law_676 : decode cL_law 676 = .ok (.iadd, 1) := by decide +kernel
theorem dL_law_677 : decode cL_law 677 = .ok (.iaload, 1) := by decide +kernel
theorem dL_law_678 : decode cL_law 678 = .ok (.invokevirtual 91, 3) := by decide +kernel
theorem dL_law_681 : decode cL_law 681 = .ok (.lcmp, 1) := by decide +kernel
theorem dL_law_682 : decode cL_law 682 = .ok (.ifCond .eq 188, 3) := by decide +kernel
theorem dL_law_685 : decode cL_law 685 = .ok (.iconst 0, 1) := by decide +kernel
theorem dL_law_686 : decode cL_law 686 = .ok (.ireturn, 1) := by decide +kernel
theorem dL_law_687 : decode cL_law 687 = .ok (.aload_n 1, 1) := by decide +kernel
theorem dL_law_688 : decode cL_law 688 = .ok (.aload_n 0, 1) := by decide +kernel
theorem dL_law_689 : decode cL_law 689 = .ok (.iload_n 3, 1) := by decide +kernel
theorem dL_law_690 : decode cL_law 690 = .ok (.iconst 1, 1) := by decide +kernel
theorem dL_law_691 : decode cL_law 691 = .ok (.iadd, 1) := by decide +kernel
theorem dL_law_692 : decode cL_law 692 = .ok (.iaload, 1) := by decide +kernel
theorem dL_law_693 : decode cL_law 693 = .ok (.invokevirtual 92, 3) := by decide +kernel
theorem dL_law_696 : decode cL_law 696 = .ok (.aload_n 2, 1) := by decide +kernel
theorem dL_law_697 : decode cL_law 697 = .ok (.aload_n 0, 1) := by decide +kernel
theorem dL_law_698 : decode cL_law 698 = .ok (.iload_n 3, 1) := by decide +kernel
theorem dL_law_699 : decode cL_law 699 = .ok (.iconst 1, 1) := by decide +kernel
theorem dL_law_700 : decode cL_law 700 = .ok (.iadd, 1) := by decide +kernel
theorem dL_law_701 : decode cL_law 701 = .ok (.iaload, 1) := by decide +kernel
theorem dL_law_702 : decode cL_law 702 = .ok (.invokevirtual 95, 3) := by decide +kernel
theorem dL_law_705 : decode cL_law 705 = .ok (.lcmp, 1) := by decide +kernel
theorem dL_law_706 : decode cL_law 706 = .ok (.ifCond .eq 164, 3) := by decide +kernel
theorem dL_law_709 : decode cL_law 709 = .ok (.iconst 0, 1) := by decide +kernel
theorem dL_law_710 : decode cL_law 710 = .ok (.ireturn, 1) := by decide +kernel
theorem dL_law_711 : decode cL_law 711 = .ok (.aload_n 1, 1) := by decide +kernel
theorem dL_law_712 : decode cL_law 712 = .ok (.invokevirtual 96, 3) := by decide +kernel
theorem dL_law_715 : decode cL_law 715 = .ok (.aload_n 2, 1) := by decide +kernel
theorem dL_law_716 : decode cL_law 716 = .ok (.invokevirtual 99, 3) := by decide +kernel
theorem dL_law_719 : decode cL_law 719 = .ok (.if_icmp .eq 151, 3) := by decide +kernel
theorem dL_law_722 : decode cL_law 722 = .ok (.iconst 0, 1) := by decide +kernel
theorem dL_law_723 : decode cL_law 723 = .ok (.ireturn, 1) := by decide +kernel
theorem dL_law_724 : decode cL_law 724 = .ok (.aload_n 1, 1) := by decide +kernel
theorem dL_law_725 : decode cL_law 725 = .ok (.aload_n 0, 1) := by decide +kernel
theorem dL_law_726 : decode cL_law 726 = .ok (.iload_n 3, 1) := by decide +kernel
theorem dL_law_727 : decode cL_law 727 = .ok (.iconst 1, 1) := by decide +kernel
theorem dL_law_728 : decode cL_law 728 = .ok (.iadd, 1) := by decide +kernel
theorem dL_law_729 : decode cL_law 729 = .ok (.iaload, 1) := by decide +kernel
theorem dL_law_730 : decode cL_law 730 = .ok (.aload_n 0, 1) := by decide +kernel
theorem dL_law_731 : decode cL_law 731 = .ok (.iload_n 3, 1) := by decide +kernel
theorem dL_law_732 : decode cL_law 732 = .ok (.iconst 2, 1) := by decide +kernel
theorem dL_law_733 : decode cL_law 733 = .ok (.iadd, 1) := by decide +kernel
theorem dL_law_734 : decode cL_law 734 = .ok (.iaload, 1) := by decide +kernel
theorem dL_law_735 : decode cL_law 735 = .ok (.invokevirtual 100, 3) := by decide +kernel
theorem dL_law_738 : decode cL_law 738 = .ok (.aload_n 2, 1) := by decide +kernel
theorem dL_law_739 : decode cL_law 739 = .ok (.aload_n 0, 1) := by decide +kernel
theorem dL_law_740 : decode cL_law 740 = .ok (.iload_n 3, 1) := by decide +kernel
theorem dL_law_741 : decode cL_law 741 = .ok (.iconst 1, 1) := by decide +kernel
theorem dL_law_742 : decode cL_law 742 = .ok (.iadd, 1) := by decide +kernel
theorem dL_law_743 : decode cL_law 743 = .ok (.iaload, 1) := by decide +kernel
theorem dL_law_744 : decode cL_law 744 = .ok (.aload_n 0, 1) := by decide +kernel
theorem dL_law_745 : decode cL_law 745 = .ok (.iload_n 3, 1) := by decide +kernel
theorem dL_law_746 : decode cL_law 746 = .ok (.iconst 2, 1) := by decide +kernel
theorem dL_law_747 : decode cL_law 747 = .ok (.iadd, 1) := by decide +kernel
theorem dL_law_748 : decode cL_law 748 = .ok (.iaload, 1) := by decide +kernel
theorem dL_law_749 : decode cL_law 749 = .ok (.invokevirtual 103, 3) := by decide +kernel
theorem dL_law_752 : decode cL_law 752 = .ok (.if_icmp .eq 118, 3) := by decide +kernel
theorem dL_law_755 : decode cL_law 755 = .ok (.iconst 0, 1) := by decide +kernel
theorem dL_law_756 : decode cL_law 756 = .ok (.ireturn, 1) := by decide +kernel
theorem dL_law_757 : decode cL_law 757 = .ok (.aload_n 1, 1) := by decide +kernel
theorem dL_law_758 : decode cL_law 758 = .ok (.aload_n 0, 1) := by decide +kernel
theorem dL_law_759 : decode cL_law 759 = .ok (.iload_n 3, 1) := by decide +kernel
theorem dL_law_760 : decode cL_law 760 = .ok (.iconst 1, 1) := by decide +kernel
theorem dL_law_761 : decode cL_law 761 = .ok (.iadd, 1) := by decide +kernel
theorem dL_law_762 : decode cL_law 762 = .ok (.iaload, 1) := by decide +kernel
theorem dL_law_763 : decode cL_law 763 = .ok (.invokevirtual 104, 3) := by decide +kernel
theorem dL_law_766 : decode cL_law 766 = .ok (.aload_n 2, 1) := by decide +kernel
theorem dL_law_767 : decode cL_law 767 = .ok (.aload_n 0, 1) := by decide +kernel
theorem dL_law_768 : decode cL_law 768 = .ok (.iload_n 3, 1) := by decide +kernel
theorem dL_law_769 : decode cL_law 769 = .ok (.iconst 1, 1) := by decide +kernel
theorem dL_law_770 : decode cL_law 770 = .ok (.iadd, 1) := by decide +kernel
theorem dL_law_771 : decode cL_law 771 = .ok (.iaload, 1) := by decide +kernel
theorem dL_law_772 : decode cL_law 772 = .ok (.invokevirtual 107, 3) := by decide +kernel
theorem dL_law_775 : decode cL_law 775 = .ok (.if_icmp .eq 95, 3) := by decide +kernel
theorem dL_law_778 : decode cL_law 778 = .ok (.iconst 0, 1) := by decide +kernel
theorem dL_law_779 : decode cL_law 779 = .ok (.ireturn, 1) := by decide +kernel
theorem dL_law_780 : decode cL_law 780 = .ok (.aload_n 1, 1) := by decide +kernel
theorem dL_law_781 : decode cL_law 781 = .ok (.aload_n 0, 1) := by decide +kernel
theorem dL_law_782 : decode cL_law 782 = .ok (.iload_n 3, 1) := by decide +kernel
theorem dL_law_783 : decode cL_law 783 = .ok (.iconst 1, 1) := by decide +kernel
theorem dL_law_784 : decode cL_law 784 = .ok (.iadd, 1) := by decide +kernel
theorem dL_law_785 : decode cL_law 785 = .ok (.iaload, 1) := by decide +kernel
theorem dL_law_786 : decode cL_law 786 = .ok (.aload_n 0, 1) := by decide +kernel
theorem dL_law_787 : decode cL_law 787 = .ok (.iload_n 3, 1) := by decide +kernel
theorem dL_law_788 : decode cL_law 788 = .ok (.iconst 2, 1) := by decide +kernel
theorem dL_law_789 : decode cL_law 789 = .ok (.iadd, 1) := by decide +kernel
theorem dL_law_790 : decode cL_law 790 = .ok (.iaload, 1) := by decide +kernel
theorem dL_law_791 : decode cL_law 791 = .ok (.invokevirtual 108, 3) := by decide +kernel
theorem dL_law_794 : decode cL_law 794 = .ok (.aload_n 2, 1) := by decide +kernel
theorem dL_law_795 : decode cL_law 795 = .ok (.aload_n 0, 1) := by decide +kernel
theorem dL_law_796 : decode cL_law 796 = .ok (.iload_n 3, 1) := by decide +kernel
theorem dL_law_797 : decode cL_law 797 = .ok (.iconst 1, 1) := by decide +kernel
theorem dL_law_798 : decode cL_law 798 = .ok (.iadd, 1) := by decide +kernel
theorem dL_law_799 : decode cL_law 799 = .ok (.iaload, 1) := by decide +kernel
theorem dL_law_800 : decode cL_law 800 = .ok (.aload_n 0, 1) := by decide +kernel
theorem dL_law_801 : decode cL_law 801 = .ok (.iload_n 3, 1) := by decide +kernel
theorem dL_law_802 : decode cL_law 802 = .ok (.iconst 2, 1) := by decide +kernel
theorem dL_law_803 : decode cL_law 803 = .ok (.iadd, 1) := by decide +kernel
theorem dL_law_804 : decode cL_law 804 = .ok (.iaload, 1) := by decide +kernel
theorem dL_law_805 : decode cL_law 805 = .ok (.invokevirtual 111, 3) := by decide +kernel
theorem dL_law_808 : decode cL_law 808 = .ok (.if_icmp .eq 62, 3) := by decide +kernel
theorem dL_law_811 : decode cL_law 811 = .ok (.iconst 0, 1) := by decide +kernel
theorem dL_law_812 : decode cL_law 812 = .ok (.ireturn, 1) := by decide +kernel
theorem dL_law_813 : decode cL_law 813 = .ok (.aload_n 1, 1) := by decide +kernel
theorem dL_law_814 : decode cL_law 814 = .ok (.aload_n 0, 1) := by decide +kernel
theorem dL_law_815 : decode cL_law 815 = .ok (.iload_n 3, 1) := by decide +kernel
theorem dL_law_816 : decode cL_law 816 = .ok (.iconst 1, 1) := by decide +kernel
theorem dL_law_817 : decode cL_law 817 = .ok (.iadd, 1) := by decide +kernel
theorem dL_law_818 : decode cL_law 818 = .ok (.iaload, 1) := by decide +kernel
theorem dL_law_819 : decode cL_law 819 = .ok (.aload_n 0, 1) := by decide +kernel
theorem dL_law_820 : decode cL_law 820 = .ok (.iload_n 3, 1) := by decide +kernel
theorem dL_law_821 : decode cL_law 821 = .ok (.iconst 2, 1) := by decide +kernel
theorem dL_law_822 : decode cL_law 822 = .ok (.iadd, 1) := by decide +kernel
theorem dL_law_823 : decode cL_law 823 = .ok (.iaload, 1) := by decide +kernel
theorem dL_law_824 : decode cL_law 824 = .ok (.invokevirtual 112, 3) := by decide +kernel
theorem dL_law_827 : decode cL_law 827 = .ok (.aload_n 2, 1) := by decide +kernel
theorem dL_law_828 : decode cL_law 828 = .ok (.aload_n 0, 1) := by decide +kernel
theorem dL_law_829 : decode cL_law 829 = .ok (.iload_n 3, 1) := by decide +kernel
theorem dL_law_830 : decode cL_law 830 = .ok (.iconst 1, 1) := by decide +kernel
theorem dL_law_831 : decode cL_law 831 = .ok (.iadd, 1) := by decide +kernel
theorem dL_law_832 : decode cL_law 832 = .ok (.iaload, 1) := by decide +kernel
theorem dL_law_833 : decode cL_law 833 = .ok (.aload_n 0, 1) := by decide +kernel
theorem dL_law_834 : decode cL_law 834 = .ok (.iload_n 3, 1) := by decide +kernel
theorem dL_law_835 : decode cL_law 835 = .ok (.iconst 2, 1) := by decide +kernel
theorem dL_law_836 : decode cL_law 836 = .ok (.iadd, 1) := by decide +kernel
theorem dL_law_837 : decode cL_law 837 = .ok (.iaload, 1) := by decide +kernel
theorem dL_law_838 : decode cL_law 838 = .ok (.invokevirtual 115, 3) := by decide +kernel
theorem dL_law_841 : decode cL_law 841 = .ok (.lcmp, 1) := by decide +kernel
theorem dL_law_842 : decode cL_law 842 = .ok (.ifCond .eq 28, 3) := by decide +kernel
theorem dL_law_845 : decode cL_law 845 = .ok (.iconst 0, 1) := by decide +kernel
theorem dL_law_846 : decode cL_law 846 = .ok (.ireturn, 1) := by decide +kernel
theorem dL_law_847 : decode cL_law 847 = .ok (.aload_n 1, 1) := by decide +kernel
theorem dL_law_848 : decode cL_law 848 = .ok (.aload_n 0, 1) := by decide +kernel
theorem dL_law_849 : decode cL_law 849 = .ok (.iload_n 3, 1) := by decide +kernel
theorem dL_law_850 : decode cL_law 850 = .ok (.iconst 1, 1) := by decide +kernel
theorem dL_law_851 : decode cL_law 851 = .ok (.iadd, 1) := by decide +kernel
theorem dL_law_852 : decode cL_law 852 = .ok (.iaload, 1) := by decide +kernel
theorem dL_law_853 : decode cL_law 853 = .ok (.invokevirtual 116, 3) := by decide +kernel
theorem dL_law_856 : decode cL_law 856 = .ok (.aload_n 2, 1) := by decide +kernel
theorem dL_law_857 : decode cL_law 857 = .ok (.aload_n 0, 1) := by decide +kernel
theorem dL_law_858 : decode cL_law 858 = .ok (.iload_n 3, 1) := by decide +kernel
theorem dL_law_859 : decode cL_law 859 = .ok (.iconst 1, 1) := by decide +kernel
theorem dL_law_860 : decode cL_law 860 = .ok (.iadd, 1) := by decide +kernel
theorem dL_law_861 : decode cL_law 861 = .ok (.iaload, 1) := by decide +kernel
theorem dL_law_862 : decode cL_law 862 = .ok (.invokevirtual 119, 3) := by decide +kernel
theorem dL_law_865 : decode cL_law 865 = .ok (.if_icmp .eq 5, 3) := by decide +kernel
theorem dL_law_868 : decode cL_law 868 = .ok (.iconst 0, 1) := by decide +kernel
theorem dL_law_869 : decode cL_law 869 = .ok (.ireturn, 1) := by decide +kernel
theorem dL_law_870 : decode cL_law 870 = .ok (.iinc 3 7, 3) := by decide +kernel
theorem dL_law_873 : decode cL_law 873 = .ok (.goto (-855), 3) := by decide +kernel
theorem dL_law_876 : decode cL_law 876 = .ok (.iconst 1, 1) := by decide +kernel
theorem dL_law_877 : decode cL_law 877 = .ok (.ireturn, 1) := by decide +kernel
