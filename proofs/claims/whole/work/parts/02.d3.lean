theorem dX12_equip_33 : decode cX12_equip 33 = .ok (.iconst 1, 1) := by decide +kernel
theorem dX12_equip_34 : decode cX12_equip 34 = .ok (.if_icmp .ne 16, 3) := by decide +kernel
theorem dX12_equip_37 : decode cX12_equip 37 = .ok (.aload_n 0, 1) := by decide +kernel
theorem dX12_equip_38 : decode cX12_equip 38 = .ok (.getfield 17, 3) := by decide +kernel
theorem dX12_equip_41 : decode cX12_equip 41 = .ok (.iload_n 1, 1) := by decide +kernel
theorem dX12_equip_42 : decode cX12_equip 42 = .ok (.laload, 1) := by decide +kernel
theorem dX12_equip_43 : decode cX12_equip 43 = .ok (.ldc2_w 129, 3) := by decide +kernel
theorem dX12_equip_46 : decode cX12_equip 46 = .ok (.ldiv, 1) := by decide +kernel
theorem dX12_equip_47 : decode cX12_equip 47 = .ok (.goto 4, 3) := by decide +kernel
theorem dX12_equip_50 : decode cX12_equip 50 = .ok (.lconst 0, 1) := by decide +kernel
theorem dX12_equip_51 : decode cX12_equip 51 = .ok (.lastore, 1) := by decide +kernel
theorem dX12_equip_52 : decode cX12_equip 52 = .ok (.aload_n 0, 1) := by decide +kernel
theorem dX12_equip_53 : decode cX12_equip 53 = .ok (.getfield 41, 3) := by decide +kernel
theorem dX12_equip_56 : decode cX12_equip 56 = .ok (.bipush 8, 2) := by decide +kernel
theorem dX12_equip_58 : decode cX12_equip 58 = .ok (.iload_n 1, 1) := by decide +kernel
theorem dX12_equip_59 : decode cX12_equip 59 = .ok (.imul, 1) := by decide +kernel
theorem dX12_equip_60 : decode cX12_equip 60 = .ok (.iconst 2, 1) := by decide +kernel
theorem dX12_equip_61 : decode cX12_equip 61 = .ok (.iadd, 1) := by decide +kernel
theorem dX12_equip_62 : decode cX12_equip 62 = .ok (.lconst 0, 1) := by decide +kernel
theorem dX12_equip_63 : decode cX12_equip 63 = .ok (.lastore, 1) := by decide +kernel
theorem dX12_equip_64 : decode cX12_equip 64 = .ok (.aload_n 0, 1) := by decide +kernel
theorem dX12_equip_65 : decode cX12_equip 65 = .ok (.getfield 41, 3) := by decide +kernel
theorem dX12_equip_68 : decode cX12_equip 68 = .ok (.bipush 8, 2) := by decide +kernel
theorem dX12_equip_70 : decode cX12_equip 70 = .ok (.iload_n 1, 1) := by decide +kernel
theorem dX12_equip_71 : decode cX12_equip 71 = .ok (.imul, 1) := by decide +kernel
theorem dX12_equip_72 : decode cX12_equip 72 = .ok (.iconst 0, 1) := by decide +kernel
theorem dX12_equip_73 : decode cX12_equip 73 = .ok (.iadd, 1) := by decide +kernel
theorem dX12_equip_74 : decode cX12_equip 74 = .ok (.aload_n 0, 1) := by decide +kernel
theorem dX12_equip_75 : decode cX12_equip 75 = .ok (.iload_n 1, 1) := by decide +kernel
theorem dX12_equip_76 : decode cX12_equip 76 = .ok (.invokevirtual 131, 3) := by decide +kernel
theorem dX12_equip_79 : decode cX12_equip 79 = .ok (.lastore, 1) := by decide +kernel
theorem dX12_equip_80 : decode cX12_equip 80 = .ok (.iload_n 3, 1) := by decide +kernel
theorem dX12_equip_81 : decode cX12_equip 81 = .ok (.ireturn, 1) := by decide +kernel
theorem dX12_setDancer_0 : decode cX12_setDancer 0 = .ok (.aload_n 0, 1) := by decide +kernel
theorem dX12_setDancer_1 : decode cX12_setDancer 1 = .ok (.iload_n 1, 1) := by decide +kernel
theorem dX12_setDancer_2 : decode cX12_setDancer 2 = .ok (.invokevirtual 135, 3) := by decide +kernel
theorem dX12_setDancer_5 : decode cX12_setDancer 5 = .ok (.ifCond .eq 6, 3) := by decide +kernel
theorem dX12_setDancer_8 : decode cX12_setDancer 8 = .ok (.ldc 138, 2) := by decide +kernel
theorem dX12_setDancer_10 : decode cX12_setDancer 10 = .ok (.ireturn, 1) := by decide +kernel
theorem dX12_setDancer_11 : decode cX12_setDancer 11 = .ok (.iload_n 2, 1) := by decide +kernel
theorem dX12_setDancer_12 : decode cX12_setDancer 12 = .ok (.i2l, 1) := by decide +kernel
theorem dX12_setDancer_13 : decode cX12_setDancer 13 = .ok (.ldc2_w 129, 3) := by decide +kernel
theorem dX12_setDancer_16 : decode cX12_setDancer 16 = .ok (.ldc2_w 114, 3) := by decide +kernel
theorem dX12_setDancer_19 : decode cX12_setDancer 19 = .ok (.invokestatic 118, 3) := by decide +kernel
theorem dX12_setDancer_22 : decode cX12_setDancer 22 = .ok (.ifCond .eq 58, 3) := by decide +kernel
theorem dX12_setDancer_25 : decode cX12_setDancer 25 = .ok (.iload_n 3, 1) := by decide +kernel
theorem dX12_setDancer_26 : decode cX12_setDancer 26 = .ok (.i2l, 1) := by decide +kernel
theorem dX12_setDancer_27 : decode cX12_setDancer 27 = .ok (.lconst 0, 1) := by decide +kernel
theorem dX12_setDancer_28 : decode cX12_setDancer 28 = .ok (.ldc2_w 73, 3) := by decide +kernel
theorem dX12_setDancer_31 : decode cX12_setDancer 31 = .ok (.invokestatic 118, 3) := by decide +kernel
theorem dX12_setDancer_34 : decode cX12_setDancer 34 = .ok (.ifCond .eq 46, 3) := by decide +kernel
theorem dX12_setDancer_37 : decode cX12_setDancer 37 = .ok (.iload 4, 2) := by decide +kernel
theorem dX12_setDancer_39 : decode cX12_setDancer 39 = .ok (.i2l, 1) := by decide +kernel
theorem dX12_setDancer_40 : decode cX12_setDancer 40 = .ok (.lconst 1, 1) := by decide +kernel
theorem dX12_setDancer_41 : decode cX12_setDancer 41 = .ok (.ldc2_w 114, 3) := by decide +kernel
theorem dX12_setDancer_44 : decode cX12_setDancer 44 = .ok (.invokestatic 118, 3) := by decide +kernel
theorem dX12_setDancer_47 : decode cX12_setDancer 47 = .ok (.ifCond .eq 33, 3) := by decide +kernel
theorem dX12_setDancer_50 : decode cX12_setDancer 50 = .ok (.iload 5, 2) := by decide +kernel
theorem dX12_setDancer_52 : decode cX12_setDancer 52 = .ok (.i2l, 1) := by decide +kernel
theorem dX12_setDancer_53 : decode cX12_setDancer 53 = .ok (.ldc2_w 139, 3) := by decide +kernel
theorem dX12_setDancer_56 : decode cX12_setDancer 56 = .ok (.ldc2_w 98, 3) := by decide +kernel
theorem dX12_setDancer_59 : decode cX12_setDancer 59 = .ok (.invokestatic 118, 3) := by decide +kernel
theorem dX12_setDancer_62 : decode cX12_setDancer 62 = .ok (.ifCond .eq 18, 3) := by decide +kernel
theorem dX12_setDancer_65 : decode cX12_setDancer 65 = .ok (.iload 6, 2) := by decide +kernel
theorem dX12_setDancer_67 : decode cX12_setDancer 67 = .ok (.i2l, 1) := by decide +kernel
theorem dX12_setDancer_68 : decode cX12_setDancer 68 = .ok (.ldc2_w 139, 3) := by decide +kernel
theorem dX12_setDancer_71 : decode cX12_setDancer 71 = .ok (.ldc2_w 98, 3) := by decide +kernel
theorem dX12_setDancer_74 : decode cX12_setDancer 74 = .ok (.invokestatic 118, 3) := by decide +kernel
theorem dX12_setDancer_77 : decode cX12_setDancer 77 = .ok (.ifCond .ne 6, 3) := by decide +kernel
theorem dX12_setDancer_80 : decode cX12_setDancer 80 = .ok (.ldc 126, 2) := by decide +kernel
theorem dX12_setDancer_82 : decode cX12_setDancer 82 = .ok (.ireturn, 1) := by decide +kernel
theorem dX12_setDancer_83 : decode cX12_setDancer 83 = .ok (.aload_n 0, 1) := by decide +kernel
theorem dX12_setDancer_84 : decode cX12_setDancer 84 = .ok (.getfield 41, 3) := by decide +kernel
theorem dX12_setDancer_87 : decode cX12_setDancer 87 = .ok (.bipush 48, 2) := by decide +kernel
theorem dX12_setDancer_89 : decode cX12_setDancer 89 = .ok (.laload, 1) := by decide +kernel
theorem dX12_setDancer_90 : decode cX12_setDancer 90 = .ok (.lconst 0, 1) := by decide +kernel
theorem dX12_setDancer_91 : decode cX12_setDancer 91 = .ok (.lcmp, 1) := by decide +kernel
theorem dX12_setDancer_92 : decode cX12_setDancer 92 = .ok (.ifCond .le 6, 3) := by decide +kernel
theorem dX12_setDancer_95 : decode cX12_setDancer 95 = .ok (.ldc 127, 2) := by decide +kernel
theorem dX12_setDancer_97 : decode cX12_setDancer 97 = .ok (.ireturn, 1) := by decide +kernel
theorem dX12_setDancer_98 : decode cX12_setDancer 98 = .ok (.aload_n 0, 1) := by decide +kernel
theorem dX12_setDancer_99 : decode cX12_setDancer 99 = .ok (.getfield 17, 3) := by decide +kernel
theorem dX12_setDancer_102 : decode cX12_setDancer 102 = .ok (.iload_n 1, 1) := by decide +kernel
theorem dX12_setDancer_103 : decode cX12_setDancer 103 = .ok (.iload_n 2, 1) := by decide +kernel
theorem dX12_setDancer_104 : decode cX12_setDancer 104 = .ok (.i2l, 1) := by decide +kernel
theorem dX12_setDancer_105 : decode cX12_setDancer 105 = .ok (.lastore, 1) := by decide +kernel
theorem dX12_setDancer_106 : decode cX12_setDancer 106 = .ok (.aload_n 0, 1) := by decide +kernel
theorem dX12_setDancer_107 : decode cX12_setDancer 107 = .ok (.getfield 20, 3) := by decide +kernel
theorem dX12_setDancer_110 : decode cX12_setDancer 110 = .ok (.iload_n 1, 1) := by decide +kernel
theorem dX12_setDancer_111 : decode cX12_setDancer 111 = .ok (.iload_n 3, 1) := by decide +kernel
theorem dX12_setDancer_112 : decode cX12_setDancer 112 = .ok (.i2l, 1) := by decide +kernel
theorem dX12_setDancer_113 : decode cX12_setDancer 113 = .ok (.lastore, 1) := by decide +kernel
theorem dX12_setDancer_114 : decode cX12_setDancer 114 = .ok (.aload_n 0, 1) := by decide +kernel
theorem dX12_setDancer_115 : decode cX12_setDancer 115 = .ok (.getfield 23, 3) := by decide +kernel
theorem dX12_setDancer_118 : decode cX12_setDancer 118 = .ok (.iload_n 1, 1) := by decide +kernel
theorem dX12_setDancer_119 : decode cX12_setDancer 119 = .ok (.iload 4, 2) := by decide +kernel
theorem dX12_setDancer_121 : decode cX12_setDancer 121 = .ok (.i2l, 1) := by decide +kernel
theorem dX12_setDancer_122 : decode cX12_setDancer 122 = .ok (.lastore, 1) := by decide +kernel
theorem dX12_setDancer_123 : decode cX12_setDancer 123 = .ok (.aload_n 0, 1) := by decide +kernel
theorem dX12_setDancer_124 : decode cX12_setDancer 124 = .ok (.getfield 26, 3) := by decide +kernel
theorem dX12_setDancer_127 : decode cX12_setDancer 127 = .ok (.iload_n 1, 1) := by decide +kernel
theorem dX12_setDancer_128 : decode cX12_setDancer 128 = .ok (.iload 5, 2) := by decide +kernel
theorem dX12_setDancer_130 : decode cX12_setDancer 130 = .ok (.i2l, 1) := by decide +kernel
theorem dX12_setDancer_131 : decode cX12_setDancer 131 = .ok (.lastore, 1) := by decide +kernel
theorem dX12_setDancer_132 : decode cX12_setDancer 132 = .ok (.aload_n 0, 1) := by decide +kernel
theorem dX12_setDancer_133 : decode cX12_setDancer 133 = .ok (.getfield 29, 3) := by decide +kernel
theorem dX12_setDancer_136 : decode cX12_setDancer 136 = .ok (.iload_n 1, 1) := by decide +kernel
theorem dX12_setDancer_137 : decode cX12_setDancer 137 = .ok (.iload 6, 2) := by decide +kernel
theorem dX12_setDancer_139 : decode cX12_setDancer 139 = .ok (.i2l, 1) := by decide +kernel
theorem dX12_setDancer_140 : decode cX12_setDancer 140 = .ok (.lastore, 1) := by decide +kernel
theorem dX12_setDancer_141 : decode cX12_setDancer 141 = .ok (.aload_n 0, 1) := by decide +kernel
theorem dX12_setDancer_142 : decode cX12_setDancer 142 = .ok (.iload_n 1, 1) := by decide +kernel
theorem dX12_setDancer_143 : decode cX12_setDancer 143 = .ok (.iconst 1, 1) := by decide +kernel
theorem dX12_setDancer_144 : decode cX12_setDancer 144 = .ok (.invokevirtual 141, 3) := by decide +kernel
theorem dX12_setDancer_147 : decode cX12_setDancer 147 = .ok (.ireturn, 1) := by decide +kernel
theorem dX12_setLoadCell_0 : decode cX12_setLoadCell 0 = .ok (.aload_n 0, 1) := by decide +kernel
theorem dX12_setLoadCell_1 : decode cX12_setLoadCell 1 = .ok (.iload_n 1, 1) := by decide +kernel
theorem dX12_setLoadCell_2 : decode cX12_setLoadCell 2 = .ok (.invokevirtual 135, 3) := by decide +kernel
theorem dX12_setLoadCell_5 : decode cX12_setLoadCell 5 = .ok (.ifCond .eq 6, 3) := by decide +kernel
theorem dX12_setLoadCell_8 : decode cX12_setLoadCell 8 = .ok (.ldc 138, 2) := by decide +kernel
theorem dX12_setLoadCell_10 : decode cX12_setLoadCell 10 = .ok (.ireturn, 1) := by decide +kernel
theorem dX12_setLoadCell_11 : decode cX12_setLoadCell 11 = .ok (.iload_n 2, 1) := by decide +kernel
theorem dX12_setLoadCell_12 : decode cX12_setLoadCell 12 = .ok (.i2l, 1) := by decide +kernel
theorem dX12_setLoadCell_13 : decode cX12_setLoadCell 13 = .ok (.lconst 0, 1) := by decide +kernel
theorem dX12_setLoadCell_14 : decode cX12_setLoadCell 14 = .ok (.ldc2_w 73, 3) := by decide +kernel
theorem dX12_setLoadCell_17 : decode cX12_setLoadCell 17 = .ok (.invokestatic 118, 3) := by decide +kernel
theorem dX12_setLoadCell_20 : decode cX12_setLoadCell 20 = .ok (.ifCond .eq 17, 3) := by decide +kernel
theorem dX12_setLoadCell_23 : decode cX12_setLoadCell 23 = .ok (.iload_n 3, 1) := by decide +kernel
theorem dX12_setLoadCell_24 : decode cX12_setLoadCell 24 = .ok (.i2l, 1) := by decide +kernel
theorem dX12_setLoadCell_25 : decode cX12_setLoadCell 25 = .ok (.ldc2_w 145, 3) := by decide +kernel
theorem dX12_setLoadCell_28 : decode cX12_setLoadCell 28 = .ok (.ldc2_w 147, 3) := by decide +kernel
theorem dX12_setLoadCell_31 : decode cX12_setLoadCell 31 = .ok (.invokestatic 118, 3) := by decide +kernel
theorem dX12_setLoadCell_34 : decode cX12_setLoadCell 34 = .ok (.ifCond .ne 6, 3) := by decide +kernel
theorem dX12_setLoadCell_37 : decode cX12_setLoadCell 37 = .ok (.ldc 126, 2) := by decide +kernel
theorem dX12_setLoadCell_39 : decode cX12_setLoadCell 39 = .ok (.ireturn, 1) := by decide +kernel
theorem dX12_setLoadCell_40 : decode cX12_setLoadCell 40 = .ok (.aload_n 0, 1) := by decide +kernel
theorem dX12_setLoadCell_41 : decode cX12_setLoadCell 41 = .ok (.getfield 41, 3) := by decide +kernel
theorem dX12_setLoadCell_44 : decode cX12_setLoadCell 44 = .ok (.bipush 48, 2) := by decide +kernel
theorem dX12_setLoadCell_46 : decode cX12_setLoadCell 46 = .ok (.laload, 1) := by decide +kernel
theorem dX12_setLoadCell_47 : decode cX12_setLoadCell 47 = .ok (.lconst 0, 1) := by decide +kernel
theorem dX12_setLoadCell_48 : decode cX12_setLoadCell 48 = .ok (.lcmp, 1) := by decide +kernel
theorem dX12_setLoadCell_49 : decode cX12_setLoadCell 49 = .ok (.ifCond .le 6, 3) := by decide +kernel
theorem dX12_setLoadCell_52 : decode cX12_setLoadCell 52 = .ok (.ldc 127, 2) := by decide +kernel
theorem dX12_setLoadCell_54 : decode cX12_setLoadCell 54 = .ok (.ireturn, 1) := by decide +kernel
theorem dX12_setLoadCell_55 : decode cX12_setLoadCell 55 = .ok (.aload_n 0, 1) := by decide +kernel
theorem dX12_setLoadCell_56 : decode cX12_setLoadCell 56 = .ok (.getfield 32, 3) := by decide +kernel
theorem dX12_setLoadCell_59 : decode cX12_setLoadCell 59 = .ok (.iload_n 1, 1) := by decide +kernel
theorem dX12_setLoadCell_60 : decode cX12_setLoadCell 60 = .ok (.iload_n 2, 1) := by decide +kernel
theorem dX12_setLoadCell_61 : decode cX12_setLoadCell 61 = .ok (.i2l, 1) := by decide +kernel
theorem dX12_setLoadCell_62 : decode cX12_setLoadCell 62 = .ok (.lastore, 1) := by decide +kernel
theorem dX12_setLoadCell_63 : decode cX12_setLoadCell 63 = .ok (.aload_n 0, 1) := by decide +kernel
theorem dX12_setLoadCell_64 : decode cX12_setLoadCell 64 = .ok (.getfield 35, 3) := by decide +kernel
theorem dX12_setLoadCell_67 : decode cX12_setLoadCell 67 = .ok (.iload_n 1, 1) := by decide +kernel
theorem dX12_setLoadCell_68 : decode cX12_setLoadCell 68 = .ok (.iload_n 3, 1) := by decide +kernel
theorem dX12_setLoadCell_69 : decode cX12_setLoadCell 69 = .ok (.i2l, 1) := by decide +kernel
theorem dX12_setLoadCell_70 : decode cX12_setLoadCell 70 = .ok (.lastore, 1) := by decide +kernel
theorem dX12_setLoadCell_71 : decode cX12_setLoadCell 71 = .ok (.aload_n 0, 1) := by decide +kernel
theorem dX12_setLoadCell_72 : decode cX12_setLoadCell 72 = .ok (.iload_n 1, 1) := by decide +kernel
theorem dX12_setLoadCell_73 : decode cX12_setLoadCell 73 = .ok (.iconst 2, 1) := by decide +kernel
theorem dX12_setLoadCell_74 : decode cX12_setLoadCell 74 = .ok (.invokevirtual 141, 3) := by decide +kernel
theorem dX12_setLoadCell_77 : decode cX12_setLoadCell 77 = .ok (.ireturn, 1) := by decide +kernel
theorem dX12_setWeb_0 : decode cX12_setWeb 0 = .ok (.iload_n 1, 1) := by decide +kernel
theorem dX12_setWeb_1 : decode cX12_setWeb 1 = .ok (.i2l, 1) := by decide +kernel
theorem dX12_setWeb_2 : decode cX12_setWeb 2 = .ok (.ldc2_w 98, 3) := by decide +kernel
theorem dX12_setWeb_5 : decode cX12_setWeb 5 = .ok (.ldc2_w 116, 3) := by decide +kernel
theorem dX12_setWeb_8 : decode cX12_setWeb 8 = .ok (.invokestatic 118, 3) := by decide +kernel
theorem dX12_setWeb_11 : decode cX12_setWeb 11 = .ok (.ifCond .eq 15, 3) := by decide +kernel
theorem dX12_setWeb_14 : decode cX12_setWeb 14 = .ok (.iload_n 2, 1) := by decide +kernel
theorem dX12_setWeb_15 : decode cX12_setWeb 15 = .ok (.i2l, 1) := by decide +kernel
theorem dX12_setWeb_16 : decode cX12_setWeb 16 = .ok (.lconst 0, 1) := by decide +kernel
theorem dX12_setWeb_17 : decode cX12_setWeb 17 = .ok (.ldc2_w 114, 3) := by decide +kernel
theorem dX12_setWeb_20 : decode cX12_setWeb 20 = .ok (.invokestatic 118, 3) := by decide +kernel
theorem dX12_setWeb_23 : decode cX12_setWeb 23 = .ok (.ifCond .ne 6, 3) := by decide +kernel
theorem dX12_setWeb_26 : decode cX12_setWeb 26 = .ok (.ldc 126, 2) := by decide +kernel
theorem dX12_setWeb_28 : decode cX12_setWeb 28 = .ok (.ireturn, 1) := by decide +kernel
theorem dX12_setWeb_29 : decode cX12_setWeb 29 = .ok (.aload_n 0, 1) := by decide +kernel
theorem dX12_setWeb_30 : decode cX12_setWeb 30 = .ok (.getfield 41, 3) := by decide +kernel
theorem dX12_setWeb_33 : decode cX12_setWeb 33 = .ok (.bipush 48, 2) := by decide +kernel
theorem dX12_setWeb_35 : decode cX12_setWeb 35 = .ok (.laload, 1) := by decide +kernel
theorem dX12_setWeb_36 : decode cX12_setWeb 36 = .ok (.lconst 0, 1) := by decide +kernel
theorem dX12_setWeb_37 : decode cX12_setWeb 37 = .ok (.lcmp, 1) := by decide +kernel
theorem dX12_setWeb_38 : decode cX12_setWeb 38 = .ok (.ifCond .le 6, 3) := by decide +kernel
theorem dX12_setWeb_41 : decode cX12_setWeb 41 = .ok (.ldc 127, 2) := by decide +kernel
theorem dX12_setWeb_43 : decode cX12_setWeb 43 = .ok (.ireturn, 1) := by decide +kernel
theorem dX12_setWeb_44 : decode cX12_setWeb 44 = .ok (.aload_n 0, 1) := by decide +kernel
theorem dX12_setWeb_45 : decode cX12_setWeb 45 = .ok (.getfield 75, 3) := by decide +kernel
theorem dX12_setWeb_48 : decode cX12_setWeb 48 = .ok (.iload_n 1, 1) := by decide +kernel
theorem dX12_setWeb_49 : decode cX12_setWeb 49 = .ok (.i2l, 1) := by decide +kernel
theorem dX12_setWeb_50 : decode cX12_setWeb 50 = .ok (.lcmp, 1) := by decide +kernel
theorem dX12_setWeb_51 : decode cX12_setWeb 51 = .ok (.ifCond .ne 13, 3) := by decide +kernel
theorem dX12_setWeb_54 : decode cX12_setWeb 54 = .ok (.aload_n 0, 1) := by decide +kernel
theorem dX12_setWeb_55 : decode cX12_setWeb 55 = .ok (.getfield 79, 3) := by decide +kernel
theorem dX12_setWeb_58 : decode cX12_setWeb 58 = .ok (.iload_n 2, 1) := by decide +kernel
theorem dX12_setWeb_59 : decode cX12_setWeb 59 = .ok (.i2l, 1) := by decide +kernel
theorem dX12_setWeb_60 : decode cX12_setWeb 60 = .ok (.lcmp, 1) := by decide +kernel
theorem dX12_setWeb_61 : decode cX12_setWeb 61 = .ok (.ifCond .eq 7, 3) := by decide +kernel
theorem dX12_setWeb_64 : decode cX12_setWeb 64 = .ok (.iconst 1, 1) := by decide +kernel
theorem dX12_setWeb_65 : decode cX12_setWeb 65 = .ok (.goto 4, 3) := by decide +kernel
theorem dX12_setWeb_68 : decode cX12_setWeb 68 = .ok (.iconst 0, 1) := by decide +kernel
theorem dX12_setWeb_69 : decode cX12_setWeb 69 = .ok (.istore_n 3, 1) := by decide +kernel
theorem dX12_setWeb_70 : decode cX12_setWeb 70 = .ok (.aload_n 0, 1) := by decide +kernel
theorem dX12_setWeb_71 : decode cX12_setWeb 71 = .ok (.iload_n 1, 1) := by decide +kernel
theorem dX12_setWeb_72 : decode cX12_setWeb 72 = .ok (.i2l, 1) := by decide +kernel
theorem dX12_setWeb_73 : decode cX12_setWeb 73 = .ok (.putfield 75, 3) := by decide +kernel
theorem dX12_setWeb_76 : decode cX12_setWeb 76 = .ok (.aload_n 0, 1) := by decide +kernel
theorem dX12_setWeb_77 : decode cX12_setWeb 77 = .ok (.iload_n 2, 1) := by decide +kernel
theorem dX12_setWeb_78 : decode cX12_setWeb 78 = .ok (.i2l, 1) := by decide +kernel
theorem dX12_setWeb_79 : decode cX12_setWeb 79 = .ok (.putfield 79, 3) := by decide +kernel
theorem dX12_setWeb_82 : decode cX12_setWeb 82 = .ok (.iload_n 3, 1) := by decide +kernel
theorem dX12_setWeb_83 : decode cX12_setWeb 83 = .ok (.ireturn, 1) := by decide +kernel
theorem dX12_setStrength_0 : decode cX12_setStrength 0 = .ok (.iload_n 1, 1) := by decide +kernel
theorem dX12_setStrength_1 : decode cX12_setStrength 1 = .ok (.i2l, 1) := by decide +kernel
theorem dX12_setStrength_2 : decode cX12_setStrength 2 = .ok (.ldc2_w 98, 3) := by decide +kernel
theorem dX12_setStrength_5 : decode cX12_setStrength 5 = .ok (.ldc2_w 116, 3) := by decide +kernel
theorem dX12_setStrength_8 : decode cX12_setStrength 8 = .ok (.invokestatic 118, 3) := by decide +kernel
theorem dX12_setStrength_11 : decode cX12_setStrength 11 = .ok (.ifCond .eq 15, 3) := by decide +kernel
theorem dX12_setStrength_14 : decode cX12_setStrength 14 = .ok (.iload_n 2, 1) := by decide +kernel
theorem dX12_setStrength_15 : decode cX12_setStrength 15 = .ok (.i2l, 1) := by decide +kernel
theorem dX12_setStrength_16 : decode cX12_setStrength 16 = .ok (.lconst 1, 1) := by decide +kernel
theorem dX12_setStrength_17 : decode cX12_setStrength 17 = .ok (.ldc2_w 98, 3) := by decide +kernel
theorem dX12_setStrength_20 : decode cX12_setStrength 20 = .ok (.invokestatic 118, 3) := by decide +kernel
theorem dX12_setStrength_23 : decode cX12_setStrength 23 = .ok (.ifCond .ne 6, 3) := by decide +kernel
theorem dX12_setStrength_26 : decode cX12_setStrength 26 = .ok (.ldc 126, 2) := by decide +kernel
theorem dX12_setStrength_28 : decode cX12_setStrength 28 = .ok (.ireturn, 1) := by decide +kernel
theorem dX12_setStrength_29 : decode cX12_setStrength 29 = .ok (.aload_n 0, 1) := by decide +kernel
theorem dX12_setStrength_30 : decode cX12_setStrength 30 = .ok (.getfield 82, 3) := by decide +kernel
theorem dX12_setStrength_33 : decode cX12_setStrength 33 = .ok (.iload_n 1, 1) := by decide +kernel
theorem dX12_setStrength_34 : decode cX12_setStrength 34 = .ok (.i2l, 1) := by decide +kernel
theorem dX12_setStrength_35 : decode cX12_setStrength 35 = .ok (.lcmp, 1) := by decide +kernel
theorem dX12_setStrength_36 : decode cX12_setStrength 36 = .ok (.ifCond .ne 13, 3) := by decide +kernel
theorem dX12_setStrength_39 : decode cX12_setStrength 39 = .ok (.aload_n 0, 1) := by decide +kernel
theorem dX12_setStrength_40 : decode cX12_setStrength 40 = .ok (.getfield 87, 3) := by decide +kernel
theorem dX12_setStrength_43 : decode cX12_setStrength 43 = .ok (.iload_n 2, 1) := by decide +kernel
theorem dX12_setStrength_44 : decode cX12_setStrength 44 = .ok (.i2l, 1) := by decide +kernel
theorem dX12_setStrength_45 : decode cX12_setStrength 45 = .ok (.lcmp, 1) := by decide +kernel
theorem dX12_setStrength_46 : decode cX12_setStrength 46 = .ok (.ifCond .eq 7, 3) := by decide +kernel
theorem dX12_setStrength_49 : decode cX12_setStrength 49 = .ok (.iconst 1, 1) := by decide +kernel
theorem dX12_setStrength_50 : decode cX12_setStrength 50 = .ok (.goto 4, 3) := by decide +kernel
theorem dX12_setStrength_53 : decode cX12_setStrength 53 = .ok (.iconst 0, 1) := by decide +kernel
theorem dX12_setStrength_54 : decode cX12_setStrength 54 = .ok (.istore_n 3, 1) := by decide +kernel
theorem dX12_setStrength_55 : decode cX12_setStrength 55 = .ok (.aload_n 0, 1) := by decide +kernel
theorem dX12_setStrength_56 : decode cX12_setStrength 56 = .ok (.iload_n 1, 1) := by decide +kernel
theorem dX12_setStrength_57 : decode cX12_setStrength 57 = .ok (.i2l, 1) := by decide +kernel
theorem dX12_setStrength_58 : decode cX12_setStrength 58 = .ok (.putfield 82, 3) := by decide +kernel
theorem dX12_setStrength_61 : decode cX12_setStrength 61 = .ok (.aload_n 0, 1) := by decide +kernel
theorem dX12_setStrength_62 : decode cX12_setStrength 62 = .ok (.iload_n 2, 1) := by decide +kernel
theorem dX12_setStrength_63 : decode cX12_setStrength 63 = .ok (.i2l, 1) := by decide +kernel
theorem dX12_setStrength_64 : decode cX12_setStrength 64 = .ok (.putfield 87, 3) := by decide +kernel
theorem dX12_setStrength_67 : decode cX12_setStrength 67 = .ok (.iload_n 3, 1) := by decide +kernel
theorem dX12_setStrength_68 : decode cX12_setStrength 68 = .ok (.ireturn, 1) := by decide +kernel
theorem dX12_setDraw_0 : decode cX12_setDraw 0 = .ok (.iload_n 1, 1) := by decide +kernel
theorem dX12_setDraw_1 : decode cX12_setDraw 1 = .ok (.i2l, 1) := by decide +kernel
theorem dX12_setDraw_2 : decode cX12_setDraw 2 = .ok (.lconst 1, 1) := by decide +kernel
theorem dX12_setDraw_3 : decode cX12_setDraw 3 = .ok (.aload_n 0, 1) := by decide +kernel
theorem dX12_setDraw_4 : decode cX12_setDraw 4 = .ok (.getfield 69, 3) := by decide +kernel
theorem dX12_setDraw_7 : decode cX12_setDraw 7 = .ok (.i2l, 1) := by decide +kernel
theorem dX12_setDraw_8 : decode cX12_setDraw 8 = .ok (.invokestatic 118, 3) := by decide +kernel
theorem dX12_setDraw_11 : decode cX12_setDraw 11 = .ok (.ifCond .ne 6, 3) := by decide +kernel
theorem dX12_setDraw_14 : decode cX12_setDraw 14 = .ok (.ldc 138, 2) := by decide +kernel
theorem dX12_setDraw_16 : decode cX12_setDraw 16 = .ok (.ireturn, 1) := by decide +kernel
theorem dX12_setDraw_17 : decode cX12_setDraw 17 = .ok (.iload_n 2, 1) := by decide +kernel
theorem dX12_setDraw_18 : decode cX12_setDraw 18 = .ok (.i2l, 1) := by decide +kernel
theorem dX12_setDraw_19 : decode cX12_setDraw 19 = .ok (.ldc2_w 149, 3) := by decide +kernel
theorem dX12_setDraw_22 : decode cX12_setDraw 22 = .ok (.ldc2_w 151, 3) := by decide +kernel
theorem dX12_setDraw_25 : decode cX12_setDraw 25 = .ok (.invokestatic 118, 3) := by decide +kernel
theorem dX12_setDraw_28 : decode cX12_setDraw 28 = .ok (.ifCond .ne 6, 3) := by decide +kernel
theorem dX12_setDraw_31 : decode cX12_setDraw 31 = .ok (.ldc 126, 2) := by decide +kernel
theorem dX12_setDraw_33 : decode cX12_setDraw 33 = .ok (.ireturn, 1) := by decide +kernel
theorem dX12_setDraw_34 : decode cX12_setDraw 34 = .ok (.aload_n 0, 1) := by decide +kernel
theorem dX12_setDraw_35 : decode cX12_setDraw 35 = .ok (.getfield 38, 3) := by decide +kernel
theorem dX12_setDraw_38 : decode cX12_setDraw 38 = .ok (.iload_n 1, 1) := by decide +kernel
theorem dX12_setDraw_39 : decode cX12_setDraw 39 = .ok (.iconst 1, 1) := by decide +kernel
theorem dX12_setDraw_40 : decode cX12_setDraw 40 = .ok (.isub, 1) := by decide +kernel
theorem dX12_setDraw_41 : decode cX12_setDraw 41 = .ok (.laload, 1) := by decide +kernel
theorem dX12_setDraw_42 : decode cX12_setDraw 42 = .ok (.l2i, 1) := by decide +kernel
theorem dX12_setDraw_43 : decode cX12_setDraw 43 = .ok (.istore_n 3, 1) := by decide +kernel
theorem dX12_setDraw_44 : decode cX12_setDraw 44 = .ok (.aload_n 0, 1) := by decide +kernel
theorem dX12_setDraw_45 : decode cX12_setDraw 45 = .ok (.getfield 38, 3) := by decide +kernel
theorem dX12_setDraw_48 : decode cX12_setDraw 48 = .ok (.iload_n 1, 1) := by decide +kernel
theorem dX12_setDraw_49 : decode cX12_setDraw 49 = .ok (.iconst 1, 1) := by decide +kernel
theorem dX12_setDraw_50 : decode cX12_setDraw 50 = .ok (.isub, 1) := by decide +kernel
theorem dX12_setDraw_51 : decode cX12_setDraw 51 = .ok (.iload_n 2, 1) := by decide +kernel
theorem dX12_setDraw_52 : decode cX12_setDraw 52 = .ok (.i2l, 1) := by decide +kernel
theorem dX12_setDraw_53 : decode cX12_setDraw 53 = .ok (.lastore, 1) := by decide +kernel
theorem dX12_setDraw_54 : decode cX12_setDraw 54 = .ok (.iload_n 3, 1) := by decide +kernel
theorem dX12_setDraw_55 : decode cX12_setDraw 55 = .ok (.ireturn, 1) := by decide +kernel
theorem dX12_setSpeed_0 : decode cX12_setSpeed 0 = .ok (.iload_n 1, 1) := by decide +kernel
theorem dX12_setSpeed_1 : decode cX12_setSpeed 1 = .ok (.i2l, 1) := by decide +kernel
theorem dX12_setSpeed_2 : decode cX12_setSpeed 2 = .ok (.lconst 0, 1) := by decide +kernel
theorem dX12_setSpeed_3 : decode cX12_setSpeed 3 = .ok (.ldc2_w 151, 3) := by decide +kernel
theorem dX12_setSpeed_6 : decode cX12_setSpeed 6 = .ok (.invokestatic 118, 3) := by decide +kernel
theorem dX12_setSpeed_9 : decode cX12_setSpeed 9 = .ok (.ifCond .eq 15, 3) := by decide +kernel
theorem dX12_setSpeed_12 : decode cX12_setSpeed 12 = .ok (.iload_n 2, 1) := by decide +kernel
theorem dX12_setSpeed_13 : decode cX12_setSpeed 13 = .ok (.i2l, 1) := by decide +kernel
theorem dX12_setSpeed_14 : decode cX12_setSpeed 14 = .ok (.lconst 1, 1) := by decide +kernel
theorem dX12_setSpeed_15 : decode cX12_setSpeed 15 = .ok (.ldc2_w 153, 3) := by decide +kernel
theorem dX12_setSpeed_18 : decode cX12_setSpeed 18 = .ok (.invokestatic 118, 3) := by decide +kernel
theorem dX12_setSpeed_21 : decode cX12_setSpeed 21 = .ok (.ifCond .ne 6, 3) := by decide +kernel
theorem dX12_setSpeed_24 : decode cX12_setSpeed 24 = .ok (.ldc 126, 2) := by decide +kernel
theorem dX12_setSpeed_26 : decode cX12_setSpeed 26 = .ok (.ireturn, 1) := by decide +kernel
theorem dX12_setSpeed_27 : decode cX12_setSpeed 27 = .ok (.aload_n 0, 1) := by decide +kernel
theorem dX12_setSpeed_28 : decode cX12_setSpeed 28 = .ok (.getfield 90, 3) := by decide +kernel
theorem dX12_setSpeed_31 : decode cX12_setSpeed 31 = .ok (.iload_n 1, 1) := by decide +kernel
theorem dX12_setSpeed_32 : decode cX12_setSpeed 32 = .ok (.i2l, 1) := by decide +kernel
theorem dX12_setSpeed_33 : decode cX12_setSpeed 33 = .ok (.lcmp, 1) := by decide +kernel
theorem dX12_setSpeed_34 : decode cX12_setSpeed 34 = .ok (.ifCond .ne 13, 3) := by decide +kernel
theorem dX12_setSpeed_37 : decode cX12_setSpeed 37 = .ok (.aload_n 0, 1) := by decide +kernel
theorem dX12_setSpeed_38 : decode cX12_setSpeed 38 = .ok (.getfield 95, 3) := by decide +kernel
theorem dX12_setSpeed_41 : decode cX12_setSpeed 41 = .ok (.iload_n 2, 1) := by decide +kernel
theorem dX12_setSpeed_42 : decode cX12_setSpeed 42 = .ok (.i2l, 1) := by decide +kernel
theorem dX12_setSpeed_43 : decode cX12_setSpeed 43 = .ok (.lcmp, 1) := by decide +kernel
theorem dX12_setSpeed_44 : decode cX12_setSpeed 44 = .ok (.ifCond .eq 7, 3) := by decide +kernel
theorem dX12_setSpeed_47 : decode cX12_setSpeed 47 = .ok (.iconst 1, 1) := by decide +kernel
theorem dX12_setSpeed_48 : decode cX12_setSpeed 48 = .ok (.goto 4, 3) := by decide +kernel
theorem dX12_setSpeed_51 : decode cX12_setSpeed 51 = .ok (.iconst 0, 1) := by decide +kernel
theorem dX12_setSpeed_52 : decode cX12_setSpeed 52 = .ok (.istore_n 3, 1) := by decide +kernel
theorem dX12_setSpeed_53 : decode cX12_setSpeed 53 = .ok (.aload_n 0, 1) := by decide +kernel
theorem dX12_setSpeed_54 : decode cX12_setSpeed 54 = .ok (.iload_n 1, 1) := by decide +kernel
theorem dX12_setSpeed_55 : decode cX12_setSpeed 55 = .ok (.i2l, 1) := by decide +kernel
theorem dX12_setSpeed_56 : decode cX12_setSpeed 56 = .ok (.putfield 90, 3) := by decide +kernel
theorem dX12_setSpeed_59 : decode cX12_setSpeed 59 = .ok (.aload_n 0, 1) := by decide +kernel
theorem dX12_setSpeed_60 : decode cX12_setSpeed 60 = .ok (.iload_n 2, 1) := by decide +kernel
theorem dX12_setSpeed_61 : decode cX12_setSpeed 61 = .ok (.i2l, 1) := by decide +kernel
theorem dX12_setSpeed_62 : decode cX12_setSpeed 62 = .ok (.putfield 95, 3) := by decide +kernel
theorem dX12_setSpeed_65 : decode cX12_setSpeed 65 = .ok (.iload_n 3, 1) := by decide +kernel
theorem dX12_setSpeed_66 : decode cX12_setSpeed 66 = .ok (.ireturn, 1) := by decide +kernel
theorem dX12_setSplicing_0 : decode cX12_setSplicing 0 = .ok (.iload_n 1, 1) := by decide +kernel
theorem dX12_setSplicing_1 : decode cX12_setSplicing 1 = .ok (.i2l, 1) := by decide +kernel
theorem dX12_setSplicing_2 : decode cX12_setSplicing 2 = .ok (.lconst 0, 1) := by decide +kernel
theorem dX12_setSplicing_3 : decode cX12_setSplicing 3 = .ok (.ldc2_w 151, 3) := by decide +kernel
theorem dX12_setSplicing_6 : decode cX12_setSplicing 6 = .ok (.invokestatic 118, 3) := by decide +kernel
theorem dX12_setSplicing_9 : decode cX12_setSplicing 9 = .ok (.ifCond .eq 15, 3) := by decide +kernel
theorem dX12_setSplicing_12 : decode cX12_setSplicing 12 = .ok (.iload_n 2, 1) := by decide +kernel
theorem dX12_setSplicing_13 : decode cX12_setSplicing 13 = .ok (.i2l, 1) := by decide +kernel
theorem dX12_setSplicing_14 : decode cX12_setSplicing 14 = .ok (.lconst 0, 1) := by decide +kernel
theorem dX12_setSplicing_15 : decode cX12_setSplicing 15 = .ok (.ldc2_w 155, 3) := by decide +kernel
theorem dX12_setSplicing_18 : decode cX12_setSplicing 18 = .ok (.invokestatic 118, 3) := by decide +kernel
theorem dX12_setSplicing_21 : decode cX12_setSplicing 21 = .ok (.ifCond .ne 6, 3) := by decide +kernel
theorem dX12_setSplicing_24 : decode cX12_setSplicing 24 = .ok (.ldc 126, 2) := by decide +kernel
theorem dX12_setSplicing_26 : decode cX12_setSplicing 26 = .ok (.ireturn, 1) := by decide +kernel
theorem dX12_setSplicing_27 : decode cX12_setSplicing 27 = .ok (.aload_n 0, 1) := by decide +kernel
theorem dX12_setSplicing_28 : decode cX12_setSplicing 28 = .ok (.getfield 100, 3) := by decide +kernel
theorem dX12_setSplicing_31 : decode cX12_setSplicing 31 = .ok (.iload_n 1, 1) := by decide +kernel
theorem dX12_setSplicing_32 : decode cX12_setSplicing 32 = .ok (.i2l, 1) := by decide +kernel
theorem dX12_setSplicing_33 : decode cX12_setSplicing 33 = .ok (.lcmp, 1) := by decide +kernel
theorem dX12_setSplicing_34 : decode cX12_setSplicing 34 = .ok (.ifCond .ne 13, 3) := by decide +kernel
theorem dX12_setSplicing_37 : decode cX12_setSplicing 37 = .ok (.aload_n 0, 1) := by decide +kernel
theorem dX12_setSplicing_38 : decode cX12_setSplicing 38 = .ok (.getfield 103, 3) := by decide +kernel
theorem dX12_setSplicing_41 : decode cX12_setSplicing 41 = .ok (.iload_n 2, 1) := by decide +kernel
theorem dX12_setSplicing_42 : decode cX12_setSplicing 42 = .ok (.i2l, 1) := by decide +kernel
theorem dX12_setSplicing_43 : decode cX12_setSplicing 43 = .ok (.lcmp, 1) := by decide +kernel
theorem dX12_setSplicing_44 : decode cX12_setSplicing 44 = .ok (.ifCond .eq 7, 3) := by decide +kernel
theorem dX12_setSplicing_47 : decode cX12_setSplicing 47 = .ok (.iconst 1, 1) := by decide +kernel
theorem dX12_setSplicing_48 : decode cX12_setSplicing 48 = .ok (.goto 4, 3) := by decide +kernel
theorem dX12_setSplicing_51 : decode cX12_setSplicing 51 = .ok (.iconst 0, 1) := by decide +kernel
theorem dX12_setSplicing_52 : decode cX12_setSplicing 52 = .ok (.istore_n 3, 1) := by decide +kernel
theorem dX12_setSplicing_53 : decode cX12_setSplicing 53 = .ok (.aload_n 0, 1) := by decide +kernel
theorem dX12_setSplicing_54 : decode cX12_setSplicing 54 = .ok (.iload_n 1, 1) := by decide +kernel
theorem dX12_setSplicing_55 : decode cX12_setSplicing 55 = .ok (.i2l, 1) := by decide +kernel
theorem dX12_setSplicing_56 : decode cX12_setSplicing 56 = .ok (.putfield 100, 3) := by decide +kernel
theorem dX12_setSplicing_59 : decode cX12_setSplicing 59 = .ok (.aload_n 0, 1) := by decide +kernel
theorem dX12_setSplicing_60 : decode cX12_setSplicing 60 = .ok (.iload_n 2, 1) := by decide +kernel
theorem dX12_setSplicing_61 : decode cX12_setSplicing 61 = .ok (.i2l, 1) := by decide +kernel
theorem dX12_setSplicing_62 : decode cX12_setSplicing 62 = .ok (.putfield 103, 3) := by decide +kernel
theorem dX12_setSplicing_65 : decode cX12_setSplicing 65 = .ok (.iload_n 3, 1) := by decide +kernel
theorem dX12_setSplicing_66 : decode cX12_setSplicing 66 = .ok (.ireturn, 1) := by decide +kernel
theorem dX12_loadRoll_0 : decode cX12_loadRoll 0 = .ok (.iload_n 1, 1) := by decide +kernel
theorem dX12_loadRoll_1 : decode cX12_loadRoll 1 = .ok (.i2l, 1) := by decide +kernel
theorem dX12_loadRoll_2 : decode cX12_loadRoll 2 = .ok (.lconst 1, 1) := by decide +kernel
theorem dX12_loadRoll_3 : decode cX12_loadRoll 3 = .ok (.ldc2_w 106, 3) := by decide +kernel
theorem dX12_loadRoll_6 : decode cX12_loadRoll 6 = .ok (.invokestatic 118, 3) := by decide +kernel
theorem dX12_loadRoll_9 : decode cX12_loadRoll 9 = .ok (.ifCond .ne 6, 3) := by decide +kernel
theorem dX12_loadRoll_12 : decode cX12_loadRoll 12 = .ok (.ldc 126, 2) := by decide +kernel
theorem dX12_loadRoll_14 : decode cX12_loadRoll 14 = .ok (.ireturn, 1) := by decide +kernel
theorem dX12_loadRoll_15 : decode cX12_loadRoll 15 = .ok (.aload_n 0, 1) := by decide +kernel
theorem dX12_loadRoll_16 : decode cX12_loadRoll 16 = .ok (.getfield 41, 3) := by decide +kernel
theorem dX12_loadRoll_19 : decode cX12_loadRoll 19 = .ok (.bipush 52, 2) := by decide +kernel
theorem dX12_loadRoll_21 : decode cX12_loadRoll 21 = .ok (.laload, 1) := by decide +kernel
theorem dX12_loadRoll_22 : decode cX12_loadRoll 22 = .ok (.l2i, 1) := by decide +kernel
theorem dX12_loadRoll_23 : decode cX12_loadRoll 23 = .ok (.istore_n 2, 1) := by decide +kernel
theorem dX12_loadRoll_24 : decode cX12_loadRoll 24 = .ok (.aload_n 0, 1) := by decide +kernel
theorem dX12_loadRoll_25 : decode cX12_loadRoll 25 = .ok (.getfield 41, 3) := by decide +kernel
theorem dX12_loadRoll_28 : decode cX12_loadRoll 28 = .ok (.bipush 51, 2) := by decide +kernel
theorem dX12_loadRoll_30 : decode cX12_loadRoll 30 = .ok (.laload, 1) := by decide +kernel
theorem dX12_loadRoll_31 : decode cX12_loadRoll 31 = .ok (.lconst 0, 1) := by decide +kernel
theorem dX12_loadRoll_32 : decode cX12_loadRoll 32 = .ok (.lcmp, 1) := by decide +kernel
theorem dX12_loadRoll_33 : decode cX12_loadRoll 33 = .ok (.ifCond .ne 18, 3) := by decide +kernel
theorem dX12_loadRoll_36 : decode cX12_loadRoll 36 = .ok (.iload_n 2, 1) := by decide +kernel
theorem dX12_loadRoll_37 : decode cX12_loadRoll 37 = .ok (.ifCond .ne 14, 3) := by decide +kernel
theorem dX12_loadRoll_40 : decode cX12_loadRoll 40 = .ok (.aload_n 0, 1) := by decide +kernel
theorem dX12_loadRoll_41 : decode cX12_loadRoll 41 = .ok (.getfield 41, 3) := by decide +kernel
theorem dX12_loadRoll_44 : decode cX12_loadRoll 44 = .ok (.bipush 51, 2) := by decide +kernel
theorem dX12_loadRoll_46 : decode cX12_loadRoll 46 = .ok (.iload_n 1, 1) := by decide +kernel
theorem dX12_loadRoll_47 : decode cX12_loadRoll 47 = .ok (.i2l, 1) := by decide +kernel
theorem dX12_loadRoll_48 : decode cX12_loadRoll 48 = .ok (.lastore, 1) := by decide +kernel
theorem dX12_loadRoll_49 : decode cX12_loadRoll 49 = .ok (.iconst 0, 1) := by decide +kernel
theorem dX12_loadRoll_50 : decode cX12_loadRoll 50 = .ok (.ireturn, 1) := by decide +kernel
theorem dX12_loadRoll_51 : decode cX12_loadRoll 51 = .ok (.iload_n 2, 1) := by decide +kernel
theorem dX12_loadRoll_52 : decode cX12_loadRoll 52 = .ok (.iconst 4, 1) := by decide +kernel
theorem dX12_loadRoll_53 : decode cX12_loadRoll 53 = .ok (.if_icmp .ne 6, 3) := by decide +kernel
theorem dX12_loadRoll_56 : decode cX12_loadRoll 56 = .ok (.ldc 128, 2) := by decide +kernel
theorem dX12_loadRoll_58 : decode cX12_loadRoll 58 = .ok (.ireturn, 1) := by decide +kernel
theorem dX12_loadRoll_59 : decode cX12_loadRoll 59 = .ok (.aload_n 0, 1) := by decide +kernel
theorem dX12_loadRoll_60 : decode cX12_loadRoll 60 = .ok (.getfield 41, 3) := by decide +kernel
theorem dX12_loadRoll_63 : decode cX12_loadRoll 63 = .ok (.bipush 53, 2) := by decide +kernel
theorem dX12_loadRoll_65 : decode cX12_loadRoll 65 = .ok (.iload_n 2, 1) := by decide +kernel
theorem dX12_loadRoll_66 : decode cX12_loadRoll 66 = .ok (.iadd, 1) := by decide +kernel
theorem dX12_loadRoll_67 : decode cX12_loadRoll 67 = .ok (.iload_n 1, 1) := by decide +kernel
theorem dX12_loadRoll_68 : decode cX12_loadRoll 68 = .ok (.i2l, 1) := by decide +kernel
theorem dX12_loadRoll_69 : decode cX12_loadRoll 69 = .ok (.lastore, 1) := by decide +kernel
theorem dX12_loadRoll_70 : decode cX12_loadRoll 70 = .ok (.aload_n 0, 1) := by decide +kernel
theorem dX12_loadRoll_71 : decode cX12_loadRoll 71 = .ok (.getfield 41, 3) := by decide +kernel
theorem dX12_loadRoll_74 : decode cX12_loadRoll 74 = .ok (.bipush 52, 2) := by decide +kernel
theorem dX12_loadRoll_76 : decode cX12_loadRoll 76 = .ok (.dup2, 1) := by decide +kernel
theorem dX12_loadRoll_77 : decode cX12_loadRoll 77 = .ok (.laload, 1) := by decide +kernel
theorem dX12_loadRoll_78 : decode cX12_loadRoll 78 = .ok (.lconst 1, 1) := by decide +kernel
theorem dX12_loadRoll_79 : decode cX12_loadRoll 79 = .ok (.ladd, 1) := by decide +kernel
theorem dX12_loadRoll_80 : decode cX12_loadRoll 80 = .ok (.lastore, 1) := by decide +kernel
theorem dX12_loadRoll_81 : decode cX12_loadRoll 81 = .ok (.iload_n 2, 1) := by decide +kernel
theorem dX12_loadRoll_82 : decode cX12_loadRoll 82 = .ok (.iconst 1, 1) := by decide +kernel
theorem dX12_loadRoll_83 : decode cX12_loadRoll 83 = .ok (.iadd, 1) := by decide +kernel
theorem dX12_loadRoll_84 : decode cX12_loadRoll 84 = .ok (.ireturn, 1) := by decide +kernel
theorem dX12_setRollLength_0 : decode cX12_setRollLength 0 = .ok (.iload_n 1, 1) := by decide +kernel
theorem dX12_setRollLength_1 : decode cX12_setRollLength 1 = .ok (.i2l, 1) := by decide +kernel
theorem dX12_setRollLength_2 : decode cX12_setRollLength 2 = .ok (.ldc2_w 114, 3) := by decide +kernel
theorem dX12_setRollLength_5 : decode cX12_setRollLength 5 = .ok (.ldc2_w 106, 3) := by decide +kernel
theorem dX12_setRollLength_8 : decode cX12_setRollLength 8 = .ok (.invokestatic 118, 3) := by decide +kernel
theorem dX12_setRollLength_11 : decode cX12_setRollLength 11 = .ok (.ifCond .ne 6, 3) := by decide +kernel
theorem dX12_setRollLength_14 : decode cX12_setRollLength 14 = .ok (.ldc 126, 2) := by decide +kernel
theorem dX12_setRollLength_16 : decode cX12_setRollLength 16 = .ok (.ireturn, 1) := by decide +kernel
theorem dX12_setRollLength_17 : decode cX12_setRollLength 17 = .ok (.aload_n 0, 1) := by decide +kernel
theorem dX12_setRollLength_18 : decode cX12_setRollLength 18 = .ok (.getfield 108, 3) := by decide +kernel
theorem dX12_setRollLength_21 : decode cX12_setRollLength 21 = .ok (.l2i, 1) := by decide +kernel
theorem dX12_setRollLength_22 : decode cX12_setRollLength 22 = .ok (.istore_n 2, 1) := by decide +kernel
theorem dX12_setRollLength_23 : decode cX12_setRollLength 23 = .ok (.aload_n 0, 1) := by decide +kernel
theorem dX12_setRollLength_24 : decode cX12_setRollLength 24 = .ok (.iload_n 1, 1) := by decide +kernel
theorem dX12_setRollLength_25 : decode cX12_setRollLength 25 = .ok (.i2l, 1) := by decide +kernel
theorem dX12_setRollLength_26 : decode cX12_setRollLength 26 = .ok (.putfield 108, 3) := by decide +kernel
theorem dX12_setRollLength_29 : decode cX12_setRollLength 29 = .ok (.iload_n 2, 1) := by decide +kernel
theorem dX12_setRollLength_30 : decode cX12_setRollLength 30 = .ok (.ireturn, 1) := by decide +kernel
theorem dX12_tension_0 : decode cX12_tension 0 = .ok (.aload_n 0, 1) := by decide +kernel
theorem dX12_tension_1 : decode cX12_tension 1 = .ok (.iload_n 1, 1) := by decide +kernel
theorem dX12_tension_2 : decode cX12_tension 2 = .ok (.invokevirtual 131, 3) := by decide +kernel
theorem dX12_tension_5 : decode cX12_tension 5 = .ok (.lstore_n 2, 1) := by decide +kernel
theorem dX12_tension_6 : decode cX12_tension 6 = .ok (.aload_n 0, 1) := by decide +kernel
theorem dX12_tension_7 : decode cX12_tension 7 = .ok (.getfield 41, 3) := by decide +kernel
theorem dX12_tension_10 : decode cX12_tension 10 = .ok (.bipush 8, 2) := by decide +kernel
theorem dX12_tension_12 : decode cX12_tension 12 = .ok (.iload_n 1, 1) := by decide +kernel
theorem dX12_tension_13 : decode cX12_tension 13 = .ok (.imul, 1) := by decide +kernel
theorem dX12_tension_14 : decode cX12_tension 14 = .ok (.iconst 0, 1) := by decide +kernel
theorem dX12_tension_15 : decode cX12_tension 15 = .ok (.iadd, 1) := by decide +kernel
theorem dX12_tension_16 : decode cX12_tension 16 = .ok (.laload, 1) := by decide +kernel
theorem dX12_tension_17 : decode cX12_tension 17 = .ok (.lstore 4, 2) := by decide +kernel
theorem dX12_tension_19 : decode cX12_tension 19 = .ok (.lload_n 2, 1) := by decide +kernel
theorem dX12_tension_20 : decode cX12_tension 20 = .ok (.lload 4, 2) := by decide +kernel
theorem dX12_tension_22 : decode cX12_tension 22 = .ok (.lcmp, 1) := by decide +kernel
theorem dX12_tension_23 : decode cX12_tension 23 = .ok (.ifCond .le 18, 3) := by decide +kernel
theorem dX12_tension_26 : decode cX12_tension 26 = .ok (.aload_n 0, 1) := by decide +kernel
theorem dX12_tension_27 : decode cX12_tension 27 = .ok (.getfield 75, 3) := by decide +kernel
theorem dX12_tension_30 : decode cX12_tension 30 = .ok (.lload_n 2, 1) := by decide +kernel
theorem dX12_tension_31 : decode cX12_tension 31 = .ok (.lload 4, 2) := by decide +kernel
theorem dX12_tension_33 : decode cX12_tension 33 = .ok (.lsub, 1) := by decide +kernel
theorem dX12_tension_34 : decode cX12_tension 34 = .ok (.lmul, 1) := by decide +kernel
theorem dX12_tension_35 : decode cX12_tension 35 = .ok (.lload 4, 2) := by decide +kernel
theorem dX12_tension_37 : decode cX12_tension 37 = .ok (.ldiv, 1) := by decide +kernel
theorem dX12_tension_38 : decode cX12_tension 38 = .ok (.goto 4, 3) := by decide +kernel
theorem dX12_tension_41 : decode cX12_tension 41 = .ok (.lconst 0, 1) := by decide +kernel
theorem dX12_tension_42 : decode cX12_tension 42 = .ok (.lreturn, 1) := by decide +kernel
theorem dX12_nominalSpeed_0 : decode cX12_nominalSpeed 0 = .ok (.lload_n 2, 1) := by decide +kernel
theorem dX12_nominalSpeed_1 : decode cX12_nominalSpeed 1 = .ok (.lstore 4, 2) := by decide +kernel
theorem dX12_nominalSpeed_3 : decode cX12_nominalSpeed 3 = .ok (.iconst 0, 1) := by decide +kernel
theorem dX12_nominalSpeed_4 : decode cX12_nominalSpeed 4 = .ok (.istore 6, 2) := by decide +kernel
theorem dX12_nominalSpeed_6 : decode cX12_nominalSpeed 6 = .ok (.iload 6, 2) := by decide +kernel
theorem dX12_nominalSpeed_8 : decode cX12_nominalSpeed 8 = .ok (.iload_n 1, 1) := by decide +kernel
theorem dX12_nominalSpeed_9 : decode cX12_nominalSpeed 9 = .ok (.if_icmp .ge 31, 3) := by decide +kernel
theorem dX12_nominalSpeed_12 : decode cX12_nominalSpeed 12 = .ok (.lload 4, 2) := by decide +kernel
theorem dX12_nominalSpeed_14 : decode cX12_nominalSpeed 14 = .ok (.ldc2_w 73, 3) := by decide +kernel
theorem dX12_nominalSpeed_17 : decode cX12_nominalSpeed 17 = .ok (.aload_n 0, 1) := by decide +kernel
theorem dX12_nominalSpeed_18 : decode cX12_nominalSpeed 18 = .ok (.getfield 38, 3) := by decide +kernel
theorem dX12_nominalSpeed_21 : decode cX12_nominalSpeed 21 = .ok (.iload 6, 2) := by decide +kernel
theorem dX12_nominalSpeed_23 : decode cX12_nominalSpeed 23 = .ok (.laload, 1) := by decide +kernel
theorem dX12_nominalSpeed_24 : decode cX12_nominalSpeed 24 = .ok (.ladd, 1) := by decide +kernel
theorem dX12_nominalSpeed_25 : decode cX12_nominalSpeed 25 = .ok (.lmul, 1) := by decide +kernel
theorem dX12_nominalSpeed_26 : decode cX12_nominalSpeed 26 = .ok (.ldc2_w 73, 3) := by decide +kernel
theorem dX12_nominalSpeed_29 : decode cX12_nominalSpeed 29 = .ok (.invokestatic 157, 3) := by decide +kernel
theorem dX12_nominalSpeed_32 : decode cX12_nominalSpeed 32 = .ok (.lstore 4, 2) := by decide +kernel
theorem dX12_nominalSpeed_34 : decode cX12_nominalSpeed 34 = .ok (.iinc 6 1, 3) := by decide +kernel
theorem dX12_nominalSpeed_37 : decode cX12_nominalSpeed 37 = .ok (.goto (-31), 3) := by decide +kernel
theorem dX12_nominalSpeed_40 : decode cX12_nominalSpeed 40 = .ok (.lload 4, 2) := by decide +kernel
theorem dX12_nominalSpeed_42 : decode cX12_nominalSpeed 42 = .ok (.lreturn, 1) := by decide +kernel
theorem dX12_speed_0 : decode cX12_speed 0 = .ok (.aload_n 0, 1) := by decide +kernel
theorem dX12_speed_1 : decode cX12_speed 1 = .ok (.getfield 41, 3) := by decide +kernel
theorem dX12_speed_4 : decode cX12_speed 4 = .ok (.bipush 50, 2) := by decide +kernel
theorem dX12_speed_6 : decode cX12_speed 6 = .ok (.laload, 1) := by decide +kernel
theorem dX12_speed_7 : decode cX12_speed 7 = .ok (.lconst 0, 1) := by decide +kernel
theorem dX12_speed_8 : decode cX12_speed 8 = .ok (.lcmp, 1) := by decide +kernel
theorem dX12_speed_9 : decode cX12_speed 9 = .ok (.ifCond .ne 5, 3) := by decide +kernel
theorem dX12_speed_12 : decode cX12_speed 12 = .ok (.lconst 0, 1) := by decide +kernel
theorem dX12_speed_13 : decode cX12_speed 13 = .ok (.lreturn, 1) := by decide +kernel
theorem dX12_speed_14 : decode cX12_speed 14 = .ok (.aload_n 0, 1) := by decide +kernel
theorem dX12_speed_15 : decode cX12_speed 15 = .ok (.iload_n 1, 1) := by decide +kernel
theorem dX12_speed_16 : decode cX12_speed 16 = .ok (.aload_n 0, 1) := by decide +kernel
theorem dX12_speed_17 : decode cX12_speed 17 = .ok (.getfield 41, 3) := by decide +kernel
theorem dX12_speed_20 : decode cX12_speed 20 = .ok (.bipush 50, 2) := by decide +kernel
theorem dX12_speed_22 : decode cX12_speed 22 = .ok (.laload, 1) := by decide +kernel
theorem dX12_speed_23 : decode cX12_speed 23 = .ok (.invokevirtual 161, 3) := by decide +kernel
theorem dX12_speed_26 : decode cX12_speed 26 = .ok (.iload_n 1, 1) := by decide +kernel
theorem dX12_speed_27 : decode cX12_speed 27 = .ok (.ifCond .ne 7, 3) := by decide +kernel
theorem dX12_speed_30 : decode cX12_speed 30 = .ok (.lconst 0, 1) := by decide +kernel
theorem dX12_speed_31 : decode cX12_speed 31 = .ok (.goto 17, 3) := by decide +kernel
theorem dX12_speed_34 : decode cX12_speed 34 = .ok (.aload_n 0, 1) := by decide +kernel
theorem dX12_speed_35 : decode cX12_speed 35 = .ok (.getfield 41, 3) := by decide +kernel
theorem dX12_speed_38 : decode cX12_speed 38 = .ok (.bipush 8, 2) := by decide +kernel
theorem dX12_speed_40 : decode cX12_speed 40 = .ok (.iload_n 1, 1) := by decide +kernel
theorem dX12_speed_41 : decode cX12_speed 41 = .ok (.imul, 1) := by decide +kernel
theorem dX12_speed_42 : decode cX12_speed 42 = .ok (.bipush 8, 2) := by decide +kernel
theorem dX12_speed_44 : decode cX12_speed 44 = .ok (.isub, 1) := by decide +kernel
theorem dX12_speed_45 : decode cX12_speed 45 = .ok (.iconst 3, 1) := by decide +kernel
theorem dX12_speed_46 : decode cX12_speed 46 = .ok (.iadd, 1) := by decide +kernel
theorem dX12_speed_47 : decode cX12_speed 47 = .ok (.laload, 1) := by decide +kernel
theorem dX12_speed_48 : decode cX12_speed 48 = .ok (.ladd, 1) := by decide +kernel
theorem dX12_speed_49 : decode cX12_speed 49 = .ok (.lstore_n 2, 1) := by decide +kernel
theorem dX12_speed_50 : decode cX12_speed 50 = .ok (.lload_n 2, 1) := by decide +kernel
theorem dX12_speed_51 : decode cX12_speed 51 = .ok (.lconst 0, 1) := by decide +kernel
theorem dX12_speed_52 : decode cX12_speed 52 = .ok (.lcmp, 1) := by decide +kernel
theorem dX12_speed_53 : decode cX12_speed 53 = .ok (.ifCond .ge 7, 3) := by decide +kernel
theorem dX12_speed_56 : decode cX12_speed 56 = .ok (.lconst 0, 1) := by decide +kernel
theorem dX12_speed_57 : decode cX12_speed 57 = .ok (.goto 4, 3) := by decide +kernel
theorem dX12_speed_60 : decode cX12_speed 60 = .ok (.lload_n 2, 1) := by decide +kernel
theorem dX12_speed_61 : decode cX12_speed 61 = .ok (.lreturn, 1) := by decide +kernel
theorem dX12_materialTo_0 : decode cX12_materialTo 0 = .ok (.lconst 0, 1) := by decide +kernel
theorem dX12_materialTo_1 : decode cX12_materialTo 1 = .ok (.lstore_n 2, 1) := by decide +kernel
theorem dX12_materialTo_2 : decode cX12_materialTo 2 = .ok (.iconst 0, 1) := by decide +kernel
theorem dX12_materialTo_3 : decode cX12_materialTo 3 = .ok (.istore 4, 2) := by decide +kernel
theorem dX12_materialTo_5 : decode cX12_materialTo 5 = .ok (.iload 4, 2) := by decide +kernel
theorem dX12_materialTo_7 : decode cX12_materialTo 7 = .ok (.iload_n 1, 1) := by decide +kernel
theorem dX12_materialTo_8 : decode cX12_materialTo 8 = .ok (.if_icmp .ge 24, 3) := by decide +kernel
theorem dX12_materialTo_11 : decode cX12_materialTo 11 = .ok (.lload_n 2, 1) := by decide +kernel
theorem dX12_materialTo_12 : decode cX12_materialTo 12 = .ok (.aload_n 0, 1) := by decide +kernel
theorem dX12_materialTo_13 : decode cX12_materialTo 13 = .ok (.getfield 41, 3) := by decide +kernel
theorem dX12_materialTo_16 : decode cX12_materialTo 16 = .ok (.bipush 8, 2) := by decide +kernel
theorem dX12_materialTo_18 : decode cX12_materialTo 18 = .ok (.iload 4, 2) := by decide +kernel
theorem dX12_materialTo_20 : decode cX12_materialTo 20 = .ok (.imul, 1) := by decide +kernel
theorem dX12_materialTo_21 : decode cX12_materialTo 21 = .ok (.iconst 0, 1) := by decide +kernel
theorem dX12_materialTo_22 : decode cX12_materialTo 22 = .ok (.iadd, 1) := by decide +kernel
theorem dX12_materialTo_23 : decode cX12_materialTo 23 = .ok (.laload, 1) := by decide +kernel
theorem dX12_materialTo_24 : decode cX12_materialTo 24 = .ok (.ladd, 1) := by decide +kernel
theorem dX12_materialTo_25 : decode cX12_materialTo 25 = .ok (.lstore_n 2, 1) := by decide +kernel
theorem dX12_materialTo_26 : decode cX12_materialTo 26 = .ok (.iinc 4 1, 3) := by decide +kernel
theorem dX12_materialTo_29 : decode cX12_materialTo 29 = .ok (.goto (-24), 3) := by decide +kernel
theorem dX12_materialTo_32 : decode cX12_materialTo 32 = .ok (.lload_n 2, 1) := by decide +kernel
theorem dX12_materialTo_33 : decode cX12_materialTo 33 = .ok (.lreturn, 1) := by decide +kernel
theorem dX12_isMarkIn_0 : decode cX12_isMarkIn 0 = .ok (.aload_n 0, 1) := by decide +kernel
theorem dX12_isMarkIn_1 : decode cX12_isMarkIn 1 = .ok (.getfield 41, 3) := by decide +kernel
theorem dX12_isMarkIn_4 : decode cX12_isMarkIn 4 = .ok (.bipush 61, 2) := by decide +kernel
theorem dX12_isMarkIn_6 : decode cX12_isMarkIn 6 = .ok (.laload, 1) := by decide +kernel
theorem dX12_isMarkIn_7 : decode cX12_isMarkIn 7 = .ok (.aload_n 0, 1) := by decide +kernel
theorem dX12_isMarkIn_8 : decode cX12_isMarkIn 8 = .ok (.getfield 53, 3) := by decide +kernel
theorem dX12_isMarkIn_11 : decode cX12_isMarkIn 11 = .ok (.iload_n 1, 1) := by decide +kernel
theorem dX12_isMarkIn_12 : decode cX12_isMarkIn 12 = .ok (.laload, 1) := by decide +kernel
theorem dX12_isMarkIn_13 : decode cX12_isMarkIn 13 = .ok (.lsub, 1) := by decide +kernel
theorem dX12_isMarkIn_14 : decode cX12_isMarkIn 14 = .ok (.lstore_n 3, 1) := by decide +kernel
theorem dX12_isMarkIn_15 : decode cX12_isMarkIn 15 = .ok (.lload_n 3, 1) := by decide +kernel
theorem dX12_isMarkIn_16 : decode cX12_isMarkIn 16 = .ok (.aload_n 0, 1) := by decide +kernel
theorem dX12_isMarkIn_17 : decode cX12_isMarkIn 17 = .ok (.iload_n 2, 1) := by decide +kernel
theorem dX12_isMarkIn_18 : decode cX12_isMarkIn 18 = .ok (.invokevirtual 165, 3) := by decide +kernel
theorem dX12_isMarkIn_21 : decode cX12_isMarkIn 21 = .ok (.lcmp, 1) := by decide +kernel
theorem dX12_isMarkIn_22 : decode cX12_isMarkIn 22 = .ok (.ifCond .lt 19, 3) := by decide +kernel
theorem dX12_isMarkIn_25 : decode cX12_isMarkIn 25 = .ok (.lload_n 3, 1) := by decide +kernel
theorem dX12_isMarkIn_26 : decode cX12_isMarkIn 26 = .ok (.aload_n 0, 1) := by decide +kernel
theorem dX12_isMarkIn_27 : decode cX12_isMarkIn 27 = .ok (.iload_n 2, 1) := by decide +kernel
theorem dX12_isMarkIn_28 : decode cX12_isMarkIn 28 = .ok (.iconst 1, 1) := by decide +kernel
theorem dX12_isMarkIn_29 : decode cX12_isMarkIn 29 = .ok (.iadd, 1) := by decide +kernel
theorem dX12_isMarkIn_30 : decode cX12_isMarkIn 30 = .ok (.invokevirtual 165, 3) := by decide +kernel
theorem dX12_isMarkIn_33 : decode cX12_isMarkIn 33 = .ok (.lcmp, 1) := by decide +kernel
theorem dX12_isMarkIn_34 : decode cX12_isMarkIn 34 = .ok (.ifCond .ge 7, 3) := by decide +kernel
theorem dX12_isMarkIn_37 : decode cX12_isMarkIn 37 = .ok (.iconst 1, 1) := by decide +kernel
theorem dX12_isMarkIn_38 : decode cX12_isMarkIn 38 = .ok (.goto 4, 3) := by decide +kernel
theorem dX12_isMarkIn_41 : decode cX12_isMarkIn 41 = .ok (.iconst 0, 1) := by decide +kernel
theorem dX12_isMarkIn_42 : decode cX12_isMarkIn 42 = .ok (.ireturn, 1) := by decide +kernel
theorem dX12_marksIn_0 : decode cX12_marksIn 0 = .ok (.iconst 0, 1) := by decide +kernel
theorem dX12_marksIn_1 : decode cX12_marksIn 1 = .ok (.istore_n 2, 1) := by decide +kernel
theorem dX12_marksIn_2 : decode cX12_marksIn 2 = .ok (.iconst 0, 1) := by decide +kernel
theorem dX12_marksIn_3 : decode cX12_marksIn 3 = .ok (.istore_n 3, 1) := by decide +kernel
theorem dX12_marksIn_4 : decode cX12_marksIn 4 = .ok (.iload_n 3, 1) := by decide +kernel
theorem dX12_marksIn_5 : decode cX12_marksIn 5 = .ok (.i2l, 1) := by decide +kernel
theorem dX12_marksIn_6 : decode cX12_marksIn 6 = .ok (.aload_n 0, 1) := by decide +kernel
theorem dX12_marksIn_7 : decode cX12_marksIn 7 = .ok (.getfield 41, 3) := by decide +kernel
theorem dX12_marksIn_10 : decode cX12_marksIn 10 = .ok (.bipush 62, 2) := by decide +kernel
theorem dX12_marksIn_12 : decode cX12_marksIn 12 = .ok (.laload, 1) := by decide +kernel
theorem dX12_marksIn_13 : decode cX12_marksIn 13 = .ok (.lcmp, 1) := by decide +kernel
theorem dX12_marksIn_14 : decode cX12_marksIn 14 = .ok (.ifCond .ge 26, 3) := by decide +kernel
theorem dX12_marksIn_17 : decode cX12_marksIn 17 = .ok (.iload_n 2, 1) := by decide +kernel
theorem dX12_marksIn_18 : decode cX12_marksIn 18 = .ok (.aload_n 0, 1) := by decide +kernel
theorem dX12_marksIn_19 : decode cX12_marksIn 19 = .ok (.iload_n 3, 1) := by decide +kernel
theorem dX12_marksIn_20 : decode cX12_marksIn 20 = .ok (.iload_n 1, 1) := by decide +kernel
theorem dX12_marksIn_21 : decode cX12_marksIn 21 = .ok (.invokevirtual 168, 3) := by decide +kernel
theorem dX12_marksIn_24 : decode cX12_marksIn 24 = .ok (.ifCond .eq 7, 3) := by decide +kernel
theorem dX12_marksIn_27 : decode cX12_marksIn 27 = .ok (.iconst 1, 1) := by decide +kernel
theorem dX12_marksIn_28 : decode cX12_marksIn 28 = .ok (.goto 4, 3) := by decide +kernel
theorem dX12_marksIn_31 : decode cX12_marksIn 31 = .ok (.iconst 0, 1) := by decide +kernel
theorem dX12_marksIn_32 : decode cX12_marksIn 32 = .ok (.iadd, 1) := by decide +kernel
theorem dX12_marksIn_33 : decode cX12_marksIn 33 = .ok (.istore_n 2, 1) := by decide +kernel
theorem dX12_marksIn_34 : decode cX12_marksIn 34 = .ok (.iinc 3 1, 3) := by decide +kernel
theorem dX12_marksIn_37 : decode cX12_marksIn 37 = .ok (.goto (-33), 3) := by decide +kernel
theorem dX12_marksIn_40 : decode cX12_marksIn 40 = .ok (.iload_n 2, 1) := by decide +kernel
theorem dX12_marksIn_41 : decode cX12_marksIn 41 = .ok (.ireturn, 1) := by decide +kernel
theorem dX12_removeMarks_0 : decode cX12_removeMarks 0 = .ok (.aload_n 0, 1) := by decide +kernel
theorem dX12_removeMarks_1 : decode cX12_removeMarks 1 = .ok (.aload_n 0, 1) := by decide +kernel
theorem dX12_removeMarks_2 : decode cX12_removeMarks 2 = .ok (.getfield 69, 3) := by decide +kernel
theorem dX12_removeMarks_5 : decode cX12_removeMarks 5 = .ok (.invokevirtual 165, 3) := by decide +kernel
theorem dX12_removeMarks_8 : decode cX12_removeMarks 8 = .ok (.lstore_n 1, 1) := by decide +kernel
theorem dX12_removeMarks_9 : decode cX12_removeMarks 9 = .ok (.iconst 0, 1) := by decide +kernel
theorem dX12_removeMarks_10 : decode cX12_removeMarks 10 = .ok (.istore_n 3, 1) := by decide +kernel
theorem dX12_removeMarks_11 : decode cX12_removeMarks 11 = .ok (.iload_n 3, 1) := by decide +kernel
theorem dX12_removeMarks_12 : decode cX12_removeMarks 12 = .ok (.i2l, 1) := by decide +kernel
theorem dX12_removeMarks_13 : decode cX12_removeMarks 13 = .ok (.aload_n 0, 1) := by decide +kernel
theorem dX12_removeMarks_14 : decode cX12_removeMarks 14 = .ok (.getfield 41, 3) := by decide +kernel
theorem dX12_removeMarks_17 : decode cX12_removeMarks 17 = .ok (.bipush 62, 2) := by decide +kernel
theorem dX12_removeMarks_19 : decode cX12_removeMarks 19 = .ok (.laload, 1) := by decide +kernel
theorem dX12_removeMarks_20 : decode cX12_removeMarks 20 = .ok (.lcmp, 1) := by decide +kernel
theorem dX12_removeMarks_21 : decode cX12_removeMarks 21 = .ok (.ifCond .ge 28, 3) := by decide +kernel
theorem dX12_removeMarks_24 : decode cX12_removeMarks 24 = .ok (.aload_n 0, 1) := by decide +kernel
theorem dX12_removeMarks_25 : decode cX12_removeMarks 25 = .ok (.getfield 41, 3) := by decide +kernel
theorem dX12_removeMarks_28 : decode cX12_removeMarks 28 = .ok (.bipush 61, 2) := by decide +kernel
theorem dX12_removeMarks_30 : decode cX12_removeMarks 30 = .ok (.laload, 1) := by decide +kernel
theorem dX12_removeMarks_31 : decode cX12_removeMarks 31 = .ok (.aload_n 0, 1) := by decide +kernel
theorem dX12_removeMarks_32 : decode cX12_removeMarks 32 = .ok (.getfield 53, 3) := by decide +kernel
theorem dX12_removeMarks_35 : decode cX12_removeMarks 35 = .ok (.iload_n 3, 1) := by decide +kernel
theorem dX12_removeMarks_36 : decode cX12_removeMarks 36 = .ok (.laload, 1) := by decide +kernel
theorem dX12_removeMarks_37 : decode cX12_removeMarks 37 = .ok (.lsub, 1) := by decide +kernel
theorem dX12_removeMarks_38 : decode cX12_removeMarks 38 = .ok (.lload_n 1, 1) := by decide +kernel
theorem dX12_removeMarks_39 : decode cX12_removeMarks 39 = .ok (.lcmp, 1) := by decide +kernel
theorem dX12_removeMarks_40 : decode cX12_removeMarks 40 = .ok (.ifCond .lt 9, 3) := by decide +kernel
theorem dX12_removeMarks_43 : decode cX12_removeMarks 43 = .ok (.iinc 3 1, 3) := by decide +kernel
theorem dX12_removeMarks_46 : decode cX12_removeMarks 46 = .ok (.goto (-35), 3) := by decide +kernel
theorem dX12_removeMarks_49 : decode cX12_removeMarks 49 = .ok (.aload_n 0, 1) := by decide +kernel
theorem dX12_removeMarks_50 : decode cX12_removeMarks 50 = .ok (.getfield 41, 3) := by decide +kernel
theorem dX12_removeMarks_53 : decode cX12_removeMarks 53 = .ok (.bipush 62, 2) := by decide +kernel
theorem dX12_removeMarks_55 : decode cX12_removeMarks 55 = .ok (.dup2, 1) := by decide +kernel
theorem dX12_removeMarks_56 : decode cX12_removeMarks 56 = .ok (.laload, 1) := by decide +kernel
theorem dX12_removeMarks_57 : decode cX12_removeMarks 57 = .ok (.iload_n 3, 1) := by decide +kernel
theorem dX12_removeMarks_58 : decode cX12_removeMarks 58 = .ok (.i2l, 1) := by decide +kernel
theorem dX12_removeMarks_59 : decode cX12_removeMarks 59 = .ok (.lsub, 1) := by decide +kernel
theorem dX12_removeMarks_60 : decode cX12_removeMarks 60 = .ok (.lastore, 1) := by decide +kernel
theorem dX12_removeMarks_61 : decode cX12_removeMarks 61 = .ok (.iconst 0, 1) := by decide +kernel
theorem dX12_removeMarks_62 : decode cX12_removeMarks 62 = .ok (.istore 4, 2) := by decide +kernel
theorem dX12_removeMarks_64 : decode cX12_removeMarks 64 = .ok (.iload 4, 2) := by decide +kernel
theorem dX12_removeMarks_66 : decode cX12_removeMarks 66 = .ok (.i2l, 1) := by decide +kernel
theorem dX12_removeMarks_67 : decode cX12_removeMarks 67 = .ok (.aload_n 0, 1) := by decide +kernel
theorem dX12_removeMarks_68 : decode cX12_removeMarks 68 = .ok (.getfield 41, 3) := by decide +kernel
theorem dX12_removeMarks_71 : decode cX12_removeMarks 71 = .ok (.bipush 62, 2) := by decide +kernel
theorem dX12_removeMarks_73 : decode cX12_removeMarks 73 = .ok (.laload, 1) := by decide +kernel
theorem dX12_removeMarks_74 : decode cX12_removeMarks 74 = .ok (.lcmp, 1) := by decide +kernel
theorem dX12_removeMarks_75 : decode cX12_removeMarks 75 = .ok (.ifCond .ge 25, 3) := by decide +kernel
theorem dX12_removeMarks_78 : decode cX12_removeMarks 78 = .ok (.aload_n 0, 1) := by decide +kernel
theorem dX12_removeMarks_79 : decode cX12_removeMarks 79 = .ok (.getfield 53, 3) := by decide +kernel
theorem dX12_removeMarks_82 : decode cX12_removeMarks 82 = .ok (.iload 4, 2) := by decide +kernel
theorem dX12_removeMarks_84 : decode cX12_removeMarks 84 = .ok (.aload_n 0, 1) := by decide +kernel
theorem dX12_removeMarks_85 : decode cX12_removeMarks 85 = .ok (.getfield 53, 3) := by decide +kernel
theorem dX12_removeMarks_88 : decode cX12_removeMarks 88 = .ok (.iload 4, 2) := by decide +kernel
theorem dX12_removeMarks_90 : decode cX12_removeMarks 90 = .ok (.iload_n 3, 1) := by decide +kernel
theorem dX12_removeMarks_91 : decode cX12_removeMarks 91 = .ok (.iadd, 1) := by decide +kernel
theorem dX12_removeMarks_92 : decode cX12_removeMarks 92 = .ok (.laload, 1) := by decide +kernel
theorem dX12_removeMarks_93 : decode cX12_removeMarks 93 = .ok (.lastore, 1) := by decide +kernel
theorem dX12_removeMarks_94 : decode cX12_removeMarks 94 = .ok (.iinc 4 1, 3) := by decide +kernel
theorem dX12_removeMarks_97 : decode cX12_removeMarks 97 = .ok (.goto (-33), 3) := by decide +kernel
theorem dX12_removeMarks_100 : decode cX12_removeMarks 100 = .ok (.return_, 1) := by decide +kernel
theorem dX12_happens_0 : decode cX12_happens 0 = .ok (.aload_n 0, 1) := by decide +kernel
theorem dX12_happens_1 : decode cX12_happens 1 = .ok (.getfield 41, 3) := by decide +kernel
theorem dX12_happens_4 : decode cX12_happens 4 = .ok (.bipush 63, 2) := by decide +kernel
theorem dX12_happens_6 : decode cX12_happens 6 = .ok (.laload, 1) := by decide +kernel
theorem dX12_happens_7 : decode cX12_happens 7 = .ok (.l2i, 1) := by decide +kernel
theorem dX12_happens_8 : decode cX12_happens 8 = .ok (.istore 4, 2) := by decide +kernel
theorem dX12_happens_10 : decode cX12_happens 10 = .ok (.iload 4, 2) := by decide +kernel
theorem dX12_happens_12 : decode cX12_happens 12 = .ok (.bipush 30, 2) := by decide +kernel
theorem dX12_happens_14 : decode cX12_happens 14 = .ok (.if_icmp .ne 40, 3) := by decide +kernel
theorem dX12_happens_17 : decode cX12_happens 17 = .ok (.iinc 4 (-1), 3) := by decide +kernel
theorem dX12_happens_20 : decode cX12_happens 20 = .ok (.iconst 0, 1) := by decide +kernel
theorem dX12_happens_21 : decode cX12_happens 21 = .ok (.istore 5, 2) := by decide +kernel
theorem dX12_happens_23 : decode cX12_happens 23 = .ok (.iload 5, 2) := by decide +kernel
theorem dX12_happens_25 : decode cX12_happens 25 = .ok (.iconst 3, 1) := by decide +kernel
theorem dX12_happens_26 : decode cX12_happens 26 = .ok (.iload 4, 2) := by decide +kernel
theorem dX12_happens_28 : decode cX12_happens 28 = .ok (.imul, 1) := by decide +kernel
theorem dX12_happens_29 : decode cX12_happens 29 = .ok (.if_icmp .ge 25, 3) := by decide +kernel
theorem dX12_happens_32 : decode cX12_happens 32 = .ok (.aload_n 0, 1) := by decide +kernel
theorem dX12_happens_33 : decode cX12_happens 33 = .ok (.getfield 47, 3) := by decide +kernel
theorem dX12_happens_36 : decode cX12_happens 36 = .ok (.iload 5, 2) := by decide +kernel
theorem dX12_happens_38 : decode cX12_happens 38 = .ok (.aload_n 0, 1) := by decide +kernel
theorem dX12_happens_39 : decode cX12_happens 39 = .ok (.getfield 47, 3) := by decide +kernel
theorem dX12_happens_42 : decode cX12_happens 42 = .ok (.iload 5, 2) := by decide +kernel
theorem dX12_happens_44 : decode cX12_happens 44 = .ok (.iconst 3, 1) := by decide +kernel
theorem dX12_happens_45 : decode cX12_happens 45 = .ok (.iadd, 1) := by decide +kernel
theorem dX12_happens_46 : decode cX12_happens 46 = .ok (.laload, 1) := by decide +kernel
theorem dX12_happens_47 : decode cX12_happens 47 = .ok (.lastore, 1) := by decide +kernel
theorem dX12_happens_48 : decode cX12_happens 48 = .ok (.iinc 5 1, 3) := by decide +kernel
theorem dX12_happens_51 : decode cX12_happens 51 = .ok (.goto (-28), 3) := by decide +kernel
theorem dX12_happens_54 : decode cX12_happens 54 = .ok (.aload_n 0, 1) := by decide +kernel
theorem dX12_happens_55 : decode cX12_happens 55 = .ok (.getfield 47, 3) := by decide +kernel
theorem dX12_happens_58 : decode cX12_happens 58 = .ok (.iconst 3, 1) := by decide +kernel
theorem dX12_happens_59 : decode cX12_happens 59 = .ok (.iload 4, 2) := by decide +kernel
theorem dX12_happens_61 : decode cX12_happens 61 = .ok (.imul, 1) := by decide +kernel
theorem dX12_happens_62 : decode cX12_happens 62 = .ok (.aload_n 0, 1) := by decide +kernel
theorem dX12_happens_63 : decode cX12_happens 63 = .ok (.getfield 41, 3) := by decide +kernel
theorem dX12_happens_66 : decode cX12_happens 66 = .ok (.bipush 48, 2) := by decide +kernel
theorem dX12_happens_68 : decode cX12_happens 68 = .ok (.laload, 1) := by decide +kernel
theorem dX12_happens_69 : decode cX12_happens 69 = .ok (.lastore, 1) := by decide +kernel
theorem dX12_happens_70 : decode cX12_happens 70 = .ok (.aload_n 0, 1) := by decide +kernel
theorem dX12_happens_71 : decode cX12_happens 71 = .ok (.getfield 47, 3) := by decide +kernel
theorem dX12_happens_74 : decode cX12_happens 74 = .ok (.iconst 3, 1) := by decide +kernel
theorem dX12_happens_75 : decode cX12_happens 75 = .ok (.iload 4, 2) := by decide +kernel
theorem dX12_happens_77 : decode cX12_happens 77 = .ok (.imul, 1) := by decide +kernel
theorem dX12_happens_78 : decode cX12_happens 78 = .ok (.iconst 1, 1) := by decide +kernel
theorem dX12_happens_79 : decode cX12_happens 79 = .ok (.iadd, 1) := by decide +kernel
theorem dX12_happens_80 : decode cX12_happens 80 = .ok (.iload_n 1, 1) := by decide +kernel
theorem dX12_happens_81 : decode cX12_happens 81 = .ok (.i2l, 1) := by decide +kernel
theorem dX12_happens_82 : decode cX12_happens 82 = .ok (.lastore, 1) := by decide +kernel
theorem dX12_happens_83 : decode cX12_happens 83 = .ok (.aload_n 0, 1) := by decide +kernel
theorem dX12_happens_84 : decode cX12_happens 84 = .ok (.getfield 47, 3) := by decide +kernel
theorem dX12_happens_87 : decode cX12_happens 87 = .ok (.iconst 3, 1) := by decide +kernel
theorem dX12_happens_88 : decode cX12_happens 88 = .ok (.iload 4, 2) := by decide +kernel
theorem dX12_happens_90 : decode cX12_happens 90 = .ok (.imul, 1) := by decide +kernel
theorem dX12_happens_91 : decode cX12_happens 91 = .ok (.iconst 2, 1) := by decide +kernel
theorem dX12_happens_92 : decode cX12_happens 92 = .ok (.iadd, 1) := by decide +kernel
theorem dX12_happens_93 : decode cX12_happens 93 = .ok (.lload_n 2, 1) := by decide +kernel
theorem dX12_happens_94 : decode cX12_happens 94 = .ok (.lastore, 1) := by decide +kernel
theorem dX12_happens_95 : decode cX12_happens 95 = .ok (.aload_n 0, 1) := by decide +kernel
theorem dX12_happens_96 : decode cX12_happens 96 = .ok (.getfield 41, 3) := by decide +kernel
theorem dX12_happens_99 : decode cX12_happens 99 = .ok (.bipush 63, 2) := by decide +kernel
theorem dX12_happens_101 : decode cX12_happens 101 = .ok (.iload 4, 2) := by decide +kernel
theorem dX12_happens_103 : decode cX12_happens 103 = .ok (.iconst 1, 1) := by decide +kernel
theorem dX12_happens_104 : decode cX12_happens 104 = .ok (.iadd, 1) := by decide +kernel
theorem dX12_happens_105 : decode cX12_happens 105 = .ok (.i2l, 1) := by decide +kernel
theorem dX12_happens_106 : decode cX12_happens 106 = .ok (.lastore, 1) := by decide +kernel
theorem dX12_happens_107 : decode cX12_happens 107 = .ok (.return_, 1) := by decide +kernel
theorem dX12_breaks_0 : decode cX12_breaks 0 = .ok (.aload_n 0, 1) := by decide +kernel
theorem dX12_breaks_1 : decode cX12_breaks 1 = .ok (.getfield 41, 3) := by decide +kernel
theorem dX12_breaks_4 : decode cX12_breaks 4 = .ok (.bipush 49, 2) := by decide +kernel
theorem dX12_breaks_6 : decode cX12_breaks 6 = .ok (.lconst 1, 1) := by decide +kernel
theorem dX12_breaks_7 : decode cX12_breaks 7 = .ok (.lastore, 1) := by decide +kernel
theorem dX12_breaks_8 : decode cX12_breaks 8 = .ok (.aload_n 0, 1) := by decide +kernel
theorem dX12_breaks_9 : decode cX12_breaks 9 = .ok (.getfield 41, 3) := by decide +kernel
theorem dX12_breaks_12 : decode cX12_breaks 12 = .ok (.bipush 59, 2) := by decide +kernel
theorem dX12_breaks_14 : decode cX12_breaks 14 = .ok (.lconst 1, 1) := by decide +kernel
theorem dX12_breaks_15 : decode cX12_breaks 15 = .ok (.lastore, 1) := by decide +kernel
theorem dX12_breaks_16 : decode cX12_breaks 16 = .ok (.aload_n 0, 1) := by decide +kernel
theorem dX12_breaks_17 : decode cX12_breaks 17 = .ok (.getfield 41, 3) := by decide +kernel
theorem dX12_breaks_20 : decode cX12_breaks 20 = .ok (.bipush 60, 2) := by decide +kernel
theorem dX12_breaks_22 : decode cX12_breaks 22 = .ok (.iload_n 1, 1) := by decide +kernel
theorem dX12_breaks_23 : decode cX12_breaks 23 = .ok (.i2l, 1) := by decide +kernel
theorem dX12_breaks_24 : decode cX12_breaks 24 = .ok (.lastore, 1) := by decide +kernel
theorem dX12_breaks_25 : decode cX12_breaks 25 = .ok (.aload_n 0, 1) := by decide +kernel
theorem dX12_breaks_26 : decode cX12_breaks 26 = .ok (.iconst 1, 1) := by decide +kernel
theorem dX12_breaks_27 : decode cX12_breaks 27 = .ok (.iload_n 1, 1) := by decide +kernel
theorem dX12_breaks_28 : decode cX12_breaks 28 = .ok (.i2l, 1) := by decide +kernel
theorem dX12_breaks_29 : decode cX12_breaks 29 = .ok (.invokevirtual 172, 3) := by decide +kernel
theorem dX12_breaks_32 : decode cX12_breaks 32 = .ok (.return_, 1) := by decide +kernel
theorem dX12_hurry_0 : decode cX12_hurry 0 = .ok (.aload_n 0, 1) := by decide +kernel
theorem dX12_hurry_1 : decode cX12_hurry 1 = .ok (.getfield 41, 3) := by decide +kernel
theorem dX12_hurry_4 : decode cX12_hurry 4 = .ok (.bipush 51, 2) := by decide +kernel
theorem dX12_hurry_6 : decode cX12_hurry 6 = .ok (.laload, 1) := by decide +kernel
theorem dX12_hurry_7 : decode cX12_hurry 7 = .ok (.aload_n 0, 1) := by decide +kernel
theorem dX12_hurry_8 : decode cX12_hurry 8 = .ok (.getfield 103, 3) := by decide +kernel
theorem dX12_hurry_11 : decode cX12_hurry 11 = .ok (.lcmp, 1) := by decide +kernel
theorem dX12_hurry_12 : decode cX12_hurry 12 = .ok (.ifCond .gt 19, 3) := by decide +kernel
theorem dX12_hurry_15 : decode cX12_hurry 15 = .ok (.aload_n 0, 1) := by decide +kernel
theorem dX12_hurry_16 : decode cX12_hurry 16 = .ok (.getfield 41, 3) := by decide +kernel
theorem dX12_hurry_19 : decode cX12_hurry 19 = .ok (.bipush 52, 2) := by decide +kernel
theorem dX12_hurry_21 : decode cX12_hurry 21 = .ok (.laload, 1) := by decide +kernel
theorem dX12_hurry_22 : decode cX12_hurry 22 = .ok (.lconst 0, 1) := by decide +kernel
theorem dX12_hurry_23 : decode cX12_hurry 23 = .ok (.lcmp, 1) := by decide +kernel
theorem dX12_hurry_24 : decode cX12_hurry 24 = .ok (.ifCond .le 7, 3) := by decide +kernel
theorem dX12_hurry_27 : decode cX12_hurry 27 = .ok (.iconst 1, 1) := by decide +kernel
theorem dX12_hurry_28 : decode cX12_hurry 28 = .ok (.goto 4, 3) := by decide +kernel
theorem dX12_hurry_31 : decode cX12_hurry 31 = .ok (.iconst 0, 1) := by decide +kernel
theorem dX12_hurry_32 : decode cX12_hurry 32 = .ok (.istore_n 1, 1) := by decide +kernel
theorem dX12_hurry_33 : decode cX12_hurry 33 = .ok (.iload_n 1, 1) := by decide +kernel
theorem dX12_hurry_34 : decode cX12_hurry 34 = .ok (.ifCond .eq 22, 3) := by decide +kernel
theorem dX12_hurry_37 : decode cX12_hurry 37 = .ok (.aload_n 0, 1) := by decide +kernel
theorem dX12_hurry_38 : decode cX12_hurry 38 = .ok (.getfield 100, 3) := by decide +kernel
theorem dX12_hurry_41 : decode cX12_hurry 41 = .ok (.aload_n 0, 1) := by decide +kernel
theorem dX12_hurry_42 : decode cX12_hurry 42 = .ok (.getfield 90, 3) := by decide +kernel
theorem dX12_hurry_45 : decode cX12_hurry 45 = .ok (.lcmp, 1) := by decide +kernel
theorem dX12_hurry_46 : decode cX12_hurry 46 = .ok (.ifCond .ge 10, 3) := by decide +kernel
theorem dX12_hurry_49 : decode cX12_hurry 49 = .ok (.aload_n 0, 1) := by decide +kernel
theorem dX12_hurry_50 : decode cX12_hurry 50 = .ok (.getfield 100, 3) := by decide +kernel
theorem dX12_hurry_53 : decode cX12_hurry 53 = .ok (.goto 7, 3) := by decide +kernel
theorem dX12_hurry_56 : decode cX12_hurry 56 = .ok (.aload_n 0, 1) := by decide +kernel
theorem dX12_hurry_57 : decode cX12_hurry 57 = .ok (.getfield 90, 3) := by decide +kernel
theorem dX12_hurry_60 : decode cX12_hurry 60 = .ok (.lstore_n 2, 1) := by decide +kernel
theorem dX12_hurry_61 : decode cX12_hurry 61 = .ok (.aload_n 0, 1) := by decide +kernel
theorem dX12_hurry_62 : decode cX12_hurry 62 = .ok (.getfield 41, 3) := by decide +kernel
theorem dX12_hurry_65 : decode cX12_hurry 65 = .ok (.bipush 50, 2) := by decide +kernel
theorem dX12_hurry_67 : decode cX12_hurry 67 = .ok (.dup2, 1) := by decide +kernel
theorem dX12_hurry_68 : decode cX12_hurry 68 = .ok (.laload, 1) := by decide +kernel
theorem dX12_hurry_69 : decode cX12_hurry 69 = .ok (.lload_n 2, 1) := by decide +kernel
theorem dX12_hurry_70 : decode cX12_hurry 70 = .ok (.aload_n 0, 1) := by decide +kernel
theorem dX12_hurry_71 : decode cX12_hurry 71 = .ok (.getfield 41, 3) := by decide +kernel
theorem dX12_hurry_74 : decode cX12_hurry 74 = .ok (.bipush 50, 2) := by decide +kernel
theorem dX12_hurry_76 : decode cX12_hurry 76 = .ok (.laload, 1) := by decide +kernel
theorem dX12_hurry_77 : decode cX12_hurry 77 = .ok (.lsub, 1) := by decide +kernel
theorem dX12_hurry_78 : decode cX12_hurry 78 = .ok (.aload_n 0, 1) := by decide +kernel
theorem dX12_hurry_79 : decode cX12_hurry 79 = .ok (.getfield 95, 3) := by decide +kernel
theorem dX12_hurry_82 : decode cX12_hurry 82 = .ok (.lneg, 1) := by decide +kernel
theorem dX12_hurry_83 : decode cX12_hurry 83 = .ok (.aload_n 0, 1) := by decide +kernel
theorem dX12_hurry_84 : decode cX12_hurry 84 = .ok (.getfield 95, 3) := by decide +kernel
theorem dX12_hurry_87 : decode cX12_hurry 87 = .ok (.invokestatic 176, 3) := by decide +kernel
theorem dX12_hurry_90 : decode cX12_hurry 90 = .ok (.ladd, 1) := by decide +kernel
theorem dX12_hurry_91 : decode cX12_hurry 91 = .ok (.lastore, 1) := by decide +kernel
theorem dX12_hurry_92 : decode cX12_hurry 92 = .ok (.return_, 1) := by decide +kernel
theorem dX12_feed_0 : decode cX12_feed 0 = .ok (.iconst 0, 1) := by decide +kernel
theorem dX12_feed_1 : decode cX12_feed 1 = .ok (.istore_n 1, 1) := by decide +kernel
theorem dX12_feed_2 : decode cX12_feed 2 = .ok (.iload_n 1, 1) := by decide +kernel
theorem dX12_feed_3 : decode cX12_feed 3 = .ok (.aload_n 0, 1) := by decide +kernel
theorem dX12_feed_4 : decode cX12_feed 4 = .ok (.getfield 69, 3) := by decide +kernel
theorem dX12_feed_7 : decode cX12_feed 7 = .ok (.if_icmp .gt 68, 3) := by decide +kernel
theorem dX12_feed_10 : decode cX12_feed 10 = .ok (.aload_n 0, 1) := by decide +kernel
theorem dX12_feed_11 : decode cX12_feed 11 = .ok (.iload_n 1, 1) := by decide +kernel
theorem dX12_feed_12 : decode cX12_feed 12 = .ok (.invokevirtual 180, 3) := by decide +kernel
theorem dX12_feed_15 : decode cX12_feed 15 = .ok (.lstore_n 2, 1) := by decide +kernel
theorem dX12_feed_16 : decode cX12_feed 16 = .ok (.aload_n 0, 1) := by decide +kernel
theorem dX12_feed_17 : decode cX12_feed 17 = .ok (.getfield 59, 3) := by decide +kernel
theorem dX12_feed_20 : decode cX12_feed 20 = .ok (.iload_n 1, 1) := by decide +kernel
theorem dX12_feed_21 : decode cX12_feed 21 = .ok (.iload_n 1, 1) := by decide +kernel
theorem dX12_feed_22 : decode cX12_feed 22 = .ok (.ifCond .ne 22, 3) := by decide +kernel
theorem dX12_feed_25 : decode cX12_feed 25 = .ok (.lload_n 2, 1) := by decide +kernel
theorem dX12_feed_26 : decode cX12_feed 26 = .ok (.aload_n 0, 1) := by decide +kernel
theorem dX12_feed_27 : decode cX12_feed 27 = .ok (.getfield 75, 3) := by decide +kernel
theorem dX12_feed_30 : decode cX12_feed 30 = .ok (.lmul, 1) := by decide +kernel
theorem dX12_feed_31 : decode cX12_feed 31 = .ok (.aload_n 0, 1) := by decide +kernel
theorem dX12_feed_32 : decode cX12_feed 32 = .ok (.getfield 75, 3) := by decide +kernel
theorem dX12_feed_35 : decode cX12_feed 35 = .ok (.aload_n 0, 1) := by decide +kernel
theorem dX12_feed_36 : decode cX12_feed 36 = .ok (.getfield 79, 3) := by decide +kernel
theorem dX12_feed_39 : decode cX12_feed 39 = .ok (.ladd, 1) := by decide +kernel
theorem dX12_feed_40 : decode cX12_feed 40 = .ok (.ldiv, 1) := by decide +kernel
theorem dX12_feed_41 : decode cX12_feed 41 = .ok (.goto 27, 3) := by decide +kernel
theorem dX12_feed_44 : decode cX12_feed 44 = .ok (.lload_n 2, 1) := by decide +kernel
theorem dX12_feed_45 : decode cX12_feed 45 = .ok (.aload_n 0, 1) := by decide +kernel
theorem dX12_feed_46 : decode cX12_feed 46 = .ok (.getfield 41, 3) := by decide +kernel
theorem dX12_feed_49 : decode cX12_feed 49 = .ok (.bipush 8, 2) := by decide +kernel
theorem dX12_feed_51 : decode cX12_feed 51 = .ok (.iload_n 1, 1) := by decide +kernel
theorem dX12_feed_52 : decode cX12_feed 52 = .ok (.imul, 1) := by decide +kernel
theorem dX12_feed_53 : decode cX12_feed 53 = .ok (.bipush 8, 2) := by decide +kernel
theorem dX12_feed_55 : decode cX12_feed 55 = .ok (.isub, 1) := by decide +kernel
theorem dX12_feed_56 : decode cX12_feed 56 = .ok (.iconst 0, 1) := by decide +kernel
theorem dX12_feed_57 : decode cX12_feed 57 = .ok (.iadd, 1) := by decide +kernel
theorem dX12_feed_58 : decode cX12_feed 58 = .ok (.laload, 1) := by decide +kernel
theorem dX12_feed_59 : decode cX12_feed 59 = .ok (.lmul, 1) := by decide +kernel
theorem dX12_feed_60 : decode cX12_feed 60 = .ok (.aload_n 0, 1) := by decide +kernel
theorem dX12_feed_61 : decode cX12_feed 61 = .ok (.iload_n 1, 1) := by decide +kernel
theorem dX12_feed_62 : decode cX12_feed 62 = .ok (.iconst 1, 1) := by decide +kernel
theorem dX12_feed_63 : decode cX12_feed 63 = .ok (.isub, 1) := by decide +kernel
theorem dX12_feed_64 : decode cX12_feed 64 = .ok (.invokevirtual 131, 3) := by decide +kernel
theorem dX12_feed_67 : decode cX12_feed 67 = .ok (.ldiv, 1) := by decide +kernel
theorem dX12_feed_68 : decode cX12_feed 68 = .ok (.lastore, 1) := by decide +kernel
theorem dX12_feed_69 : decode cX12_feed 69 = .ok (.iinc 1 1, 3) := by decide +kernel
theorem dX12_feed_72 : decode cX12_feed 72 = .ok (.goto (-70), 3) := by decide +kernel
theorem dX12_feed_75 : decode cX12_feed 75 = .ok (.aload_n 0, 1) := by decide +kernel
theorem dX12_feed_76 : decode cX12_feed 76 = .ok (.getfield 41, 3) := by decide +kernel
theorem dX12_feed_79 : decode cX12_feed 79 = .ok (.bipush 61, 2) := by decide +kernel
theorem dX12_feed_81 : decode cX12_feed 81 = .ok (.dup2, 1) := by decide +kernel
theorem dX12_feed_82 : decode cX12_feed 82 = .ok (.laload, 1) := by decide +kernel
theorem dX12_feed_83 : decode cX12_feed 83 = .ok (.aload_n 0, 1) := by decide +kernel
theorem dX12_feed_84 : decode cX12_feed 84 = .ok (.getfield 59, 3) := by decide +kernel
theorem dX12_feed_87 : decode cX12_feed 87 = .ok (.iconst 0, 1) := by decide +kernel
theorem dX12_feed_88 : decode cX12_feed 88 = .ok (.laload, 1) := by decide +kernel
theorem dX12_feed_89 : decode cX12_feed 89 = .ok (.ladd, 1) := by decide +kernel
theorem dX12_feed_90 : decode cX12_feed 90 = .ok (.lastore, 1) := by decide +kernel
theorem dX12_feed_91 : decode cX12_feed 91 = .ok (.iconst 0, 1) := by decide +kernel
theorem dX12_feed_92 : decode cX12_feed 92 = .ok (.istore_n 1, 1) := by decide +kernel
theorem dX12_feed_93 : decode cX12_feed 93 = .ok (.iload_n 1, 1) := by decide +kernel
theorem dX12_feed_94 : decode cX12_feed 94 = .ok (.aload_n 0, 1) := by decide +kernel
theorem dX12_feed_95 : decode cX12_feed 95 = .ok (.getfield 69, 3) := by decide +kernel
theorem dX12_feed_98 : decode cX12_feed 98 = .ok (.if_icmp .ge 60, 3) := by decide +kernel
theorem dX12_feed_101 : decode cX12_feed 101 = .ok (.aload_n 0, 1) := by decide +kernel
theorem dX12_feed_102 : decode cX12_feed 102 = .ok (.getfield 41, 3) := by decide +kernel
theorem dX12_feed_105 : decode cX12_feed 105 = .ok (.bipush 8, 2) := by decide +kernel
theorem dX12_feed_107 : decode cX12_feed 107 = .ok (.iload_n 1, 1) := by decide +kernel
theorem dX12_feed_108 : decode cX12_feed 108 = .ok (.imul, 1) := by decide +kernel
theorem dX12_feed_109 : decode cX12_feed 109 = .ok (.iconst 4, 1) := by decide +kernel
theorem dX12_feed_110 : decode cX12_feed 110 = .ok (.iadd, 1) := by decide +kernel
theorem dX12_feed_111 : decode cX12_feed 111 = .ok (.dup2, 1) := by decide +kernel
theorem dX12_feed_112 : decode cX12_feed 112 = .ok (.laload, 1) := by decide +kernel
theorem dX12_feed_113 : decode cX12_feed 113 = .ok (.aload_n 0, 1) := by decide +kernel
theorem dX12_feed_114 : decode cX12_feed 114 = .ok (.getfield 59, 3) := by decide +kernel
theorem dX12_feed_117 : decode cX12_feed 117 = .ok (.iload_n 1, 1) := by decide +kernel
theorem dX12_feed_118 : decode cX12_feed 118 = .ok (.iconst 1, 1) := by decide +kernel
theorem dX12_feed_119 : decode cX12_feed 119 = .ok (.iadd, 1) := by decide +kernel
theorem dX12_feed_120 : decode cX12_feed 120 = .ok (.laload, 1) := by decide +kernel
theorem dX12_feed_121 : decode cX12_feed 121 = .ok (.ladd, 1) := by decide +kernel
theorem dX12_feed_122 : decode cX12_feed 122 = .ok (.lastore, 1) := by decide +kernel
theorem dX12_feed_123 : decode cX12_feed 123 = .ok (.aload_n 0, 1) := by decide +kernel
theorem dX12_feed_124 : decode cX12_feed 124 = .ok (.getfield 41, 3) := by decide +kernel
theorem dX12_feed_127 : decode cX12_feed 127 = .ok (.bipush 8, 2) := by decide +kernel
theorem dX12_feed_129 : decode cX12_feed 129 = .ok (.iload_n 1, 1) := by decide +kernel
theorem dX12_feed_130 : decode cX12_feed 130 = .ok (.imul, 1) := by decide +kernel
theorem dX12_feed_131 : decode cX12_feed 131 = .ok (.iconst 0, 1) := by decide +kernel
theorem dX12_feed_132 : decode cX12_feed 132 = .ok (.iadd, 1) := by decide +kernel
theorem dX12_feed_133 : decode cX12_feed 133 = .ok (.dup2, 1) := by decide +kernel
theorem dX12_feed_134 : decode cX12_feed 134 = .ok (.laload, 1) := by decide +kernel
theorem dX12_feed_135 : decode cX12_feed 135 = .ok (.aload_n 0, 1) := by decide +kernel
theorem dX12_feed_136 : decode cX12_feed 136 = .ok (.getfield 59, 3) := by decide +kernel
theorem dX12_feed_139 : decode cX12_feed 139 = .ok (.iload_n 1, 1) := by decide +kernel
theorem dX12_feed_140 : decode cX12_feed 140 = .ok (.laload, 1) := by decide +kernel
theorem dX12_feed_141 : decode cX12_feed 141 = .ok (.aload_n 0, 1) := by decide +kernel
theorem dX12_feed_142 : decode cX12_feed 142 = .ok (.getfield 59, 3) := by decide +kernel
theorem dX12_feed_145 : decode cX12_feed 145 = .ok (.iload_n 1, 1) := by decide +kernel
theorem dX12_feed_146 : decode cX12_feed 146 = .ok (.iconst 1, 1) := by decide +kernel
theorem dX12_feed_147 : decode cX12_feed 147 = .ok (.iadd, 1) := by decide +kernel
theorem dX12_feed_148 : decode cX12_feed 148 = .ok (.laload, 1) := by decide +kernel
theorem dX12_feed_149 : decode cX12_feed 149 = .ok (.lsub, 1) := by decide +kernel
theorem dX12_feed_150 : decode cX12_feed 150 = .ok (.ladd, 1) := by decide +kernel
theorem dX12_feed_151 : decode cX12_feed 151 = .ok (.lastore, 1) := by decide +kernel
theorem dX12_feed_152 : decode cX12_feed 152 = .ok (.iinc 1 1, 3) := by decide +kernel
theorem dX12_feed_155 : decode cX12_feed 155 = .ok (.goto (-62), 3) := by decide +kernel
theorem dX12_feed_158 : decode cX12_feed 158 = .ok (.return_, 1) := by decide +kernel
theorem dX12_unwind_0 : decode cX12_unwind 0 = .ok (.aload_n 0, 1) := by decide +kernel
theorem dX12_unwind_1 : decode cX12_unwind 1 = .ok (.getfield 41, 3) := by decide +kernel
theorem dX12_unwind_4 : decode cX12_unwind 4 = .ok (.bipush 51, 2) := by decide +kernel
theorem dX12_unwind_6 : decode cX12_unwind 6 = .ok (.dup2, 1) := by decide +kernel
theorem dX12_unwind_7 : decode cX12_unwind 7 = .ok (.laload, 1) := by decide +kernel
theorem dX12_unwind_8 : decode cX12_unwind 8 = .ok (.aload_n 0, 1) := by decide +kernel
theorem dX12_unwind_9 : decode cX12_unwind 9 = .ok (.getfield 59, 3) := by decide +kernel
theorem dX12_unwind_12 : decode cX12_unwind 12 = .ok (.iconst 0, 1) := by decide +kernel
theorem dX12_unwind_13 : decode cX12_unwind 13 = .ok (.laload, 1) := by decide +kernel
theorem dX12_unwind_14 : decode cX12_unwind 14 = .ok (.lsub, 1) := by decide +kernel
theorem dX12_unwind_15 : decode cX12_unwind 15 = .ok (.lastore, 1) := by decide +kernel
theorem dX12_unwind_16 : decode cX12_unwind 16 = .ok (.aload_n 0, 1) := by decide +kernel
theorem dX12_unwind_17 : decode cX12_unwind 17 = .ok (.getfield 41, 3) := by decide +kernel
theorem dX12_unwind_20 : decode cX12_unwind 20 = .ok (.bipush 51, 2) := by decide +kernel
theorem dX12_unwind_22 : decode cX12_unwind 22 = .ok (.laload, 1) := by decide +kernel
theorem dX12_unwind_23 : decode cX12_unwind 23 = .ok (.lconst 0, 1) := by decide +kernel
theorem dX12_unwind_24 : decode cX12_unwind 24 = .ok (.lcmp, 1) := by decide +kernel
theorem dX12_unwind_25 : decode cX12_unwind 25 = .ok (.ifCond .lt 4, 3) := by decide +kernel
theorem dX12_unwind_28 : decode cX12_unwind 28 = .ok (.return_, 1) := by decide +kernel
theorem dX12_unwind_29 : decode cX12_unwind 29 = .ok (.aload_n 0, 1) := by decide +kernel
theorem dX12_unwind_30 : decode cX12_unwind 30 = .ok (.getfield 41, 3) := by decide +kernel
theorem dX12_unwind_33 : decode cX12_unwind 33 = .ok (.bipush 52, 2) := by decide +kernel
theorem dX12_unwind_35 : decode cX12_unwind 35 = .ok (.laload, 1) := by decide +kernel
theorem dX12_unwind_36 : decode cX12_unwind 36 = .ok (.lconst 0, 1) := by decide +kernel
theorem dX12_unwind_37 : decode cX12_unwind 37 = .ok (.lcmp, 1) := by decide +kernel
theorem dX12_unwind_38 : decode cX12_unwind 38 = .ok (.ifCond .ne 22, 3) := by decide +kernel
theorem dX12_unwind_41 : decode cX12_unwind 41 = .ok (.aload_n 0, 1) := by decide +kernel
theorem dX12_unwind_42 : decode cX12_unwind 42 = .ok (.getfield 41, 3) := by decide +kernel
theorem dX12_unwind_45 : decode cX12_unwind 45 = .ok (.bipush 49, 2) := by decide +kernel
theorem dX12_unwind_47 : decode cX12_unwind 47 = .ok (.ldc2_w 129, 3) := by decide +kernel
theorem dX12_unwind_50 : decode cX12_unwind 50 = .ok (.lastore, 1) := by decide +kernel
theorem dX12_unwind_51 : decode cX12_unwind 51 = .ok (.aload_n 0, 1) := by decide +kernel
theorem dX12_unwind_52 : decode cX12_unwind 52 = .ok (.iconst 4, 1) := by decide +kernel
theorem dX12_unwind_53 : decode cX12_unwind 53 = .ok (.lconst 0, 1) := by decide +kernel
theorem dX12_unwind_54 : decode cX12_unwind 54 = .ok (.invokevirtual 172, 3) := by decide +kernel
theorem dX12_unwind_57 : decode cX12_unwind 57 = .ok (.goto 140, 3) := by decide +kernel
theorem dX12_unwind_60 : decode cX12_unwind 60 = .ok (.aload_n 0, 1) := by decide +kernel
theorem dX12_unwind_61 : decode cX12_unwind 61 = .ok (.getfield 41, 3) := by decide +kernel
theorem dX12_unwind_64 : decode cX12_unwind 64 = .ok (.bipush 50, 2) := by decide +kernel
theorem dX12_unwind_66 : decode cX12_unwind 66 = .ok (.laload, 1) := by decide +kernel
theorem dX12_unwind_67 : decode cX12_unwind 67 = .ok (.aload_n 0, 1) := by decide +kernel
theorem dX12_unwind_68 : decode cX12_unwind 68 = .ok (.getfield 100, 3) := by decide +kernel
theorem dX12_unwind_71 : decode cX12_unwind 71 = .ok (.lcmp, 1) := by decide +kernel
theorem dX12_unwind_72 : decode cX12_unwind 72 = .ok (.ifCond .le 11, 3) := by decide +kernel
theorem dX12_unwind_75 : decode cX12_unwind 75 = .ok (.aload_n 0, 1) := by decide +kernel
theorem dX12_unwind_76 : decode cX12_unwind 76 = .ok (.iconst (-1), 1) := by decide +kernel
theorem dX12_unwind_77 : decode cX12_unwind 77 = .ok (.invokevirtual 183, 3) := by decide +kernel
theorem dX12_unwind_80 : decode cX12_unwind 80 = .ok (.goto 117, 3) := by decide +kernel
theorem dX12_unwind_83 : decode cX12_unwind 83 = .ok (.aload_n 0, 1) := by decide +kernel
theorem dX12_unwind_84 : decode cX12_unwind 84 = .ok (.iconst 0, 1) := by decide +kernel
theorem dX12_unwind_85 : decode cX12_unwind 85 = .ok (.lconst 0, 1) := by decide +kernel
theorem dX12_unwind_86 : decode cX12_unwind 86 = .ok (.invokevirtual 172, 3) := by decide +kernel
theorem dX12_unwind_89 : decode cX12_unwind 89 = .ok (.aload_n 0, 1) := by decide +kernel
theorem dX12_unwind_90 : decode cX12_unwind 90 = .ok (.getfield 53, 3) := by decide +kernel
theorem dX12_unwind_93 : decode cX12_unwind 93 = .ok (.aload_n 0, 1) := by decide +kernel
theorem dX12_unwind_94 : decode cX12_unwind 94 = .ok (.getfield 41, 3) := by decide +kernel
theorem dX12_unwind_97 : decode cX12_unwind 97 = .ok (.bipush 62, 2) := by decide +kernel
theorem dX12_unwind_99 : decode cX12_unwind 99 = .ok (.laload, 1) := by decide +kernel
theorem dX12_unwind_100 : decode cX12_unwind 100 = .ok (.l2i, 1) := by decide +kernel
theorem dX12_unwind_101 : decode cX12_unwind 101 = .ok (.aload_n 0, 1) := by decide +kernel
theorem dX12_unwind_102 : decode cX12_unwind 102 = .ok (.getfield 41, 3) := by decide +kernel
theorem dX12_unwind_105 : decode cX12_unwind 105 = .ok (.bipush 61, 2) := by decide +kernel
theorem dX12_unwind_107 : decode cX12_unwind 107 = .ok (.laload, 1) := by decide +kernel
theorem dX12_unwind_108 : decode cX12_unwind 108 = .ok (.aload_n 0, 1) := by decide +kernel
theorem dX12_unwind_109 : decode cX12_unwind 109 = .ok (.getfield 41, 3) := by decide +kernel
theorem dX12_unwind_112 : decode cX12_unwind 112 = .ok (.bipush 51, 2) := by decide +kernel
theorem dX12_unwind_114 : decode cX12_unwind 114 = .ok (.laload, 1) := by decide +kernel
theorem dX12_unwind_115 : decode cX12_unwind 115 = .ok (.ladd, 1) := by decide +kernel
theorem dX12_unwind_116 : decode cX12_unwind 116 = .ok (.lastore, 1) := by decide +kernel
theorem dX12_unwind_117 : decode cX12_unwind 117 = .ok (.aload_n 0, 1) := by decide +kernel
theorem dX12_unwind_118 : decode cX12_unwind 118 = .ok (.getfield 41, 3) := by decide +kernel
theorem dX12_unwind_121 : decode cX12_unwind 121 = .ok (.bipush 62, 2) := by decide +kernel
theorem dX12_unwind_123 : decode cX12_unwind 123 = .ok (.dup2, 1) := by decide +kernel
theorem dX12_unwind_124 : decode cX12_unwind 124 = .ok (.laload, 1) := by decide +kernel
theorem dX12_unwind_125 : decode cX12_unwind 125 = .ok (.lconst 1, 1) := by decide +kernel
theorem dX12_unwind_126 : decode cX12_unwind 126 = .ok (.ladd, 1) := by decide +kernel
theorem dX12_unwind_127 : decode cX12_unwind 127 = .ok (.lastore, 1) := by decide +kernel
theorem dX12_unwind_128 : decode cX12_unwind 128 = .ok (.aload_n 0, 1) := by decide +kernel
theorem dX12_unwind_129 : decode cX12_unwind 129 = .ok (.getfield 41, 3) := by decide +kernel
theorem dX12_unwind_132 : decode cX12_unwind 132 = .ok (.bipush 51, 2) := by decide +kernel
theorem dX12_unwind_134 : decode cX12_unwind 134 = .ok (.dup2, 1) := by decide +kernel
theorem dX12_unwind_135 : decode cX12_unwind 135 = .ok (.laload, 1) := by decide +kernel
theorem dX12_unwind_136 : decode cX12_unwind 136 = .ok (.aload_n 0, 1) := by decide +kernel
theorem dX12_unwind_137 : decode cX12_unwind 137 = .ok (.getfield 41, 3) := by decide +kernel
theorem dX12_unwind_140 : decode cX12_unwind 140 = .ok (.bipush 53, 2) := by decide +kernel
theorem dX12_unwind_142 : decode cX12_unwind 142 = .ok (.laload, 1) := by decide +kernel
theorem dX12_unwind_143 : decode cX12_unwind 143 = .ok (.ladd, 1) := by decide +kernel
theorem dX12_unwind_144 : decode cX12_unwind 144 = .ok (.lastore, 1) := by decide +kernel
theorem dX12_unwind_145 : decode cX12_unwind 145 = .ok (.aload_n 0, 1) := by decide +kernel
theorem dX12_unwind_146 : decode cX12_unwind 146 = .ok (.getfield 41, 3) := by decide +kernel
theorem dX12_unwind_149 : decode cX12_unwind 149 = .ok (.bipush 52, 2) := by decide +kernel
theorem dX12_unwind_151 : decode cX12_unwind 151 = .ok (.dup2, 1) := by decide +kernel
theorem dX12_unwind_152 : decode cX12_unwind 152 = .ok (.laload, 1) := by decide +kernel
theorem dX12_unwind_153 : decode cX12_unwind 153 = .ok (.lconst 1, 1) := by decide +kernel
theorem dX12_unwind_154 : decode cX12_unwind 154 = .ok (.lsub, 1) := by decide +kernel
theorem dX12_unwind_155 : decode cX12_unwind 155 = .ok (.lastore, 1) := by decide +kernel
theorem dX12_unwind_156 : decode cX12_unwind 156 = .ok (.iconst 0, 1) := by decide +kernel
theorem dX12_unwind_157 : decode cX12_unwind 157 = .ok (.istore_n 1, 1) := by decide +kernel
theorem dX12_unwind_158 : decode cX12_unwind 158 = .ok (.iload_n 1, 1) := by decide +kernel
theorem dX12_unwind_159 : decode cX12_unwind 159 = .ok (.i2l, 1) := by decide +kernel
theorem dX12_unwind_160 : decode cX12_unwind 160 = .ok (.aload_n 0, 1) := by decide +kernel
theorem dX12_unwind_161 : decode cX12_unwind 161 = .ok (.getfield 41, 3) := by decide +kernel
theorem dX12_unwind_164 : decode cX12_unwind 164 = .ok (.bipush 52, 2) := by decide +kernel
theorem dX12_unwind_166 : decode cX12_unwind 166 = .ok (.laload, 1) := by decide +kernel
theorem dX12_unwind_167 : decode cX12_unwind 167 = .ok (.lcmp, 1) := by decide +kernel
theorem dX12_unwind_168 : decode cX12_unwind 168 = .ok (.ifCond .ge 29, 3) := by decide +kernel
theorem dX12_unwind_171 : decode cX12_unwind 171 = .ok (.aload_n 0, 1) := by decide +kernel
theorem dX12_unwind_172 : decode cX12_unwind 172 = .ok (.getfield 41, 3) := by decide +kernel
theorem dX12_unwind_175 : decode cX12_unwind 175 = .ok (.bipush 53, 2) := by decide +kernel
theorem dX12_unwind_177 : decode cX12_unwind 177 = .ok (.iload_n 1, 1) := by decide +kernel
theorem dX12_unwind_178 : decode cX12_unwind 178 = .ok (.iadd, 1) := by decide +kernel
theorem dX12_unwind_179 : decode cX12_unwind 179 = .ok (.aload_n 0, 1) := by decide +kernel
theorem dX12_unwind_180 : decode cX12_unwind 180 = .ok (.getfield 41, 3) := by decide +kernel
theorem dX12_unwind_183 : decode cX12_unwind 183 = .ok (.bipush 53, 2) := by decide +kernel
theorem dX12_unwind_185 : decode cX12_unwind 185 = .ok (.iload_n 1, 1) := by decide +kernel
theorem dX12_unwind_186 : decode cX12_unwind 186 = .ok (.iadd, 1) := by decide +kernel
theorem dX12_unwind_187 : decode cX12_unwind 187 = .ok (.iconst 1, 1) := by decide +kernel
theorem dX12_unwind_188 : decode cX12_unwind 188 = .ok (.iadd, 1) := by decide +kernel
theorem dX12_unwind_189 : decode cX12_unwind 189 = .ok (.laload, 1) := by decide +kernel
theorem dX12_unwind_190 : decode cX12_unwind 190 = .ok (.lastore, 1) := by decide +kernel
theorem dX12_unwind_191 : decode cX12_unwind 191 = .ok (.iinc 1 1, 3) := by decide +kernel
theorem dX12_unwind_194 : decode cX12_unwind 194 = .ok (.goto (-36), 3) := by decide +kernel
theorem dX12_unwind_197 : decode cX12_unwind 197 = .ok (.return_, 1) := by decide +kernel
theorem dX12_rewind_0 : decode cX12_rewind 0 = .ok (.aload_n 0, 1) := by decide +kernel
theorem dX12_rewind_1 : decode cX12_rewind 1 = .ok (.getfield 41, 3) := by decide +kernel
theorem dX12_rewind_4 : decode cX12_rewind 4 = .ok (.bipush 57, 2) := by decide +kernel
theorem dX12_rewind_6 : decode cX12_rewind 6 = .ok (.dup2, 1) := by decide +kernel
theorem dX12_rewind_7 : decode cX12_rewind 7 = .ok (.laload, 1) := by decide +kernel
theorem dX12_rewind_8 : decode cX12_rewind 8 = .ok (.aload_n 0, 1) := by decide +kernel
theorem dX12_rewind_9 : decode cX12_rewind 9 = .ok (.getfield 59, 3) := by decide +kernel
theorem dX12_rewind_12 : decode cX12_rewind 12 = .ok (.aload_n 0, 1) := by decide +kernel
theorem dX12_rewind_13 : decode cX12_rewind 13 = .ok (.getfield 69, 3) := by decide +kernel
theorem dX12_rewind_16 : decode cX12_rewind 16 = .ok (.laload, 1) := by decide +kernel
theorem dX12_rewind_17 : decode cX12_rewind 17 = .ok (.ladd, 1) := by decide +kernel
theorem dX12_rewind_18 : decode cX12_rewind 18 = .ok (.lastore, 1) := by decide +kernel
theorem dX12_rewind_19 : decode cX12_rewind 19 = .ok (.aload_n 0, 1) := by decide +kernel
theorem dX12_rewind_20 : decode cX12_rewind 20 = .ok (.getfield 41, 3) := by decide +kernel
theorem dX12_rewind_23 : decode cX12_rewind 23 = .ok (.bipush 57, 2) := by decide +kernel
theorem dX12_rewind_25 : decode cX12_rewind 25 = .ok (.laload, 1) := by decide +kernel
theorem dX12_rewind_26 : decode cX12_rewind 26 = .ok (.aload_n 0, 1) := by decide +kernel
theorem dX12_rewind_27 : decode cX12_rewind 27 = .ok (.getfield 108, 3) := by decide +kernel
theorem dX12_rewind_30 : decode cX12_rewind 30 = .ok (.lcmp, 1) := by decide +kernel
theorem dX12_rewind_31 : decode cX12_rewind 31 = .ok (.ifCond .lt 40, 3) := by decide +kernel
theorem dX12_rewind_34 : decode cX12_rewind 34 = .ok (.aload_n 0, 1) := by decide +kernel
theorem dX12_rewind_35 : decode cX12_rewind 35 = .ok (.getfield 41, 3) := by decide +kernel
theorem dX12_rewind_38 : decode cX12_rewind 38 = .ok (.bipush 57, 2) := by decide +kernel
theorem dX12_rewind_40 : decode cX12_rewind 40 = .ok (.dup2, 1) := by decide +kernel
theorem dX12_rewind_41 : decode cX12_rewind 41 = .ok (.laload, 1) := by decide +kernel
theorem dX12_rewind_42 : decode cX12_rewind 42 = .ok (.aload_n 0, 1) := by decide +kernel
theorem dX12_rewind_43 : decode cX12_rewind 43 = .ok (.getfield 108, 3) := by decide +kernel
theorem dX12_rewind_46 : decode cX12_rewind 46 = .ok (.lsub, 1) := by decide +kernel
theorem dX12_rewind_47 : decode cX12_rewind 47 = .ok (.lastore, 1) := by decide +kernel
theorem dX12_rewind_48 : decode cX12_rewind 48 = .ok (.aload_n 0, 1) := by decide +kernel
theorem dX12_rewind_49 : decode cX12_rewind 49 = .ok (.getfield 41, 3) := by decide +kernel
theorem dX12_rewind_52 : decode cX12_rewind 52 = .ok (.bipush 58, 2) := by decide +kernel
theorem dX12_rewind_54 : decode cX12_rewind 54 = .ok (.dup2, 1) := by decide +kernel
theorem dX12_rewind_55 : decode cX12_rewind 55 = .ok (.laload, 1) := by decide +kernel
theorem dX12_rewind_56 : decode cX12_rewind 56 = .ok (.lconst 1, 1) := by decide +kernel
theorem dX12_rewind_57 : decode cX12_rewind 57 = .ok (.ladd, 1) := by decide +kernel
theorem dX12_rewind_58 : decode cX12_rewind 58 = .ok (.lastore, 1) := by decide +kernel
theorem dX12_rewind_59 : decode cX12_rewind 59 = .ok (.aload_n 0, 1) := by decide +kernel
theorem dX12_rewind_60 : decode cX12_rewind 60 = .ok (.iconst 5, 1) := by decide +kernel
theorem dX12_rewind_61 : decode cX12_rewind 61 = .ok (.aload_n 0, 1) := by decide +kernel
theorem dX12_rewind_62 : decode cX12_rewind 62 = .ok (.getfield 41, 3) := by decide +kernel
theorem dX12_rewind_65 : decode cX12_rewind 65 = .ok (.bipush 58, 2) := by decide +kernel
theorem dX12_rewind_67 : decode cX12_rewind 67 = .ok (.laload, 1) := by decide +kernel
theorem dX12_rewind_68 : decode cX12_rewind 68 = .ok (.invokevirtual 172, 3) := by decide +kernel
theorem dX12_rewind_71 : decode cX12_rewind 71 = .ok (.return_, 1) := by decide +kernel
theorem dX12_controls_0 : decode cX12_controls 0 = .ok (.aload_n 0, 1) := by decide +kernel
theorem dX12_controls_1 : decode cX12_controls 1 = .ok (.iload_n 1, 1) := by decide +kernel
theorem dX12_controls_2 : decode cX12_controls 2 = .ok (.invokevirtual 186, 3) := by decide +kernel
theorem dX12_controls_5 : decode cX12_controls 5 = .ok (.lstore_n 2, 1) := by decide +kernel
theorem dX12_controls_6 : decode cX12_controls 6 = .ok (.bipush 8, 2) := by decide +kernel
theorem dX12_controls_8 : decode cX12_controls 8 = .ok (.iload_n 1, 1) := by decide +kernel
theorem dX12_controls_9 : decode cX12_controls 9 = .ok (.imul, 1) := by decide +kernel
theorem dX12_controls_10 : decode cX12_controls 10 = .ok (.istore 4, 2) := by decide +kernel
theorem dX12_controls_12 : decode cX12_controls 12 = .ok (.aload_n 0, 1) := by decide +kernel
theorem dX12_controls_13 : decode cX12_controls 13 = .ok (.getfield 13, 3) := by decide +kernel
theorem dX12_controls_16 : decode cX12_controls 16 = .ok (.iload_n 1, 1) := by decide +kernel
theorem dX12_controls_17 : decode cX12_controls 17 = .ok (.iaload, 1) := by decide +kernel
theorem dX12_controls_18 : decode cX12_controls 18 = .ok (.iconst 1, 1) := by decide +kernel
theorem dX12_controls_19 : decode cX12_controls 19 = .ok (.if_icmp .ne 174, 3) := by decide +kernel
theorem dX12_controls_22 : decode cX12_controls 22 = .ok (.aload_n 0, 1) := by decide +kernel
theorem dX12_controls_23 : decode cX12_controls 23 = .ok (.getfield 20, 3) := by decide +kernel
theorem dX12_controls_26 : decode cX12_controls 26 = .ok (.iload_n 1, 1) := by decide +kernel
theorem dX12_controls_27 : decode cX12_controls 27 = .ok (.laload, 1) := by decide +kernel
theorem dX12_controls_28 : decode cX12_controls 28 = .ok (.ldc2_w 129, 3) := by decide +kernel
theorem dX12_controls_31 : decode cX12_controls 31 = .ok (.lload_n 2, 1) := by decide +kernel
theorem dX12_controls_32 : decode cX12_controls 32 = .ok (.lmul, 1) := by decide +kernel
theorem dX12_controls_33 : decode cX12_controls 33 = .ok (.lsub, 1) := by decide +kernel
theorem dX12_controls_34 : decode cX12_controls 34 = .ok (.aload_n 0, 1) := by decide +kernel
theorem dX12_controls_35 : decode cX12_controls 35 = .ok (.getfield 23, 3) := by decide +kernel
theorem dX12_controls_38 : decode cX12_controls 38 = .ok (.iload_n 1, 1) := by decide +kernel
theorem dX12_controls_39 : decode cX12_controls 39 = .ok (.laload, 1) := by decide +kernel
theorem dX12_controls_40 : decode cX12_controls 40 = .ok (.invokestatic 157, 3) := by decide +kernel
theorem dX12_controls_43 : decode cX12_controls 43 = .ok (.ldc2_w 189, 3) := by decide +kernel
theorem dX12_controls_46 : decode cX12_controls 46 = .ok (.ldc2_w 85, 3) := by decide +kernel
theorem dX12_controls_49 : decode cX12_controls 49 = .ok (.invokestatic 176, 3) := by decide +kernel
theorem dX12_controls_52 : decode cX12_controls 52 = .ok (.lstore 5, 2) := by decide +kernel
theorem dX12_controls_54 : decode cX12_controls 54 = .ok (.aload_n 0, 1) := by decide +kernel
theorem dX12_controls_55 : decode cX12_controls 55 = .ok (.getfield 41, 3) := by decide +kernel
theorem dX12_controls_58 : decode cX12_controls 58 = .ok (.iload 4, 2) := by decide +kernel
theorem dX12_controls_60 : decode cX12_controls 60 = .ok (.iconst 1, 1) := by decide +kernel
theorem dX12_controls_61 : decode cX12_controls 61 = .ok (.iadd, 1) := by decide +kernel
theorem dX12_controls_62 : decode cX12_controls 62 = .ok (.aload_n 0, 1) := by decide +kernel
theorem dX12_controls_63 : decode cX12_controls 63 = .ok (.getfield 41, 3) := by decide +kernel
theorem dX12_controls_66 : decode cX12_controls 66 = .ok (.iload 4, 2) := by decide +kernel
theorem dX12_controls_68 : decode cX12_controls 68 = .ok (.iconst 1, 1) := by decide +kernel
theorem dX12_controls_69 : decode cX12_controls 69 = .ok (.iadd, 1) := by decide +kernel
theorem dX12_controls_70 : decode cX12_controls 70 = .ok (.laload, 1) := by decide +kernel
theorem dX12_controls_71 : decode cX12_controls 71 = .ok (.lload 5, 2) := by decide +kernel
theorem dX12_controls_73 : decode cX12_controls 73 = .ok (.ladd, 1) := by decide +kernel
theorem dX12_controls_74 : decode cX12_controls 74 = .ok (.lconst 0, 1) := by decide +kernel
theorem dX12_controls_75 : decode cX12_controls 75 = .ok (.aload_n 0, 1) := by decide +kernel
theorem dX12_controls_76 : decode cX12_controls 76 = .ok (.getfield 17, 3) := by decide +kernel
theorem dX12_controls_79 : decode cX12_controls 79 = .ok (.iload_n 1, 1) := by decide +kernel
theorem dX12_controls_80 : decode cX12_controls 80 = .ok (.laload, 1) := by decide +kernel
theorem dX12_controls_81 : decode cX12_controls 81 = .ok (.invokestatic 176, 3) := by decide +kernel
theorem dX12_controls_84 : decode cX12_controls 84 = .ok (.lastore, 1) := by decide +kernel
theorem dX12_controls_85 : decode cX12_controls 85 = .ok (.aload_n 0, 1) := by decide +kernel
theorem dX12_controls_86 : decode cX12_controls 86 = .ok (.getfield 41, 3) := by decide +kernel
theorem dX12_controls_89 : decode cX12_controls 89 = .ok (.iload 4, 2) := by decide +kernel
theorem dX12_controls_91 : decode cX12_controls 91 = .ok (.iconst 1, 1) := by decide +kernel
theorem dX12_controls_92 : decode cX12_controls 92 = .ok (.iadd, 1) := by decide +kernel
theorem dX12_controls_93 : decode cX12_controls 93 = .ok (.laload, 1) := by decide +kernel
theorem dX12_controls_94 : decode cX12_controls 94 = .ok (.aload_n 0, 1) := by decide +kernel
theorem dX12_controls_95 : decode cX12_controls 95 = .ok (.getfield 17, 3) := by decide +kernel
theorem dX12_controls_98 : decode cX12_controls 98 = .ok (.iload_n 1, 1) := by decide +kernel
theorem dX12_controls_99 : decode cX12_controls 99 = .ok (.laload, 1) := by decide +kernel
theorem dX12_controls_100 : decode cX12_controls 100 = .ok (.ldc2_w 129, 3) := by decide +kernel
theorem dX12_controls_103 : decode cX12_controls 103 = .ok (.ldiv, 1) := by decide +kernel
theorem dX12_controls_104 : decode cX12_controls 104 = .ok (.lsub, 1) := by decide +kernel
theorem dX12_controls_105 : decode cX12_controls 105 = .ok (.lstore 7, 2) := by decide +kernel
theorem dX12_controls_107 : decode cX12_controls 107 = .ok (.aload_n 0, 1) := by decide +kernel
theorem dX12_controls_108 : decode cX12_controls 108 = .ok (.getfield 41, 3) := by decide +kernel
theorem dX12_controls_111 : decode cX12_controls 111 = .ok (.iload 4, 2) := by decide +kernel
theorem dX12_controls_113 : decode cX12_controls 113 = .ok (.iconst 2, 1) := by decide +kernel
theorem dX12_controls_114 : decode cX12_controls 114 = .ok (.iadd, 1) := by decide +kernel
theorem dX12_controls_115 : decode cX12_controls 115 = .ok (.aload_n 0, 1) := by decide +kernel
theorem dX12_controls_116 : decode cX12_controls 116 = .ok (.getfield 41, 3) := by decide +kernel
theorem dX12_controls_119 : decode cX12_controls 119 = .ok (.iload 4, 2) := by decide +kernel
theorem dX12_controls_121 : decode cX12_controls 121 = .ok (.iconst 2, 1) := by decide +kernel
theorem dX12_controls_122 : decode cX12_controls 122 = .ok (.iadd, 1) := by decide +kernel
theorem dX12_controls_123 : decode cX12_controls 123 = .ok (.laload, 1) := by decide +kernel
theorem dX12_controls_124 : decode cX12_controls 124 = .ok (.lload 7, 2) := by decide +kernel
theorem dX12_controls_126 : decode cX12_controls 126 = .ok (.ladd, 1) := by decide +kernel
theorem dX12_controls_127 : decode cX12_controls 127 = .ok (.ldc2_w 191, 3) := by decide +kernel
theorem dX12_controls_130 : decode cX12_controls 130 = .ok (.ldc2_w 73, 3) := by decide +kernel
theorem dX12_controls_133 : decode cX12_controls 133 = .ok (.invokestatic 176, 3) := by decide +kernel
theorem dX12_controls_136 : decode cX12_controls 136 = .ok (.lastore, 1) := by decide +kernel
theorem dX12_controls_137 : decode cX12_controls 137 = .ok (.aload_n 0, 1) := by decide +kernel
theorem dX12_controls_138 : decode cX12_controls 138 = .ok (.getfield 41, 3) := by decide +kernel
theorem dX12_controls_141 : decode cX12_controls 141 = .ok (.iload 4, 2) := by decide +kernel
theorem dX12_controls_143 : decode cX12_controls 143 = .ok (.iconst 3, 1) := by decide +kernel
theorem dX12_controls_144 : decode cX12_controls 144 = .ok (.iadd, 1) := by decide +kernel
theorem dX12_controls_145 : decode cX12_controls 145 = .ok (.aload_n 0, 1) := by decide +kernel
theorem dX12_controls_146 : decode cX12_controls 146 = .ok (.getfield 26, 3) := by decide +kernel
theorem dX12_controls_149 : decode cX12_controls 149 = .ok (.iload_n 1, 1) := by decide +kernel
theorem dX12_controls_150 : decode cX12_controls 150 = .ok (.laload, 1) := by decide +kernel
theorem dX12_controls_151 : decode cX12_controls 151 = .ok (.lload 7, 2) := by decide +kernel
theorem dX12_controls_153 : decode cX12_controls 153 = .ok (.lmul, 1) := by decide +kernel
theorem dX12_controls_154 : decode cX12_controls 154 = .ok (.ldc2_w 98, 3) := by decide +kernel
theorem dX12_controls_157 : decode cX12_controls 157 = .ok (.invokestatic 157, 3) := by decide +kernel
theorem dX12_controls_160 : decode cX12_controls 160 = .ok (.aload_n 0, 1) := by decide +kernel
theorem dX12_controls_161 : decode cX12_controls 161 = .ok (.getfield 29, 3) := by decide +kernel
theorem dX12_controls_164 : decode cX12_controls 164 = .ok (.iload_n 1, 1) := by decide +kernel
theorem dX12_controls_165 : decode cX12_controls 165 = .ok (.laload, 1) := by decide +kernel
theorem dX12_controls_166 : decode cX12_controls 166 = .ok (.aload_n 0, 1) := by decide +kernel
theorem dX12_controls_167 : decode cX12_controls 167 = .ok (.getfield 41, 3) := by decide +kernel
theorem dX12_controls_170 : decode cX12_controls 170 = .ok (.iload 4, 2) := by decide +kernel
theorem dX12_controls_172 : decode cX12_controls 172 = .ok (.iconst 2, 1) := by decide +kernel
theorem dX12_controls_173 : decode cX12_controls 173 = .ok (.iadd, 1) := by decide +kernel
theorem dX12_controls_174 : decode cX12_controls 174 = .ok (.laload, 1) := by decide +kernel
theorem dX12_controls_175 : decode cX12_controls 175 = .ok (.lmul, 1) := by decide +kernel
theorem dX12_controls_176 : decode cX12_controls 176 = .ok (.ldc2_w 73, 3) := by decide +kernel
theorem dX12_controls_179 : decode cX12_controls 179 = .ok (.invokestatic 157, 3) := by decide +kernel
theorem dX12_controls_182 : decode cX12_controls 182 = .ok (.ladd, 1) := by decide +kernel
theorem dX12_controls_183 : decode cX12_controls 183 = .ok (.ldc2_w 193, 3) := by decide +kernel
theorem dX12_controls_186 : decode cX12_controls 186 = .ok (.ldc2_w 195, 3) := by decide +kernel
theorem dX12_controls_189 : decode cX12_controls 189 = .ok (.invokestatic 176, 3) := by decide +kernel
theorem dX12_controls_192 : decode cX12_controls 192 = .ok (.lastore, 1) := by decide +kernel
theorem dX12_controls_193 : decode cX12_controls 193 = .ok (.aload_n 0, 1) := by decide +kernel
theorem dX12_controls_194 : decode cX12_controls 194 = .ok (.getfield 13, 3) := by decide +kernel
theorem dX12_controls_197 : decode cX12_controls 197 = .ok (.iload_n 1, 1) := by decide +kernel
theorem dX12_controls_198 : decode cX12_controls 198 = .ok (.iaload, 1) := by decide +kernel
theorem dX12_controls_199 : decode cX12_controls 199 = .ok (.iconst 2, 1) := by decide +kernel
theorem dX12_controls_200 : decode cX12_controls 200 = .ok (.if_icmp .ne 52, 3) := by decide +kernel
theorem dX12_controls_203 : decode cX12_controls 203 = .ok (.aload_n 0, 1) := by decide +kernel
theorem dX12_controls_204 : decode cX12_controls 204 = .ok (.getfield 41, 3) := by decide +kernel
theorem dX12_controls_207 : decode cX12_controls 207 = .ok (.iload 4, 2) := by decide +kernel
theorem dX12_controls_209 : decode cX12_controls 209 = .ok (.iconst 3, 1) := by decide +kernel
theorem dX12_controls_210 : decode cX12_controls 210 = .ok (.iadd, 1) := by decide +kernel
theorem dX12_controls_211 : decode cX12_controls 211 = .ok (.aload_n 0, 1) := by decide +kernel
theorem dX12_controls_212 : decode cX12_controls 212 = .ok (.getfield 41, 3) := by decide +kernel
theorem dX12_controls_215 : decode cX12_controls 215 = .ok (.iload 4, 2) := by decide +kernel
theorem dX12_controls_217 : decode cX12_controls 217 = .ok (.iconst 3, 1) := by decide +kernel
theorem dX12_controls_218 : decode cX12_controls 218 = .ok (.iadd, 1) := by decide +kernel
theorem dX12_controls_219 : decode cX12_controls 219 = .ok (.laload, 1) := by decide +kernel
theorem dX12_controls_220 : decode cX12_controls 220 = .ok (.aload_n 0, 1) := by decide +kernel
theorem dX12_controls_221 : decode cX12_controls 221 = .ok (.getfield 35, 3) := by decide +kernel
theorem dX12_controls_224 : decode cX12_controls 224 = .ok (.iload_n 1, 1) := by decide +kernel
theorem dX12_controls_225 : decode cX12_controls 225 = .ok (.laload, 1) := by decide +kernel
theorem dX12_controls_226 : decode cX12_controls 226 = .ok (.aload_n 0, 1) := by decide +kernel
theorem dX12_controls_227 : decode cX12_controls 227 = .ok (.getfield 32, 3) := by decide +kernel
theorem dX12_controls_230 : decode cX12_controls 230 = .ok (.iload_n 1, 1) := by decide +kernel
theorem dX12_controls_231 : decode cX12_controls 231 = .ok (.laload, 1) := by decide +kernel
theorem dX12_controls_232 : decode cX12_controls 232 = .ok (.lload_n 2, 1) := by decide +kernel
theorem dX12_controls_233 : decode cX12_controls 233 = .ok (.lsub, 1) := by decide +kernel
theorem dX12_controls_234 : decode cX12_controls 234 = .ok (.lmul, 1) := by decide +kernel
theorem dX12_controls_235 : decode cX12_controls 235 = .ok (.ldc2_w 73, 3) := by decide +kernel
theorem dX12_controls_238 : decode cX12_controls 238 = .ok (.invokestatic 157, 3) := by decide +kernel
theorem dX12_controls_241 : decode cX12_controls 241 = .ok (.ladd, 1) := by decide +kernel
theorem dX12_controls_242 : decode cX12_controls 242 = .ok (.ldc2_w 193, 3) := by decide +kernel
theorem dX12_controls_245 : decode cX12_controls 245 = .ok (.ldc2_w 195, 3) := by decide +kernel
theorem dX12_controls_248 : decode cX12_controls 248 = .ok (.invokestatic 176, 3) := by decide +kernel
theorem dX12_controls_251 : decode cX12_controls 251 = .ok (.lastore, 1) := by decide +kernel
theorem dX12_controls_252 : decode cX12_controls 252 = .ok (.return_, 1) := by decide +kernel
theorem dX12_watch_0 : decode cX12_watch 0 = .ok (.bipush 8, 2) := by decide +kernel
theorem dX12_watch_2 : decode cX12_watch 2 = .ok (.iload_n 1, 1) := by decide +kernel
theorem dX12_watch_3 : decode cX12_watch 3 = .ok (.imul, 1) := by decide +kernel
theorem dX12_watch_4 : decode cX12_watch 4 = .ok (.istore_n 2, 1) := by decide +kernel
theorem dX12_watch_5 : decode cX12_watch 5 = .ok (.aload_n 0, 1) := by decide +kernel
theorem dX12_watch_6 : decode cX12_watch 6 = .ok (.iload_n 1, 1) := by decide +kernel
theorem dX12_watch_7 : decode cX12_watch 7 = .ok (.invokevirtual 186, 3) := by decide +kernel
theorem dX12_watch_10 : decode cX12_watch 10 = .ok (.lstore_n 3, 1) := by decide +kernel
theorem dX12_watch_11 : decode cX12_watch 11 = .ok (.aload_n 0, 1) := by decide +kernel
theorem dX12_watch_12 : decode cX12_watch 12 = .ok (.getfield 41, 3) := by decide +kernel
theorem dX12_watch_15 : decode cX12_watch 15 = .ok (.iload_n 2, 1) := by decide +kernel
theorem dX12_watch_16 : decode cX12_watch 16 = .ok (.bipush 6, 2) := by decide +kernel
theorem dX12_watch_18 : decode cX12_watch 18 = .ok (.iadd, 1) := by decide +kernel
theorem dX12_watch_19 : decode cX12_watch 19 = .ok (.lload_n 3, 1) := by decide +kernel
theorem dX12_watch_20 : decode cX12_watch 20 = .ok (.aload_n 0, 1) := by decide +kernel
theorem dX12_watch_21 : decode cX12_watch 21 = .ok (.getfield 41, 3) := by decide +kernel
theorem dX12_watch_24 : decode cX12_watch 24 = .ok (.iload_n 2, 1) := by decide +kernel
theorem dX12_watch_25 : decode cX12_watch 25 = .ok (.bipush 6, 2) := by decide +kernel
theorem dX12_watch_27 : decode cX12_watch 27 = .ok (.iadd, 1) := by decide +kernel
theorem dX12_watch_28 : decode cX12_watch 28 = .ok (.laload, 1) := by decide +kernel
theorem dX12_watch_29 : decode cX12_watch 29 = .ok (.lcmp, 1) := by decide +kernel
theorem dX12_watch_30 : decode cX12_watch 30 = .ok (.ifCond .le 7, 3) := by decide +kernel
theorem dX12_watch_33 : decode cX12_watch 33 = .ok (.lload_n 3, 1) := by decide +kernel
theorem dX12_watch_34 : decode cX12_watch 34 = .ok (.goto 12, 3) := by decide +kernel
theorem dX12_watch_37 : decode cX12_watch 37 = .ok (.aload_n 0, 1) := by decide +kernel
theorem dX12_watch_38 : decode cX12_watch 38 = .ok (.getfield 41, 3) := by decide +kernel
theorem dX12_watch_41 : decode cX12_watch 41 = .ok (.iload_n 2, 1) := by decide +kernel
theorem dX12_watch_42 : decode cX12_watch 42 = .ok (.bipush 6, 2) := by decide +kernel
theorem dX12_watch_44 : decode cX12_watch 44 = .ok (.iadd, 1) := by decide +kernel
theorem dX12_watch_45 : decode cX12_watch 45 = .ok (.laload, 1) := by decide +kernel
theorem dX12_watch_46 : decode cX12_watch 46 = .ok (.lastore, 1) := by decide +kernel
theorem dX12_watch_47 : decode cX12_watch 47 = .ok (.aload_n 0, 1) := by decide +kernel
theorem dX12_watch_48 : decode cX12_watch 48 = .ok (.getfield 41, 3) := by decide +kernel
theorem dX12_watch_51 : decode cX12_watch 51 = .ok (.iload_n 2, 1) := by decide +kernel
theorem dX12_watch_52 : decode cX12_watch 52 = .ok (.iconst 5, 1) := by decide +kernel
theorem dX12_watch_53 : decode cX12_watch 53 = .ok (.iadd, 1) := by decide +kernel
theorem dX12_watch_54 : decode cX12_watch 54 = .ok (.laload, 1) := by decide +kernel
theorem dX12_watch_55 : decode cX12_watch 55 = .ok (.lstore 5, 2) := by decide +kernel
theorem dX12_watch_57 : decode cX12_watch 57 = .ok (.aload_n 0, 1) := by decide +kernel
theorem dX12_watch_58 : decode cX12_watch 58 = .ok (.getfield 41, 3) := by decide +kernel
theorem dX12_watch_61 : decode cX12_watch 61 = .ok (.iload_n 2, 1) := by decide +kernel
theorem dX12_watch_62 : decode cX12_watch 62 = .ok (.iconst 5, 1) := by decide +kernel
theorem dX12_watch_63 : decode cX12_watch 63 = .ok (.iadd, 1) := by decide +kernel
theorem dX12_watch_64 : decode cX12_watch 64 = .ok (.lload_n 3, 1) := by decide +kernel
theorem dX12_watch_65 : decode cX12_watch 65 = .ok (.lconst 0, 1) := by decide +kernel
theorem dX12_watch_66 : decode cX12_watch 66 = .ok (.lcmp, 1) := by decide +kernel
theorem dX12_watch_67 : decode cX12_watch 67 = .ok (.ifCond .ne 10, 3) := by decide +kernel
theorem dX12_watch_70 : decode cX12_watch 70 = .ok (.lload 5, 2) := by decide +kernel
theorem dX12_watch_72 : decode cX12_watch 72 = .ok (.lconst 1, 1) := by decide +kernel
theorem dX12_watch_73 : decode cX12_watch 73 = .ok (.ladd, 1) := by decide +kernel
theorem dX12_watch_74 : decode cX12_watch 74 = .ok (.goto 4, 3) := by decide +kernel
theorem dX12_watch_77 : decode cX12_watch 77 = .ok (.lconst 0, 1) := by decide +kernel
theorem dX12_watch_78 : decode cX12_watch 78 = .ok (.lastore, 1) := by decide +kernel
theorem dX12_watch_79 : decode cX12_watch 79 = .ok (.aload_n 0, 1) := by decide +kernel
theorem dX12_watch_80 : decode cX12_watch 80 = .ok (.getfield 41, 3) := by decide +kernel
theorem dX12_watch_83 : decode cX12_watch 83 = .ok (.iload_n 2, 1) := by decide +kernel
theorem dX12_watch_84 : decode cX12_watch 84 = .ok (.iconst 5, 1) := by decide +kernel
theorem dX12_watch_85 : decode cX12_watch 85 = .ok (.iadd, 1) := by decide +kernel
theorem dX12_watch_86 : decode cX12_watch 86 = .ok (.laload, 1) := by decide +kernel
theorem dX12_watch_87 : decode cX12_watch 87 = .ok (.ldc2_w 197, 3) := by decide +kernel
theorem dX12_watch_90 : decode cX12_watch 90 = .ok (.lcmp, 1) := by decide +kernel
theorem dX12_watch_91 : decode cX12_watch 91 = .ok (.ifCond .ne 10, 3) := by decide +kernel
theorem dX12_watch_94 : decode cX12_watch 94 = .ok (.aload_n 0, 1) := by decide +kernel
theorem dX12_watch_95 : decode cX12_watch 95 = .ok (.iconst 2, 1) := by decide +kernel
theorem dX12_watch_96 : decode cX12_watch 96 = .ok (.iload_n 1, 1) := by decide +kernel
theorem dX12_watch_97 : decode cX12_watch 97 = .ok (.i2l, 1) := by decide +kernel
theorem dX12_watch_98 : decode cX12_watch 98 = .ok (.invokevirtual 172, 3) := by decide +kernel
theorem dX12_watch_101 : decode cX12_watch 101 = .ok (.lload_n 3, 1) := by decide +kernel
theorem dX12_watch_102 : decode cX12_watch 102 = .ok (.lconst 0, 1) := by decide +kernel
theorem dX12_watch_103 : decode cX12_watch 103 = .ok (.lcmp, 1) := by decide +kernel
theorem dX12_watch_104 : decode cX12_watch 104 = .ok (.ifCond .le 19, 3) := by decide +kernel
theorem dX12_watch_107 : decode cX12_watch 107 = .ok (.lload 5, 2) := by decide +kernel
theorem dX12_watch_109 : decode cX12_watch 109 = .ok (.ldc2_w 197, 3) := by decide +kernel
theorem dX12_watch_112 : decode cX12_watch 112 = .ok (.lcmp, 1) := by decide +kernel
theorem dX12_watch_113 : decode cX12_watch 113 = .ok (.ifCond .lt 10, 3) := by decide +kernel
theorem dX12_watch_116 : decode cX12_watch 116 = .ok (.aload_n 0, 1) := by decide +kernel
theorem dX12_watch_117 : decode cX12_watch 117 = .ok (.iconst 3, 1) := by decide +kernel
theorem dX12_watch_118 : decode cX12_watch 118 = .ok (.iload_n 1, 1) := by decide +kernel
theorem dX12_watch_119 : decode cX12_watch 119 = .ok (.i2l, 1) := by decide +kernel
theorem dX12_watch_120 : decode cX12_watch 120 = .ok (.invokevirtual 172, 3) := by decide +kernel
theorem dX12_watch_123 : decode cX12_watch 123 = .ok (.aload_n 0, 1) := by decide +kernel
theorem dX12_watch_124 : decode cX12_watch 124 = .ok (.iload_n 1, 1) := by decide +kernel
theorem dX12_watch_125 : decode cX12_watch 125 = .ok (.invokevirtual 199, 3) := by decide +kernel
theorem dX12_watch_128 : decode cX12_watch 128 = .ok (.ifCond .le 19, 3) := by decide +kernel
theorem dX12_watch_131 : decode cX12_watch 131 = .ok (.aload_n 0, 1) := by decide +kernel
theorem dX12_watch_132 : decode cX12_watch 132 = .ok (.getfield 82, 3) := by decide +kernel
theorem dX12_watch_135 : decode cX12_watch 135 = .ok (.aload_n 0, 1) := by decide +kernel
theorem dX12_watch_136 : decode cX12_watch 136 = .ok (.getfield 87, 3) := by decide +kernel
theorem dX12_watch_139 : decode cX12_watch 139 = .ok (.lmul, 1) := by decide +kernel
theorem dX12_watch_140 : decode cX12_watch 140 = .ok (.ldc2_w 98, 3) := by decide +kernel
theorem dX12_watch_143 : decode cX12_watch 143 = .ok (.ldiv, 1) := by decide +kernel
theorem dX12_watch_144 : decode cX12_watch 144 = .ok (.goto 7, 3) := by decide +kernel
theorem dX12_watch_147 : decode cX12_watch 147 = .ok (.aload_n 0, 1) := by decide +kernel
theorem dX12_watch_148 : decode cX12_watch 148 = .ok (.getfield 82, 3) := by decide +kernel
theorem dX12_watch_151 : decode cX12_watch 151 = .ok (.lstore 7, 2) := by decide +kernel
theorem dX12_watch_153 : decode cX12_watch 153 = .ok (.lload_n 3, 1) := by decide +kernel
theorem dX12_watch_154 : decode cX12_watch 154 = .ok (.lload 7, 2) := by decide +kernel
theorem dX12_watch_156 : decode cX12_watch 156 = .ok (.lcmp, 1) := by decide +kernel
theorem dX12_watch_157 : decode cX12_watch 157 = .ok (.ifCond .le 20, 3) := by decide +kernel
theorem dX12_watch_160 : decode cX12_watch 160 = .ok (.aload_n 0, 1) := by decide +kernel
theorem dX12_watch_161 : decode cX12_watch 161 = .ok (.getfield 41, 3) := by decide +kernel
theorem dX12_watch_164 : decode cX12_watch 164 = .ok (.bipush 49, 2) := by decide +kernel
theorem dX12_watch_166 : decode cX12_watch 166 = .ok (.laload, 1) := by decide +kernel
theorem dX12_watch_167 : decode cX12_watch 167 = .ok (.lconst 1, 1) := by decide +kernel
theorem dX12_watch_168 : decode cX12_watch 168 = .ok (.lcmp, 1) := by decide +kernel
theorem dX12_watch_169 : decode cX12_watch 169 = .ok (.ifCond .eq 8, 3) := by decide +kernel
theorem dX12_watch_172 : decode cX12_watch 172 = .ok (.aload_n 0, 1) := by decide +kernel
theorem dX12_watch_173 : decode cX12_watch 173 = .ok (.iload_n 1, 1) := by decide +kernel
theorem dX12_watch_174 : decode cX12_watch 174 = .ok (.invokevirtual 183, 3) := by decide +kernel
theorem dX12_watch_177 : decode cX12_watch 177 = .ok (.return_, 1) := by decide +kernel
theorem dX12_tick_0 : decode cX12_tick 0 = .ok (.aload_n 0, 1) := by decide +kernel
theorem dX12_tick_1 : decode cX12_tick 1 = .ok (.getfield 41, 3) := by decide +kernel
theorem dX12_tick_4 : decode cX12_tick 4 = .ok (.bipush 48, 2) := by decide +kernel
theorem dX12_tick_6 : decode cX12_tick 6 = .ok (.dup2, 1) := by decide +kernel
theorem dX12_tick_7 : decode cX12_tick 7 = .ok (.laload, 1) := by decide +kernel
theorem dX12_tick_8 : decode cX12_tick 8 = .ok (.lconst 1, 1) := by decide +kernel
theorem dX12_tick_9 : decode cX12_tick 9 = .ok (.ladd, 1) := by decide +kernel
theorem dX12_tick_10 : decode cX12_tick 10 = .ok (.lastore, 1) := by decide +kernel
theorem dX12_tick_11 : decode cX12_tick 11 = .ok (.aload_n 0, 1) := by decide +kernel
theorem dX12_tick_12 : decode cX12_tick 12 = .ok (.invokevirtual 203, 3) := by decide +kernel
theorem dX12_tick_15 : decode cX12_tick 15 = .ok (.aload_n 0, 1) := by decide +kernel
theorem dX12_tick_16 : decode cX12_tick 16 = .ok (.invokevirtual 206, 3) := by decide +kernel
theorem dX12_tick_19 : decode cX12_tick 19 = .ok (.aload_n 0, 1) := by decide +kernel
theorem dX12_tick_20 : decode cX12_tick 20 = .ok (.invokevirtual 209, 3) := by decide +kernel
theorem dX12_tick_23 : decode cX12_tick 23 = .ok (.aload_n 0, 1) := by decide +kernel
theorem dX12_tick_24 : decode cX12_tick 24 = .ok (.invokevirtual 212, 3) := by decide +kernel
theorem dX12_tick_27 : decode cX12_tick 27 = .ok (.iconst 0, 1) := by decide +kernel
theorem dX12_tick_28 : decode cX12_tick 28 = .ok (.istore_n 1, 1) := by decide +kernel
theorem dX12_tick_29 : decode cX12_tick 29 = .ok (.iload_n 1, 1) := by decide +kernel
theorem dX12_tick_30 : decode cX12_tick 30 = .ok (.aload_n 0, 1) := by decide +kernel
theorem dX12_tick_31 : decode cX12_tick 31 = .ok (.getfield 69, 3) := by decide +kernel
theorem dX12_tick_34 : decode cX12_tick 34 = .ok (.if_icmp .ge 26, 3) := by decide +kernel
theorem dX12_tick_37 : decode cX12_tick 37 = .ok (.aload_n 0, 1) := by decide +kernel
theorem dX12_tick_38 : decode cX12_tick 38 = .ok (.getfield 41, 3) := by decide +kernel
theorem dX12_tick_41 : decode cX12_tick 41 = .ok (.bipush 50, 2) := by decide +kernel
theorem dX12_tick_43 : decode cX12_tick 43 = .ok (.laload, 1) := by decide +kernel
theorem dX12_tick_44 : decode cX12_tick 44 = .ok (.lconst 0, 1) := by decide +kernel
theorem dX12_tick_45 : decode cX12_tick 45 = .ok (.lcmp, 1) := by decide +kernel
theorem dX12_tick_46 : decode cX12_tick 46 = .ok (.ifCond .le 14, 3) := by decide +kernel
theorem dX12_tick_49 : decode cX12_tick 49 = .ok (.aload_n 0, 1) := by decide +kernel
theorem dX12_tick_50 : decode cX12_tick 50 = .ok (.iload_n 1, 1) := by decide +kernel
theorem dX12_tick_51 : decode cX12_tick 51 = .ok (.invokevirtual 215, 3) := by decide +kernel
theorem dX12_tick_54 : decode cX12_tick 54 = .ok (.iinc 1 1, 3) := by decide +kernel
theorem dX12_tick_57 : decode cX12_tick 57 = .ok (.goto (-28), 3) := by decide +kernel
theorem dX12_tick_60 : decode cX12_tick 60 = .ok (.aload_n 0, 1) := by decide +kernel
theorem dX12_tick_61 : decode cX12_tick 61 = .ok (.invokevirtual 218, 3) := by decide +kernel
theorem dX12_tick_64 : decode cX12_tick 64 = .ok (.iconst 0, 1) := by decide +kernel
theorem dX12_tick_65 : decode cX12_tick 65 = .ok (.istore_n 1, 1) := by decide +kernel
theorem dX12_tick_66 : decode cX12_tick 66 = .ok (.iload_n 1, 1) := by decide +kernel
theorem dX12_tick_67 : decode cX12_tick 67 = .ok (.aload_n 0, 1) := by decide +kernel
theorem dX12_tick_68 : decode cX12_tick 68 = .ok (.getfield 69, 3) := by decide +kernel
theorem dX12_tick_71 : decode cX12_tick 71 = .ok (.if_icmp .ge 14, 3) := by decide +kernel
theorem dX12_tick_74 : decode cX12_tick 74 = .ok (.aload_n 0, 1) := by decide +kernel
theorem dX12_tick_75 : decode cX12_tick 75 = .ok (.iload_n 1, 1) := by decide +kernel
theorem dX12_tick_76 : decode cX12_tick 76 = .ok (.invokevirtual 221, 3) := by decide +kernel
theorem dX12_tick_79 : decode cX12_tick 79 = .ok (.iinc 1 1, 3) := by decide +kernel
theorem dX12_tick_82 : decode cX12_tick 82 = .ok (.goto (-16), 3) := by decide +kernel
theorem dX12_tick_85 : decode cX12_tick 85 = .ok (.return_, 1) := by decide +kernel
theorem dX12_run_0 : decode cX12_run 0 = .ok (.iload_n 1, 1) := by decide +kernel
theorem dX12_run_1 : decode cX12_run 1 = .ok (.i2l, 1) := by decide +kernel
theorem dX12_run_2 : decode cX12_run 2 = .ok (.lconst 1, 1) := by decide +kernel
theorem dX12_run_3 : decode cX12_run 3 = .ok (.ldc2_w 224, 3) := by decide +kernel
theorem dX12_run_6 : decode cX12_run 6 = .ok (.invokestatic 118, 3) := by decide +kernel
theorem dX12_run_9 : decode cX12_run 9 = .ok (.ifCond .ne 6, 3) := by decide +kernel
theorem dX12_run_12 : decode cX12_run 12 = .ok (.ldc 126, 2) := by decide +kernel
theorem dX12_run_14 : decode cX12_run 14 = .ok (.ireturn, 1) := by decide +kernel
theorem dX12_run_15 : decode cX12_run 15 = .ok (.iconst 0, 1) := by decide +kernel
theorem dX12_run_16 : decode cX12_run 16 = .ok (.istore_n 2, 1) := by decide +kernel
theorem dX12_run_17 : decode cX12_run 17 = .ok (.iload_n 2, 1) := by decide +kernel
theorem dX12_run_18 : decode cX12_run 18 = .ok (.iload_n 1, 1) := by decide +kernel
theorem dX12_run_19 : decode cX12_run 19 = .ok (.if_icmp .ge 25, 3) := by decide +kernel
theorem dX12_run_22 : decode cX12_run 22 = .ok (.aload_n 0, 1) := by decide +kernel
theorem dX12_run_23 : decode cX12_run 23 = .ok (.getfield 41, 3) := by decide +kernel
theorem dX12_run_26 : decode cX12_run 26 = .ok (.bipush 49, 2) := by decide +kernel
theorem dX12_run_28 : decode cX12_run 28 = .ok (.laload, 1) := by decide +kernel
theorem dX12_run_29 : decode cX12_run 29 = .ok (.lconst 0, 1) := by decide +kernel
theorem dX12_run_30 : decode cX12_run 30 = .ok (.lcmp, 1) := by decide +kernel
theorem dX12_run_31 : decode cX12_run 31 = .ok (.ifCond .ne 13, 3) := by decide +kernel
theorem dX12_run_34 : decode cX12_run 34 = .ok (.aload_n 0, 1) := by decide +kernel
theorem dX12_run_35 : decode cX12_run 35 = .ok (.invokevirtual 226, 3) := by decide +kernel
theorem dX12_run_38 : decode cX12_run 38 = .ok (.iinc 2 1, 3) := by decide +kernel
theorem dX12_run_41 : decode cX12_run 41 = .ok (.goto (-24), 3) := by decide +kernel
theorem dX12_run_44 : decode cX12_run 44 = .ok (.aload_n 0, 1) := by decide +kernel
theorem dX12_run_45 : decode cX12_run 45 = .ok (.getfield 41, 3) := by decide +kernel
theorem dX12_run_48 : decode cX12_run 48 = .ok (.bipush 49, 2) := by decide +kernel
theorem dX12_run_50 : decode cX12_run 50 = .ok (.laload, 1) := by decide +kernel
theorem dX12_run_51 : decode cX12_run 51 = .ok (.l2i, 1) := by decide +kernel
theorem dX12_run_52 : decode cX12_run 52 = .ok (.ireturn, 1) := by decide +kernel
theorem dX12_thread_0 : decode cX12_thread 0 = .ok (.aload_n 0, 1) := by decide +kernel
theorem dX12_thread_1 : decode cX12_thread 1 = .ok (.getfield 41, 3) := by decide +kernel
theorem dX12_thread_4 : decode cX12_thread 4 = .ok (.bipush 49, 2) := by decide +kernel
theorem dX12_thread_6 : decode cX12_thread 6 = .ok (.laload, 1) := by decide +kernel
theorem dX12_thread_7 : decode cX12_thread 7 = .ok (.lconst 0, 1) := by decide +kernel
theorem dX12_thread_8 : decode cX12_thread 8 = .ok (.lcmp, 1) := by decide +kernel
theorem dX12_thread_9 : decode cX12_thread 9 = .ok (.ifCond .ne 6, 3) := by decide +kernel
theorem dX12_thread_12 : decode cX12_thread 12 = .ok (.ldc 127, 2) := by decide +kernel
theorem dX12_thread_14 : decode cX12_thread 14 = .ok (.ireturn, 1) := by decide +kernel
theorem dX12_thread_15 : decode cX12_thread 15 = .ok (.aload_n 0, 1) := by decide +kernel
theorem dX12_thread_16 : decode cX12_thread 16 = .ok (.getfield 41, 3) := by decide +kernel
theorem dX12_thread_19 : decode cX12_thread 19 = .ok (.bipush 49, 2) := by decide +kernel
