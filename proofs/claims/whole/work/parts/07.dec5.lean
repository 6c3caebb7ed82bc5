theorem dX4_code_116 : decode cX4_code 116 = .ok (.iload_n 1, 1) := by decide +kernel
theorem dX4_code_117 : decode cX4_code 117 = .ok (.iload_n 2, 1) := by decide +kernel
theorem dX4_code_118 : decode cX4_code 118 = .ok (.bipush 54, 2) := by decide +kernel
theorem dX4_code_120 : decode cX4_code 120 = .ok (.invokevirtual 158, 3) := by decide +kernel
theorem dX4_code_123 : decode cX4_code 123 = .ok (.aload_n 0, 1) := by decide +kernel
theorem dX4_code_124 : decode cX4_code 124 = .ok (.getfield 35, 3) := by decide +kernel
theorem dX4_code_127 : decode cX4_code 127 = .ok (.iload_n 1, 1) := by decide +kernel
theorem dX4_code_128 : decode cX4_code 128 = .ok (.iconst 1, 1) := by decide +kernel
theorem dX4_code_129 : decode cX4_code 129 = .ok (.bastore, 1) := by decide +kernel
theorem dX4_code_130 : decode cX4_code 130 = .ok (.aload_n 0, 1) := by decide +kernel
theorem dX4_code_131 : decode cX4_code 131 = .ok (.getfield 39, 3) := by decide +kernel
theorem dX4_code_134 : decode cX4_code 134 = .ok (.iload_n 1, 1) := by decide +kernel
theorem dX4_code_135 : decode cX4_code 135 = .ok (.iconst 1, 1) := by decide +kernel
theorem dX4_code_136 : decode cX4_code 136 = .ok (.bastore, 1) := by decide +kernel
theorem dX4_code_137 : decode cX4_code 137 = .ok (.aload_n 0, 1) := by decide +kernel
theorem dX4_code_138 : decode cX4_code 138 = .ok (.getfield 42, 3) := by decide +kernel
theorem dX4_code_141 : decode cX4_code 141 = .ok (.iload_n 1, 1) := by decide +kernel
theorem dX4_code_142 : decode cX4_code 142 = .ok (.iconst 0, 1) := by decide +kernel
theorem dX4_code_143 : decode cX4_code 143 = .ok (.bastore, 1) := by decide +kernel
theorem dX4_code_144 : decode cX4_code 144 = .ok (.aload_n 0, 1) := by decide +kernel
theorem dX4_code_145 : decode cX4_code 145 = .ok (.getfield 45, 3) := by decide +kernel
theorem dX4_code_148 : decode cX4_code 148 = .ok (.iload_n 1, 1) := by decide +kernel
theorem dX4_code_149 : decode cX4_code 149 = .ok (.lconst 0, 1) := by decide +kernel
theorem dX4_code_150 : decode cX4_code 150 = .ok (.lastore, 1) := by decide +kernel
theorem dX4_code_151 : decode cX4_code 151 = .ok (.aload_n 0, 1) := by decide +kernel
theorem dX4_code_152 : decode cX4_code 152 = .ok (.getfield 146, 3) := by decide +kernel
theorem dX4_code_155 : decode cX4_code 155 = .ok (.ireturn, 1) := by decide +kernel
theorem dX4_update_0 : decode cX4_update 0 = .ok (.aload_n 0, 1) := by decide +kernel
theorem dX4_update_1 : decode cX4_update 1 = .ok (.iload_n 1, 1) := by decide +kernel
theorem dX4_update_2 : decode cX4_update 2 = .ok (.invokestatic 174, 3) := by decide +kernel
theorem dX4_update_5 : decode cX4_update 5 = .ok (.ifCond .eq 7, 3) := by decide +kernel
theorem dX4_update_8 : decode cX4_update 8 = .ok (.iconst 1, 1) := by decide +kernel
theorem dX4_update_9 : decode cX4_update 9 = .ok (.goto 26, 3) := by decide +kernel
theorem dX4_update_12 : decode cX4_update 12 = .ok (.aload_n 0, 1) := by decide +kernel
theorem dX4_update_13 : decode cX4_update 13 = .ok (.getfield 35, 3) := by decide +kernel
theorem dX4_update_16 : decode cX4_update 16 = .ok (.iload_n 1, 1) := by decide +kernel
theorem dX4_update_17 : decode cX4_update 17 = .ok (.baload, 1) := by decide +kernel
theorem dX4_update_18 : decode cX4_update 18 = .ok (.ifCond .eq 12, 3) := by decide +kernel
theorem dX4_update_21 : decode cX4_update 21 = .ok (.aload_n 0, 1) := by decide +kernel
theorem dX4_update_22 : decode cX4_update 22 = .ok (.getfield 42, 3) := by decide +kernel
theorem dX4_update_25 : decode cX4_update 25 = .ok (.iload_n 1, 1) := by decide +kernel
theorem dX4_update_26 : decode cX4_update 26 = .ok (.baload, 1) := by decide +kernel
theorem dX4_update_27 : decode cX4_update 27 = .ok (.ifCond .eq 7, 3) := by decide +kernel
theorem dX4_update_30 : decode cX4_update 30 = .ok (.iconst 2, 1) := by decide +kernel
theorem dX4_update_31 : decode cX4_update 31 = .ok (.goto 4, 3) := by decide +kernel
theorem dX4_update_34 : decode cX4_update 34 = .ok (.iconst 0, 1) := by decide +kernel
theorem dX4_update_35 : decode cX4_update 35 = .ok (.putfield 95, 3) := by decide +kernel
theorem dX4_update_38 : decode cX4_update 38 = .ok (.aload_n 0, 1) := by decide +kernel
theorem dX4_update_39 : decode cX4_update 39 = .ok (.getfield 95, 3) := by decide +kernel
theorem dX4_update_42 : decode cX4_update 42 = .ok (.ifCond .le 5, 3) := by decide +kernel
theorem dX4_update_45 : decode cX4_update 45 = .ok (.lconst 0, 1) := by decide +kernel
theorem dX4_update_46 : decode cX4_update 46 = .ok (.lreturn, 1) := by decide +kernel
theorem dX4_update_47 : decode cX4_update 47 = .ok (.iconst 0, 1) := by decide +kernel
theorem dX4_update_48 : decode cX4_update 48 = .ok (.istore_n 2, 1) := by decide +kernel
theorem dX4_update_49 : decode cX4_update 49 = .ok (.iload_n 2, 1) := by decide +kernel
theorem dX4_update_50 : decode cX4_update 50 = .ok (.aload_n 0, 1) := by decide +kernel
theorem dX4_update_51 : decode cX4_update 51 = .ok (.getfield 171, 3) := by decide +kernel
theorem dX4_update_54 : decode cX4_update 54 = .ok (.if_icmp .ge 20, 3) := by decide +kernel
theorem dX4_update_57 : decode cX4_update 57 = .ok (.aload_n 0, 1) := by decide +kernel
theorem dX4_update_58 : decode cX4_update 58 = .ok (.iload_n 1, 1) := by decide +kernel
theorem dX4_update_59 : decode cX4_update 59 = .ok (.aload_n 0, 1) := by decide +kernel
theorem dX4_update_60 : decode cX4_update 60 = .ok (.getfield 7, 3) := by decide +kernel
theorem dX4_update_63 : decode cX4_update 63 = .ok (.iload_n 2, 1) := by decide +kernel
theorem dX4_update_64 : decode cX4_update 64 = .ok (.iaload, 1) := by decide +kernel
theorem dX4_update_65 : decode cX4_update 65 = .ok (.invokevirtual 137, 3) := by decide +kernel
theorem dX4_update_68 : decode cX4_update 68 = .ok (.iinc 2 1, 3) := by decide +kernel
theorem dX4_update_71 : decode cX4_update 71 = .ok (.goto (-22), 3) := by decide +kernel
theorem dX4_update_74 : decode cX4_update 74 = .ok (.aload_n 0, 1) := by decide +kernel
theorem dX4_update_75 : decode cX4_update 75 = .ok (.getfield 45, 3) := by decide +kernel
theorem dX4_update_78 : decode cX4_update 78 = .ok (.iload_n 1, 1) := by decide +kernel
theorem dX4_update_79 : decode cX4_update 79 = .ok (.dup2, 1) := by decide +kernel
theorem dX4_update_80 : decode cX4_update 80 = .ok (.laload, 1) := by decide +kernel
theorem dX4_update_81 : decode cX4_update 81 = .ok (.aload_n 0, 1) := by decide +kernel
theorem dX4_update_82 : decode cX4_update 82 = .ok (.getfield 171, 3) := by decide +kernel
theorem dX4_update_85 : decode cX4_update 85 = .ok (.i2l, 1) := by decide +kernel
theorem dX4_update_86 : decode cX4_update 86 = .ok (.ladd, 1) := by decide +kernel
theorem dX4_update_87 : decode cX4_update 87 = .ok (.lastore, 1) := by decide +kernel
theorem dX4_update_88 : decode cX4_update 88 = .ok (.aload_n 0, 1) := by decide +kernel
theorem dX4_update_89 : decode cX4_update 89 = .ok (.iconst 0, 1) := by decide +kernel
theorem dX4_update_90 : decode cX4_update 90 = .ok (.putfield 171, 3) := by decide +kernel
theorem dX4_update_93 : decode cX4_update 93 = .ok (.aload_n 0, 1) := by decide +kernel
theorem dX4_update_94 : decode cX4_update 94 = .ok (.getfield 45, 3) := by decide +kernel
theorem dX4_update_97 : decode cX4_update 97 = .ok (.iload_n 1, 1) := by decide +kernel
theorem dX4_update_98 : decode cX4_update 98 = .ok (.laload, 1) := by decide +kernel
theorem dX4_update_99 : decode cX4_update 99 = .ok (.lreturn, 1) := by decide +kernel
theorem dX4_repeat_0 : decode cX4_repeat 0 = .ok (.aload_n 0, 1) := by decide +kernel
theorem dX4_repeat_1 : decode cX4_repeat 1 = .ok (.iload_n 1, 1) := by decide +kernel
theorem dX4_repeat_2 : decode cX4_repeat 2 = .ok (.invokestatic 174, 3) := by decide +kernel
theorem dX4_repeat_5 : decode cX4_repeat 5 = .ok (.ifCond .eq 7, 3) := by decide +kernel
theorem dX4_repeat_8 : decode cX4_repeat 8 = .ok (.iconst 1, 1) := by decide +kernel
theorem dX4_repeat_9 : decode cX4_repeat 9 = .ok (.goto 41, 3) := by decide +kernel
theorem dX4_repeat_12 : decode cX4_repeat 12 = .ok (.aload_n 0, 1) := by decide +kernel
theorem dX4_repeat_13 : decode cX4_repeat 13 = .ok (.getfield 35, 3) := by decide +kernel
theorem dX4_repeat_16 : decode cX4_repeat 16 = .ok (.iload_n 1, 1) := by decide +kernel
theorem dX4_repeat_17 : decode cX4_repeat 17 = .ok (.baload, 1) := by decide +kernel
theorem dX4_repeat_18 : decode cX4_repeat 18 = .ok (.ifCond .eq 12, 3) := by decide +kernel
theorem dX4_repeat_21 : decode cX4_repeat 21 = .ok (.aload_n 0, 1) := by decide +kernel
theorem dX4_repeat_22 : decode cX4_repeat 22 = .ok (.getfield 42, 3) := by decide +kernel
theorem dX4_repeat_25 : decode cX4_repeat 25 = .ok (.iload_n 1, 1) := by decide +kernel
theorem dX4_repeat_26 : decode cX4_repeat 26 = .ok (.baload, 1) := by decide +kernel
theorem dX4_repeat_27 : decode cX4_repeat 27 = .ok (.ifCond .eq 7, 3) := by decide +kernel
theorem dX4_repeat_30 : decode cX4_repeat 30 = .ok (.iconst 2, 1) := by decide +kernel
theorem dX4_repeat_31 : decode cX4_repeat 31 = .ok (.goto 19, 3) := by decide +kernel
theorem dX4_repeat_34 : decode cX4_repeat 34 = .ok (.iload_n 3, 1) := by decide +kernel
theorem dX4_repeat_35 : decode cX4_repeat 35 = .ok (.ifCond .lt 10, 3) := by decide +kernel
theorem dX4_repeat_38 : decode cX4_repeat 38 = .ok (.iload_n 3, 1) := by decide +kernel
theorem dX4_repeat_39 : decode cX4_repeat 39 = .ok (.sipush 20000, 3) := by decide +kernel
theorem dX4_repeat_42 : decode cX4_repeat 42 = .ok (.if_icmp .le 7, 3) := by decide +kernel
theorem dX4_repeat_45 : decode cX4_repeat 45 = .ok (.iconst 3, 1) := by decide +kernel
theorem dX4_repeat_46 : decode cX4_repeat 46 = .ok (.goto 4, 3) := by decide +kernel
theorem dX4_repeat_49 : decode cX4_repeat 49 = .ok (.iconst 0, 1) := by decide +kernel
theorem dX4_repeat_50 : decode cX4_repeat 50 = .ok (.putfield 95, 3) := by decide +kernel
theorem dX4_repeat_53 : decode cX4_repeat 53 = .ok (.aload_n 0, 1) := by decide +kernel
theorem dX4_repeat_54 : decode cX4_repeat 54 = .ok (.getfield 95, 3) := by decide +kernel
theorem dX4_repeat_57 : decode cX4_repeat 57 = .ok (.ifCond .le 5, 3) := by decide +kernel
theorem dX4_repeat_60 : decode cX4_repeat 60 = .ok (.lconst 0, 1) := by decide +kernel
theorem dX4_repeat_61 : decode cX4_repeat 61 = .ok (.lreturn, 1) := by decide +kernel
theorem dX4_repeat_62 : decode cX4_repeat 62 = .ok (.iconst 0, 1) := by decide +kernel
theorem dX4_repeat_63 : decode cX4_repeat 63 = .ok (.istore 4, 2) := by decide +kernel
theorem dX4_repeat_65 : decode cX4_repeat 65 = .ok (.iload 4, 2) := by decide +kernel
theorem dX4_repeat_67 : decode cX4_repeat 67 = .ok (.iload_n 3, 1) := by decide +kernel
theorem dX4_repeat_68 : decode cX4_repeat 68 = .ok (.if_icmp .ge 19, 3) := by decide +kernel
theorem dX4_repeat_71 : decode cX4_repeat 71 = .ok (.aload_n 0, 1) := by decide +kernel
theorem dX4_repeat_72 : decode cX4_repeat 72 = .ok (.iload_n 1, 1) := by decide +kernel
theorem dX4_repeat_73 : decode cX4_repeat 73 = .ok (.iload_n 2, 1) := by decide +kernel
theorem dX4_repeat_74 : decode cX4_repeat 74 = .ok (.sipush 255, 3) := by decide +kernel
theorem dX4_repeat_77 : decode cX4_repeat 77 = .ok (.iand, 1) := by decide +kernel
theorem dX4_repeat_78 : decode cX4_repeat 78 = .ok (.invokevirtual 137, 3) := by decide +kernel
theorem dX4_repeat_81 : decode cX4_repeat 81 = .ok (.iinc 4 1, 3) := by decide +kernel
theorem dX4_repeat_84 : decode cX4_repeat 84 = .ok (.goto (-19), 3) := by decide +kernel
theorem dX4_repeat_87 : decode cX4_repeat 87 = .ok (.aload_n 0, 1) := by decide +kernel
theorem dX4_repeat_88 : decode cX4_repeat 88 = .ok (.getfield 45, 3) := by decide +kernel
theorem dX4_repeat_91 : decode cX4_repeat 91 = .ok (.iload_n 1, 1) := by decide +kernel
theorem dX4_repeat_92 : decode cX4_repeat 92 = .ok (.dup2, 1) := by decide +kernel
theorem dX4_repeat_93 : decode cX4_repeat 93 = .ok (.laload, 1) := by decide +kernel
theorem dX4_repeat_94 : decode cX4_repeat 94 = .ok (.iload_n 3, 1) := by decide +kernel
theorem dX4_repeat_95 : decode cX4_repeat 95 = .ok (.i2l, 1) := by decide +kernel
theorem dX4_repeat_96 : decode cX4_repeat 96 = .ok (.ladd, 1) := by decide +kernel
theorem dX4_repeat_97 : decode cX4_repeat 97 = .ok (.lastore, 1) := by decide +kernel
theorem dX4_repeat_98 : decode cX4_repeat 98 = .ok (.aload_n 0, 1) := by decide +kernel
theorem dX4_repeat_99 : decode cX4_repeat 99 = .ok (.getfield 45, 3) := by decide +kernel
theorem dX4_repeat_102 : decode cX4_repeat 102 = .ok (.iload_n 1, 1) := by decide +kernel
theorem dX4_repeat_103 : decode cX4_repeat 103 = .ok (.laload, 1) := by decide +kernel
theorem dX4_repeat_104 : decode cX4_repeat 104 = .ok (.lreturn, 1) := by decide +kernel
theorem dX4_finish_0 : decode cX4_finish 0 = .ok (.aload_n 0, 1) := by decide +kernel
theorem dX4_finish_1 : decode cX4_finish 1 = .ok (.iload_n 1, 1) := by decide +kernel
theorem dX4_finish_2 : decode cX4_finish 2 = .ok (.invokestatic 174, 3) := by decide +kernel
theorem dX4_finish_5 : decode cX4_finish 5 = .ok (.ifCond .eq 7, 3) := by decide +kernel
theorem dX4_finish_8 : decode cX4_finish 8 = .ok (.iconst 1, 1) := by decide +kernel
theorem dX4_finish_9 : decode cX4_finish 9 = .ok (.goto 26, 3) := by decide +kernel
theorem dX4_finish_12 : decode cX4_finish 12 = .ok (.aload_n 0, 1) := by decide +kernel
theorem dX4_finish_13 : decode cX4_finish 13 = .ok (.getfield 35, 3) := by decide +kernel
theorem dX4_finish_16 : decode cX4_finish 16 = .ok (.iload_n 1, 1) := by decide +kernel
theorem dX4_finish_17 : decode cX4_finish 17 = .ok (.baload, 1) := by decide +kernel
theorem dX4_finish_18 : decode cX4_finish 18 = .ok (.ifCond .eq 12, 3) := by decide +kernel
theorem dX4_finish_21 : decode cX4_finish 21 = .ok (.aload_n 0, 1) := by decide +kernel
theorem dX4_finish_22 : decode cX4_finish 22 = .ok (.getfield 42, 3) := by decide +kernel
theorem dX4_finish_25 : decode cX4_finish 25 = .ok (.iload_n 1, 1) := by decide +kernel
theorem dX4_finish_26 : decode cX4_finish 26 = .ok (.baload, 1) := by decide +kernel
theorem dX4_finish_27 : decode cX4_finish 27 = .ok (.ifCond .eq 7, 3) := by decide +kernel
theorem dX4_finish_30 : decode cX4_finish 30 = .ok (.iconst 2, 1) := by decide +kernel
theorem dX4_finish_31 : decode cX4_finish 31 = .ok (.goto 4, 3) := by decide +kernel
theorem dX4_finish_34 : decode cX4_finish 34 = .ok (.iconst 0, 1) := by decide +kernel
theorem dX4_finish_35 : decode cX4_finish 35 = .ok (.putfield 95, 3) := by decide +kernel
theorem dX4_finish_38 : decode cX4_finish 38 = .ok (.aload_n 0, 1) := by decide +kernel
theorem dX4_finish_39 : decode cX4_finish 39 = .ok (.getfield 95, 3) := by decide +kernel
theorem dX4_finish_42 : decode cX4_finish 42 = .ok (.ifCond .le 5, 3) := by decide +kernel
theorem dX4_finish_45 : decode cX4_finish 45 = .ok (.iconst 0, 1) := by decide +kernel
theorem dX4_finish_46 : decode cX4_finish 46 = .ok (.ireturn, 1) := by decide +kernel
theorem dX4_finish_47 : decode cX4_finish 47 = .ok (.aload_n 0, 1) := by decide +kernel
theorem dX4_finish_48 : decode cX4_finish 48 = .ok (.getfield 42, 3) := by decide +kernel
theorem dX4_finish_51 : decode cX4_finish 51 = .ok (.iload_n 1, 1) := by decide +kernel
theorem dX4_finish_52 : decode cX4_finish 52 = .ok (.iconst 1, 1) := by decide +kernel
theorem dX4_finish_53 : decode cX4_finish 53 = .ok (.bastore, 1) := by decide +kernel
theorem dX4_finish_54 : decode cX4_finish 54 = .ok (.aload_n 0, 1) := by decide +kernel
theorem dX4_finish_55 : decode cX4_finish 55 = .ok (.iconst 4, 1) := by decide +kernel
theorem dX4_finish_56 : decode cX4_finish 56 = .ok (.iload_n 1, 1) := by decide +kernel
theorem dX4_finish_57 : decode cX4_finish 57 = .ok (.invokevirtual 162, 3) := by decide +kernel
theorem dX4_finish_60 : decode cX4_finish 60 = .ok (.aload_n 0, 1) := by decide +kernel
theorem dX4_finish_61 : decode cX4_finish 61 = .ok (.iconst 4, 1) := by decide +kernel
theorem dX4_finish_62 : decode cX4_finish 62 = .ok (.invokevirtual 152, 3) := by decide +kernel
theorem dX4_finish_65 : decode cX4_finish 65 = .ok (.aload_n 0, 1) := by decide +kernel
theorem dX4_finish_66 : decode cX4_finish 66 = .ok (.getfield 39, 3) := by decide +kernel
theorem dX4_finish_69 : decode cX4_finish 69 = .ok (.iload_n 1, 1) := by decide +kernel
theorem dX4_finish_70 : decode cX4_finish 70 = .ok (.baload, 1) := by decide +kernel
theorem dX4_finish_71 : decode cX4_finish 71 = .ok (.ifCond .eq 59, 3) := by decide +kernel
theorem dX4_finish_74 : decode cX4_finish 74 = .ok (.iconst 0, 1) := by decide +kernel
theorem dX4_finish_75 : decode cX4_finish 75 = .ok (.istore_n 2, 1) := by decide +kernel
theorem dX4_finish_76 : decode cX4_finish 76 = .ok (.iload_n 2, 1) := by decide +kernel
theorem dX4_finish_77 : decode cX4_finish 77 = .ok (.sipush 128, 3) := by decide +kernel
theorem dX4_finish_80 : decode cX4_finish 80 = .ok (.if_icmp .ge 27, 3) := by decide +kernel
theorem dX4_finish_83 : decode cX4_finish 83 = .ok (.aload_n 0, 1) := by decide +kernel
theorem dX4_finish_84 : decode cX4_finish 84 = .ok (.getfield 51, 3) := by decide +kernel
theorem dX4_finish_87 : decode cX4_finish 87 = .ok (.iload_n 2, 1) := by decide +kernel
theorem dX4_finish_88 : decode cX4_finish 88 = .ok (.aload_n 0, 1) := by decide +kernel
theorem dX4_finish_89 : decode cX4_finish 89 = .ok (.getfield 48, 3) := by decide +kernel
theorem dX4_finish_92 : decode cX4_finish 92 = .ok (.sipush 128, 3) := by decide +kernel
theorem dX4_finish_95 : decode cX4_finish 95 = .ok (.iload_n 1, 1) := by decide +kernel
theorem dX4_finish_96 : decode cX4_finish 96 = .ok (.imul, 1) := by decide +kernel
theorem dX4_finish_97 : decode cX4_finish 97 = .ok (.iload_n 2, 1) := by decide +kernel
theorem dX4_finish_98 : decode cX4_finish 98 = .ok (.iadd, 1) := by decide +kernel
theorem dX4_finish_99 : decode cX4_finish 99 = .ok (.iaload, 1) := by decide +kernel
theorem dX4_finish_100 : decode cX4_finish 100 = .ok (.iastore, 1) := by decide +kernel
theorem dX4_finish_101 : decode cX4_finish 101 = .ok (.iinc 2 1, 3) := by decide +kernel
theorem dX4_finish_104 : decode cX4_finish 104 = .ok (.goto (-28), 3) := by decide +kernel
theorem dX4_finish_107 : decode cX4_finish 107 = .ok (.aload_n 0, 1) := by decide +kernel
theorem dX4_finish_108 : decode cX4_finish 108 = .ok (.iconst 5, 1) := by decide +kernel
theorem dX4_finish_109 : decode cX4_finish 109 = .ok (.aload_n 0, 1) := by decide +kernel
theorem dX4_finish_110 : decode cX4_finish 110 = .ok (.getfield 20, 3) := by decide +kernel
theorem dX4_finish_113 : decode cX4_finish 113 = .ok (.iload_n 1, 1) := by decide +kernel
theorem dX4_finish_114 : decode cX4_finish 114 = .ok (.iaload, 1) := by decide +kernel
theorem dX4_finish_115 : decode cX4_finish 115 = .ok (.bipush 92, 2) := by decide +kernel
theorem dX4_finish_117 : decode cX4_finish 117 = .ok (.invokevirtual 158, 3) := by decide +kernel
theorem dX4_finish_120 : decode cX4_finish 120 = .ok (.aload_n 0, 1) := by decide +kernel
theorem dX4_finish_121 : decode cX4_finish 121 = .ok (.iconst 5, 1) := by decide +kernel
theorem dX4_finish_122 : decode cX4_finish 122 = .ok (.invokevirtual 165, 3) := by decide +kernel
theorem dX4_finish_125 : decode cX4_finish 125 = .ok (.aload_n 0, 1) := by decide +kernel
theorem dX4_finish_126 : decode cX4_finish 126 = .ok (.iconst 5, 1) := by decide +kernel
theorem dX4_finish_127 : decode cX4_finish 127 = .ok (.invokevirtual 152, 3) := by decide +kernel
theorem dX4_finish_130 : decode cX4_finish 130 = .ok (.aload_n 0, 1) := by decide +kernel
theorem dX4_finish_131 : decode cX4_finish 131 = .ok (.aload_n 0, 1) := by decide +kernel
theorem dX4_finish_132 : decode cX4_finish 132 = .ok (.getfield 20, 3) := by decide +kernel
theorem dX4_finish_135 : decode cX4_finish 135 = .ok (.iload_n 1, 1) := by decide +kernel
theorem dX4_finish_136 : decode cX4_finish 136 = .ok (.iaload, 1) := by decide +kernel
theorem dX4_finish_137 : decode cX4_finish 137 = .ok (.invokestatic 143, 3) := by decide +kernel
theorem dX4_finish_140 : decode cX4_finish 140 = .ok (.invokevirtual 180, 3) := by decide +kernel
theorem dX4_finish_143 : decode cX4_finish 143 = .ok (.aload_n 0, 1) := by decide +kernel
theorem dX4_finish_144 : decode cX4_finish 144 = .ok (.getfield 168, 3) := by decide +kernel
theorem dX4_finish_147 : decode cX4_finish 147 = .ok (.ireturn, 1) := by decide +kernel
theorem dX4_copy_0 : decode cX4_copy 0 = .ok (.aload_n 0, 1) := by decide +kernel
theorem dX4_copy_1 : decode cX4_copy 1 = .ok (.iload_n 1, 1) := by decide +kernel
theorem dX4_copy_2 : decode cX4_copy 2 = .ok (.invokestatic 174, 3) := by decide +kernel
theorem dX4_copy_5 : decode cX4_copy 5 = .ok (.ifCond .ne 10, 3) := by decide +kernel
theorem dX4_copy_8 : decode cX4_copy 8 = .ok (.iload_n 2, 1) := by decide +kernel
theorem dX4_copy_9 : decode cX4_copy 9 = .ok (.invokestatic 174, 3) := by decide +kernel
theorem dX4_copy_12 : decode cX4_copy 12 = .ok (.ifCond .eq 7, 3) := by decide +kernel
theorem dX4_copy_15 : decode cX4_copy 15 = .ok (.iconst 1, 1) := by decide +kernel
theorem dX4_copy_16 : decode cX4_copy 16 = .ok (.goto 17, 3) := by decide +kernel
theorem dX4_copy_19 : decode cX4_copy 19 = .ok (.aload_n 0, 1) := by decide +kernel
theorem dX4_copy_20 : decode cX4_copy 20 = .ok (.getfield 35, 3) := by decide +kernel
theorem dX4_copy_23 : decode cX4_copy 23 = .ok (.iload_n 2, 1) := by decide +kernel
theorem dX4_copy_24 : decode cX4_copy 24 = .ok (.baload, 1) := by decide +kernel
theorem dX4_copy_25 : decode cX4_copy 25 = .ok (.ifCond .ne 7, 3) := by decide +kernel
theorem dX4_copy_28 : decode cX4_copy 28 = .ok (.iconst 2, 1) := by decide +kernel
theorem dX4_copy_29 : decode cX4_copy 29 = .ok (.goto 4, 3) := by decide +kernel
theorem dX4_copy_32 : decode cX4_copy 32 = .ok (.iconst 0, 1) := by decide +kernel
theorem dX4_copy_33 : decode cX4_copy 33 = .ok (.putfield 95, 3) := by decide +kernel
theorem dX4_copy_36 : decode cX4_copy 36 = .ok (.aload_n 0, 1) := by decide +kernel
theorem dX4_copy_37 : decode cX4_copy 37 = .ok (.getfield 95, 3) := by decide +kernel
theorem dX4_copy_40 : decode cX4_copy 40 = .ok (.ifCond .ne 91, 3) := by decide +kernel
theorem dX4_copy_43 : decode cX4_copy 43 = .ok (.aload_n 0, 1) := by decide +kernel
theorem dX4_copy_44 : decode cX4_copy 44 = .ok (.iload_n 1, 1) := by decide +kernel
theorem dX4_copy_45 : decode cX4_copy 45 = .ok (.iload_n 2, 1) := by decide +kernel
theorem dX4_copy_46 : decode cX4_copy 46 = .ok (.invokevirtual 162, 3) := by decide +kernel
theorem dX4_copy_49 : decode cX4_copy 49 = .ok (.aload_n 0, 1) := by decide +kernel
theorem dX4_copy_50 : decode cX4_copy 50 = .ok (.getfield 35, 3) := by decide +kernel
theorem dX4_copy_53 : decode cX4_copy 53 = .ok (.iload_n 1, 1) := by decide +kernel
theorem dX4_copy_54 : decode cX4_copy 54 = .ok (.iconst 1, 1) := by decide +kernel
theorem dX4_copy_55 : decode cX4_copy 55 = .ok (.bastore, 1) := by decide +kernel
theorem dX4_copy_56 : decode cX4_copy 56 = .ok (.aload_n 0, 1) := by decide +kernel
theorem dX4_copy_57 : decode cX4_copy 57 = .ok (.getfield 39, 3) := by decide +kernel
theorem dX4_copy_60 : decode cX4_copy 60 = .ok (.iload_n 1, 1) := by decide +kernel
theorem dX4_copy_61 : decode cX4_copy 61 = .ok (.aload_n 0, 1) := by decide +kernel
theorem dX4_copy_62 : decode cX4_copy 62 = .ok (.getfield 39, 3) := by decide +kernel
theorem dX4_copy_65 : decode cX4_copy 65 = .ok (.iload_n 2, 1) := by decide +kernel
theorem dX4_copy_66 : decode cX4_copy 66 = .ok (.baload, 1) := by decide +kernel
theorem dX4_copy_67 : decode cX4_copy 67 = .ok (.bastore, 1) := by decide +kernel
theorem dX4_copy_68 : decode cX4_copy 68 = .ok (.aload_n 0, 1) := by decide +kernel
theorem dX4_copy_69 : decode cX4_copy 69 = .ok (.getfield 42, 3) := by decide +kernel
theorem dX4_copy_72 : decode cX4_copy 72 = .ok (.iload_n 1, 1) := by decide +kernel
theorem dX4_copy_73 : decode cX4_copy 73 = .ok (.aload_n 0, 1) := by decide +kernel
theorem dX4_copy_74 : decode cX4_copy 74 = .ok (.getfield 42, 3) := by decide +kernel
theorem dX4_copy_77 : decode cX4_copy 77 = .ok (.iload_n 2, 1) := by decide +kernel
theorem dX4_copy_78 : decode cX4_copy 78 = .ok (.baload, 1) := by decide +kernel
theorem dX4_copy_79 : decode cX4_copy 79 = .ok (.bastore, 1) := by decide +kernel
theorem dX4_copy_80 : decode cX4_copy 80 = .ok (.aload_n 0, 1) := by decide +kernel
theorem dX4_copy_81 : decode cX4_copy 81 = .ok (.getfield 45, 3) := by decide +kernel
theorem dX4_copy_84 : decode cX4_copy 84 = .ok (.iload_n 1, 1) := by decide +kernel
theorem dX4_copy_85 : decode cX4_copy 85 = .ok (.aload_n 0, 1) := by decide +kernel
theorem dX4_copy_86 : decode cX4_copy 86 = .ok (.getfield 45, 3) := by decide +kernel
theorem dX4_copy_89 : decode cX4_copy 89 = .ok (.iload_n 2, 1) := by decide +kernel
theorem dX4_copy_90 : decode cX4_copy 90 = .ok (.laload, 1) := by decide +kernel
theorem dX4_copy_91 : decode cX4_copy 91 = .ok (.lastore, 1) := by decide +kernel
theorem dX4_copy_92 : decode cX4_copy 92 = .ok (.iconst 0, 1) := by decide +kernel
theorem dX4_copy_93 : decode cX4_copy 93 = .ok (.istore_n 3, 1) := by decide +kernel
theorem dX4_copy_94 : decode cX4_copy 94 = .ok (.iload_n 3, 1) := by decide +kernel
theorem dX4_copy_95 : decode cX4_copy 95 = .ok (.sipush 128, 3) := by decide +kernel
theorem dX4_copy_98 : decode cX4_copy 98 = .ok (.if_icmp .ge 33, 3) := by decide +kernel
theorem dX4_copy_101 : decode cX4_copy 101 = .ok (.aload_n 0, 1) := by decide +kernel
theorem dX4_copy_102 : decode cX4_copy 102 = .ok (.getfield 48, 3) := by decide +kernel
theorem dX4_copy_105 : decode cX4_copy 105 = .ok (.sipush 128, 3) := by decide +kernel
theorem dX4_copy_108 : decode cX4_copy 108 = .ok (.iload_n 1, 1) := by decide +kernel
theorem dX4_copy_109 : decode cX4_copy 109 = .ok (.imul, 1) := by decide +kernel
theorem dX4_copy_110 : decode cX4_copy 110 = .ok (.iload_n 3, 1) := by decide +kernel
theorem dX4_copy_111 : decode cX4_copy 111 = .ok (.iadd, 1) := by decide +kernel
theorem dX4_copy_112 : decode cX4_copy 112 = .ok (.aload_n 0, 1) := by decide +kernel
theorem dX4_copy_113 : decode cX4_copy 113 = .ok (.getfield 48, 3) := by decide +kernel
theorem dX4_copy_116 : decode cX4_copy 116 = .ok (.sipush 128, 3) := by decide +kernel
theorem dX4_copy_119 : decode cX4_copy 119 = .ok (.iload_n 2, 1) := by decide +kernel
theorem dX4_copy_120 : decode cX4_copy 120 = .ok (.imul, 1) := by decide +kernel
theorem dX4_copy_121 : decode cX4_copy 121 = .ok (.iload_n 3, 1) := by decide +kernel
theorem dX4_copy_122 : decode cX4_copy 122 = .ok (.iadd, 1) := by decide +kernel
theorem dX4_copy_123 : decode cX4_copy 123 = .ok (.iaload, 1) := by decide +kernel
theorem dX4_copy_124 : decode cX4_copy 124 = .ok (.iastore, 1) := by decide +kernel
theorem dX4_copy_125 : decode cX4_copy 125 = .ok (.iinc 3 1, 3) := by decide +kernel
theorem dX4_copy_128 : decode cX4_copy 128 = .ok (.goto (-34), 3) := by decide +kernel
theorem dX4_copy_131 : decode cX4_copy 131 = .ok (.return_, 1) := by decide +kernel
theorem dX4_about_0 : decode cX4_about 0 = .ok (.aload_n 0, 1) := by decide +kernel
theorem dX4_about_1 : decode cX4_about 1 = .ok (.iload_n 1, 1) := by decide +kernel
theorem dX4_about_2 : decode cX4_about 2 = .ok (.invokestatic 174, 3) := by decide +kernel
theorem dX4_about_5 : decode cX4_about 5 = .ok (.ifCond .ne 12, 3) := by decide +kernel
theorem dX4_about_8 : decode cX4_about 8 = .ok (.iload_n 2, 1) := by decide +kernel
theorem dX4_about_9 : decode cX4_about 9 = .ok (.ifCond .lt 8, 3) := by decide +kernel
theorem dX4_about_12 : decode cX4_about 12 = .ok (.iload_n 2, 1) := by decide +kernel
theorem dX4_about_13 : decode cX4_about 13 = .ok (.iconst 3, 1) := by decide +kernel
theorem dX4_about_14 : decode cX4_about 14 = .ok (.if_icmp .le 7, 3) := by decide +kernel
theorem dX4_about_17 : decode cX4_about 17 = .ok (.iconst 1, 1) := by decide +kernel
theorem dX4_about_18 : decode cX4_about 18 = .ok (.goto 4, 3) := by decide +kernel
theorem dX4_about_21 : decode cX4_about 21 = .ok (.iconst 0, 1) := by decide +kernel
theorem dX4_about_22 : decode cX4_about 22 = .ok (.putfield 95, 3) := by decide +kernel
theorem dX4_about_25 : decode cX4_about 25 = .ok (.aload_n 0, 1) := by decide +kernel
theorem dX4_about_26 : decode cX4_about 26 = .ok (.getfield 95, 3) := by decide +kernel
theorem dX4_about_29 : decode cX4_about 29 = .ok (.ifCond .le 5, 3) := by decide +kernel
theorem dX4_about_32 : decode cX4_about 32 = .ok (.iconst 0, 1) := by decide +kernel
theorem dX4_about_33 : decode cX4_about 33 = .ok (.ireturn, 1) := by decide +kernel
theorem dX4_about_34 : decode cX4_about 34 = .ok (.aload_n 0, 1) := by decide +kernel
theorem dX4_about_35 : decode cX4_about 35 = .ok (.getfield 35, 3) := by decide +kernel
theorem dX4_about_38 : decode cX4_about 38 = .ok (.iload_n 1, 1) := by decide +kernel
theorem dX4_about_39 : decode cX4_about 39 = .ok (.baload, 1) := by decide +kernel
theorem dX4_about_40 : decode cX4_about 40 = .ok (.ifCond .ne 13, 3) := by decide +kernel
theorem dX4_about_43 : decode cX4_about 43 = .ok (.iload_n 2, 1) := by decide +kernel
theorem dX4_about_44 : decode cX4_about 44 = .ok (.ifCond .ne 7, 3) := by decide +kernel
theorem dX4_about_47 : decode cX4_about 47 = .ok (.iconst (-1), 1) := by decide +kernel
theorem dX4_about_48 : decode cX4_about 48 = .ok (.goto 4, 3) := by decide +kernel
theorem dX4_about_51 : decode cX4_about 51 = .ok (.iconst 0, 1) := by decide +kernel
theorem dX4_about_52 : decode cX4_about 52 = .ok (.ireturn, 1) := by decide +kernel
theorem dX4_about_53 : decode cX4_about 53 = .ok (.iload_n 2, 1) := by decide +kernel
theorem dX4_about_54 : decode cX4_about 54 = .ok (.ifCond .ne 12, 3) := by decide +kernel
theorem dX4_about_57 : decode cX4_about 57 = .ok (.aload_n 0, 1) := by decide +kernel
theorem dX4_about_58 : decode cX4_about 58 = .ok (.getfield 20, 3) := by decide +kernel
theorem dX4_about_61 : decode cX4_about 61 = .ok (.iload_n 1, 1) := by decide +kernel
theorem dX4_about_62 : decode cX4_about 62 = .ok (.iaload, 1) := by decide +kernel
theorem dX4_about_63 : decode cX4_about 63 = .ok (.goto 53, 3) := by decide +kernel
theorem dX4_about_66 : decode cX4_about 66 = .ok (.iload_n 2, 1) := by decide +kernel
theorem dX4_about_67 : decode cX4_about 67 = .ok (.iconst 1, 1) := by decide +kernel
theorem dX4_about_68 : decode cX4_about 68 = .ok (.if_icmp .ne 20, 3) := by decide +kernel
theorem dX4_about_71 : decode cX4_about 71 = .ok (.aload_n 0, 1) := by decide +kernel
theorem dX4_about_72 : decode cX4_about 72 = .ok (.getfield 39, 3) := by decide +kernel
theorem dX4_about_75 : decode cX4_about 75 = .ok (.iload_n 1, 1) := by decide +kernel
theorem dX4_about_76 : decode cX4_about 76 = .ok (.baload, 1) := by decide +kernel
theorem dX4_about_77 : decode cX4_about 77 = .ok (.ifCond .eq 7, 3) := by decide +kernel
theorem dX4_about_80 : decode cX4_about 80 = .ok (.iconst 1, 1) := by decide +kernel
theorem dX4_about_81 : decode cX4_about 81 = .ok (.goto 35, 3) := by decide +kernel
theorem dX4_about_84 : decode cX4_about 84 = .ok (.iconst 0, 1) := by decide +kernel
theorem dX4_about_85 : decode cX4_about 85 = .ok (.goto 31, 3) := by decide +kernel
theorem dX4_about_88 : decode cX4_about 88 = .ok (.iload_n 2, 1) := by decide +kernel
theorem dX4_about_89 : decode cX4_about 89 = .ok (.iconst 2, 1) := by decide +kernel
theorem dX4_about_90 : decode cX4_about 90 = .ok (.if_icmp .ne 20, 3) := by decide +kernel
theorem dX4_about_93 : decode cX4_about 93 = .ok (.aload_n 0, 1) := by decide +kernel
theorem dX4_about_94 : decode cX4_about 94 = .ok (.getfield 42, 3) := by decide +kernel
theorem dX4_about_97 : decode cX4_about 97 = .ok (.iload_n 1, 1) := by decide +kernel
theorem dX4_about_98 : decode cX4_about 98 = .ok (.baload, 1) := by decide +kernel
theorem dX4_about_99 : decode cX4_about 99 = .ok (.ifCond .eq 7, 3) := by decide +kernel
theorem dX4_about_102 : decode cX4_about 102 = .ok (.iconst 1, 1) := by decide +kernel
theorem dX4_about_103 : decode cX4_about 103 = .ok (.goto 13, 3) := by decide +kernel
theorem dX4_about_106 : decode cX4_about 106 = .ok (.iconst 0, 1) := by decide +kernel
theorem dX4_about_107 : decode cX4_about 107 = .ok (.goto 9, 3) := by decide +kernel
theorem dX4_about_110 : decode cX4_about 110 = .ok (.aload_n 0, 1) := by decide +kernel
theorem dX4_about_111 : decode cX4_about 111 = .ok (.getfield 29, 3) := by decide +kernel
theorem dX4_about_114 : decode cX4_about 114 = .ok (.iload_n 1, 1) := by decide +kernel
theorem dX4_about_115 : decode cX4_about 115 = .ok (.iaload, 1) := by decide +kernel
theorem dX4_about_116 : decode cX4_about 116 = .ok (.ireturn, 1) := by decide +kernel
theorem dX4_hold_0 : decode cX4_hold 0 = .ok (.aload_n 0, 1) := by decide +kernel
theorem dX4_hold_1 : decode cX4_hold 1 = .ok (.iload_n 1, 1) := by decide +kernel
theorem dX4_hold_2 : decode cX4_hold 2 = .ok (.ifCond .lt 8, 3) := by decide +kernel
theorem dX4_hold_5 : decode cX4_hold 5 = .ok (.iload_n 1, 1) := by decide +kernel
theorem dX4_hold_6 : decode cX4_hold 6 = .ok (.iconst 2, 1) := by decide +kernel
theorem dX4_hold_7 : decode cX4_hold 7 = .ok (.if_icmp .le 7, 3) := by decide +kernel
theorem dX4_hold_10 : decode cX4_hold 10 = .ok (.iconst 1, 1) := by decide +kernel
theorem dX4_hold_11 : decode cX4_hold 11 = .ok (.goto 4, 3) := by decide +kernel
theorem dX4_hold_14 : decode cX4_hold 14 = .ok (.iconst 0, 1) := by decide +kernel
theorem dX4_hold_15 : decode cX4_hold 15 = .ok (.putfield 95, 3) := by decide +kernel
theorem dX4_hold_18 : decode cX4_hold 18 = .ok (.aload_n 0, 1) := by decide +kernel
theorem dX4_hold_19 : decode cX4_hold 19 = .ok (.getfield 95, 3) := by decide +kernel
theorem dX4_hold_22 : decode cX4_hold 22 = .ok (.ifCond .le 5, 3) := by decide +kernel
theorem dX4_hold_25 : decode cX4_hold 25 = .ok (.iconst 0, 1) := by decide +kernel
theorem dX4_hold_26 : decode cX4_hold 26 = .ok (.ireturn, 1) := by decide +kernel
theorem dX4_hold_27 : decode cX4_hold 27 = .ok (.aload_n 0, 1) := by decide +kernel
theorem dX4_hold_28 : decode cX4_hold 28 = .ok (.getfield 63, 3) := by decide +kernel
theorem dX4_hold_31 : decode cX4_hold 31 = .ok (.iload_n 1, 1) := by decide +kernel
theorem dX4_hold_32 : decode cX4_hold 32 = .ok (.aload_n 0, 1) := by decide +kernel
theorem dX4_hold_33 : decode cX4_hold 33 = .ok (.getfield 171, 3) := by decide +kernel
theorem dX4_hold_36 : decode cX4_hold 36 = .ok (.iastore, 1) := by decide +kernel
theorem dX4_hold_37 : decode cX4_hold 37 = .ok (.iconst 0, 1) := by decide +kernel
theorem dX4_hold_38 : decode cX4_hold 38 = .ok (.istore_n 2, 1) := by decide +kernel
theorem dX4_hold_39 : decode cX4_hold 39 = .ok (.iload_n 2, 1) := by decide +kernel
theorem dX4_hold_40 : decode cX4_hold 40 = .ok (.aload_n 0, 1) := by decide +kernel
theorem dX4_hold_41 : decode cX4_hold 41 = .ok (.getfield 171, 3) := by decide +kernel
theorem dX4_hold_44 : decode cX4_hold 44 = .ok (.if_icmp .ge 27, 3) := by decide +kernel
theorem dX4_hold_47 : decode cX4_hold 47 = .ok (.aload_n 0, 1) := by decide +kernel
theorem dX4_hold_48 : decode cX4_hold 48 = .ok (.getfield 60, 3) := by decide +kernel
theorem dX4_hold_51 : decode cX4_hold 51 = .ok (.sipush 600, 3) := by decide +kernel
theorem dX4_hold_54 : decode cX4_hold 54 = .ok (.iload_n 1, 1) := by decide +kernel
theorem dX4_hold_55 : decode cX4_hold 55 = .ok (.imul, 1) := by decide +kernel
theorem dX4_hold_56 : decode cX4_hold 56 = .ok (.iload_n 2, 1) := by decide +kernel
theorem dX4_hold_57 : decode cX4_hold 57 = .ok (.iadd, 1) := by decide +kernel
theorem dX4_hold_58 : decode cX4_hold 58 = .ok (.aload_n 0, 1) := by decide +kernel
theorem dX4_hold_59 : decode cX4_hold 59 = .ok (.getfield 7, 3) := by decide +kernel
theorem dX4_hold_62 : decode cX4_hold 62 = .ok (.iload_n 2, 1) := by decide +kernel
theorem dX4_hold_63 : decode cX4_hold 63 = .ok (.iaload, 1) := by decide +kernel
theorem dX4_hold_64 : decode cX4_hold 64 = .ok (.iastore, 1) := by decide +kernel
theorem dX4_hold_65 : decode cX4_hold 65 = .ok (.iinc 2 1, 3) := by decide +kernel
theorem dX4_hold_68 : decode cX4_hold 68 = .ok (.goto (-29), 3) := by decide +kernel
theorem dX4_hold_71 : decode cX4_hold 71 = .ok (.aload_n 0, 1) := by decide +kernel
theorem dX4_hold_72 : decode cX4_hold 72 = .ok (.iconst 0, 1) := by decide +kernel
theorem dX4_hold_73 : decode cX4_hold 73 = .ok (.putfield 171, 3) := by decide +kernel
theorem dX4_hold_76 : decode cX4_hold 76 = .ok (.aload_n 0, 1) := by decide +kernel
theorem dX4_hold_77 : decode cX4_hold 77 = .ok (.getfield 63, 3) := by decide +kernel
theorem dX4_hold_80 : decode cX4_hold 80 = .ok (.iload_n 1, 1) := by decide +kernel
theorem dX4_hold_81 : decode cX4_hold 81 = .ok (.iaload, 1) := by decide +kernel
theorem dX4_hold_82 : decode cX4_hold 82 = .ok (.ireturn, 1) := by decide +kernel
theorem dX4_keep_0 : decode cX4_keep 0 = .ok (.aload_n 0, 1) := by decide +kernel
theorem dX4_keep_1 : decode cX4_keep 1 = .ok (.iload_n 1, 1) := by decide +kernel
theorem dX4_keep_2 : decode cX4_keep 2 = .ok (.ifCond .lt 8, 3) := by decide +kernel
theorem dX4_keep_5 : decode cX4_keep 5 = .ok (.iload_n 1, 1) := by decide +kernel
theorem dX4_keep_6 : decode cX4_keep 6 = .ok (.iconst 2, 1) := by decide +kernel
theorem dX4_keep_7 : decode cX4_keep 7 = .ok (.if_icmp .le 7, 3) := by decide +kernel
theorem dX4_keep_10 : decode cX4_keep 10 = .ok (.iconst 1, 1) := by decide +kernel
theorem dX4_keep_11 : decode cX4_keep 11 = .ok (.goto 4, 3) := by decide +kernel
theorem dX4_keep_14 : decode cX4_keep 14 = .ok (.iconst 0, 1) := by decide +kernel
theorem dX4_keep_15 : decode cX4_keep 15 = .ok (.putfield 95, 3) := by decide +kernel
theorem dX4_keep_18 : decode cX4_keep 18 = .ok (.aload_n 0, 1) := by decide +kernel
theorem dX4_keep_19 : decode cX4_keep 19 = .ok (.getfield 95, 3) := by decide +kernel
theorem dX4_keep_22 : decode cX4_keep 22 = .ok (.ifCond .le 5, 3) := by decide +kernel
theorem dX4_keep_25 : decode cX4_keep 25 = .ok (.iconst 0, 1) := by decide +kernel
theorem dX4_keep_26 : decode cX4_keep 26 = .ok (.ireturn, 1) := by decide +kernel
theorem dX4_keep_27 : decode cX4_keep 27 = .ok (.aload_n 0, 1) := by decide +kernel
theorem dX4_keep_28 : decode cX4_keep 28 = .ok (.getfield 168, 3) := by decide +kernel
theorem dX4_keep_31 : decode cX4_keep 31 = .ok (.sipush 600, 3) := by decide +kernel
theorem dX4_keep_34 : decode cX4_keep 34 = .ok (.if_icmp .le 5, 3) := by decide +kernel
theorem dX4_keep_37 : decode cX4_keep 37 = .ok (.iconst (-1), 1) := by decide +kernel
theorem dX4_keep_38 : decode cX4_keep 38 = .ok (.ireturn, 1) := by decide +kernel
theorem dX4_keep_39 : decode cX4_keep 39 = .ok (.aload_n 0, 1) := by decide +kernel
theorem dX4_keep_40 : decode cX4_keep 40 = .ok (.getfield 63, 3) := by decide +kernel
theorem dX4_keep_43 : decode cX4_keep 43 = .ok (.iload_n 1, 1) := by decide +kernel
theorem dX4_keep_44 : decode cX4_keep 44 = .ok (.aload_n 0, 1) := by decide +kernel
theorem dX4_keep_45 : decode cX4_keep 45 = .ok (.getfield 168, 3) := by decide +kernel
theorem dX4_keep_48 : decode cX4_keep 48 = .ok (.iastore, 1) := by decide +kernel
theorem dX4_keep_49 : decode cX4_keep 49 = .ok (.iconst 0, 1) := by decide +kernel
theorem dX4_keep_50 : decode cX4_keep 50 = .ok (.istore_n 2, 1) := by decide +kernel
theorem dX4_keep_51 : decode cX4_keep 51 = .ok (.iload_n 2, 1) := by decide +kernel
theorem dX4_keep_52 : decode cX4_keep 52 = .ok (.aload_n 0, 1) := by decide +kernel
theorem dX4_keep_53 : decode cX4_keep 53 = .ok (.getfield 168, 3) := by decide +kernel
theorem dX4_keep_56 : decode cX4_keep 56 = .ok (.if_icmp .ge 27, 3) := by decide +kernel
theorem dX4_keep_59 : decode cX4_keep 59 = .ok (.aload_n 0, 1) := by decide +kernel
theorem dX4_keep_60 : decode cX4_keep 60 = .ok (.getfield 60, 3) := by decide +kernel
theorem dX4_keep_63 : decode cX4_keep 63 = .ok (.sipush 600, 3) := by decide +kernel
theorem dX4_keep_66 : decode cX4_keep 66 = .ok (.iload_n 1, 1) := by decide +kernel
theorem dX4_keep_67 : decode cX4_keep 67 = .ok (.imul, 1) := by decide +kernel
theorem dX4_keep_68 : decode cX4_keep 68 = .ok (.iload_n 2, 1) := by decide +kernel
theorem dX4_keep_69 : decode cX4_keep 69 = .ok (.iadd, 1) := by decide +kernel
theorem dX4_keep_70 : decode cX4_keep 70 = .ok (.aload_n 0, 1) := by decide +kernel
theorem dX4_keep_71 : decode cX4_keep 71 = .ok (.getfield 57, 3) := by decide +kernel
theorem dX4_keep_74 : decode cX4_keep 74 = .ok (.iload_n 2, 1) := by decide +kernel
theorem dX4_keep_75 : decode cX4_keep 75 = .ok (.iaload, 1) := by decide +kernel
theorem dX4_keep_76 : decode cX4_keep 76 = .ok (.iastore, 1) := by decide +kernel
theorem dX4_keep_77 : decode cX4_keep 77 = .ok (.iinc 2 1, 3) := by decide +kernel
theorem dX4_keep_80 : decode cX4_keep 80 = .ok (.goto (-29), 3) := by decide +kernel
theorem dX4_keep_83 : decode cX4_keep 83 = .ok (.aload_n 0, 1) := by decide +kernel
theorem dX4_keep_84 : decode cX4_keep 84 = .ok (.getfield 168, 3) := by decide +kernel
theorem dX4_keep_87 : decode cX4_keep 87 = .ok (.ireturn, 1) := by decide +kernel
theorem dX4_draw_0 : decode cX4_draw 0 = .ok (.aload_n 0, 1) := by decide +kernel
theorem dX4_draw_1 : decode cX4_draw 1 = .ok (.iload_n 1, 1) := by decide +kernel
theorem dX4_draw_2 : decode cX4_draw 2 = .ok (.invokestatic 177, 3) := by decide +kernel
theorem dX4_draw_5 : decode cX4_draw 5 = .ok (.ifCond .eq 7, 3) := by decide +kernel
theorem dX4_draw_8 : decode cX4_draw 8 = .ok (.iconst 1, 1) := by decide +kernel
theorem dX4_draw_9 : decode cX4_draw 9 = .ok (.goto 4, 3) := by decide +kernel
theorem dX4_draw_12 : decode cX4_draw 12 = .ok (.iconst 0, 1) := by decide +kernel
theorem dX4_draw_13 : decode cX4_draw 13 = .ok (.putfield 95, 3) := by decide +kernel
theorem dX4_draw_16 : decode cX4_draw 16 = .ok (.aload_n 0, 1) := by decide +kernel
theorem dX4_draw_17 : decode cX4_draw 17 = .ok (.getfield 95, 3) := by decide +kernel
theorem dX4_draw_20 : decode cX4_draw 20 = .ok (.ifCond .le 5, 3) := by decide +kernel
theorem dX4_draw_23 : decode cX4_draw 23 = .ok (.iconst 0, 1) := by decide +kernel
theorem dX4_draw_24 : decode cX4_draw 24 = .ok (.ireturn, 1) := by decide +kernel
theorem dX4_draw_25 : decode cX4_draw 25 = .ok (.aload_n 0, 1) := by decide +kernel
theorem dX4_draw_26 : decode cX4_draw 26 = .ok (.iconst 1, 1) := by decide +kernel
theorem dX4_draw_27 : decode cX4_draw 27 = .ok (.invokevirtual 183, 3) := by decide +kernel
theorem dX4_draw_30 : decode cX4_draw 30 = .ok (.aload_n 0, 1) := by decide +kernel
theorem dX4_draw_31 : decode cX4_draw 31 = .ok (.iload_n 1, 1) := by decide +kernel
theorem dX4_draw_32 : decode cX4_draw 32 = .ok (.invokevirtual 186, 3) := by decide +kernel
theorem dX4_draw_35 : decode cX4_draw 35 = .ok (.aload_n 0, 1) := by decide +kernel
theorem dX4_draw_36 : decode cX4_draw 36 = .ok (.iconst 4, 1) := by decide +kernel
theorem dX4_draw_37 : decode cX4_draw 37 = .ok (.bipush 7, 2) := by decide +kernel
theorem dX4_draw_39 : decode cX4_draw 39 = .ok (.invokevirtual 162, 3) := by decide +kernel
theorem dX4_draw_42 : decode cX4_draw 42 = .ok (.aload_n 0, 1) := by decide +kernel
theorem dX4_draw_43 : decode cX4_draw 43 = .ok (.iconst 4, 1) := by decide +kernel
theorem dX4_draw_44 : decode cX4_draw 44 = .ok (.iconst 0, 1) := by decide +kernel
theorem dX4_draw_45 : decode cX4_draw 45 = .ok (.invokevirtual 189, 3) := by decide +kernel
theorem dX4_draw_48 : decode cX4_draw 48 = .ok (.aload_n 0, 1) := by decide +kernel
theorem dX4_draw_49 : decode cX4_draw 49 = .ok (.invokevirtual 192, 3) := by decide +kernel
theorem dX4_draw_52 : decode cX4_draw 52 = .ok (.aload_n 0, 1) := by decide +kernel
theorem dX4_draw_53 : decode cX4_draw 53 = .ok (.iload_n 1, 1) := by decide +kernel
theorem dX4_draw_54 : decode cX4_draw 54 = .ok (.invokestatic 143, 3) := by decide +kernel
theorem dX4_draw_57 : decode cX4_draw 57 = .ok (.invokevirtual 180, 3) := by decide +kernel
theorem dX4_draw_60 : decode cX4_draw 60 = .ok (.aload_n 0, 1) := by decide +kernel
theorem dX4_draw_61 : decode cX4_draw 61 = .ok (.getfield 168, 3) := by decide +kernel
theorem dX4_draw_64 : decode cX4_draw 64 = .ok (.ireturn, 1) := by decide +kernel
theorem dX4_spread_0 : decode cX4_spread 0 = .ok (.aload_n 0, 1) := by decide +kernel
theorem dX4_spread_1 : decode cX4_spread 1 = .ok (.iload_n 1, 1) := by decide +kernel
theorem dX4_spread_2 : decode cX4_spread 2 = .ok (.invokestatic 177, 3) := by decide +kernel
theorem dX4_spread_5 : decode cX4_spread 5 = .ok (.ifCond .ne 14, 3) := by decide +kernel
theorem dX4_spread_8 : decode cX4_spread 8 = .ok (.iload_n 2, 1) := by decide +kernel
theorem dX4_spread_9 : decode cX4_spread 9 = .ok (.ifCond .lt 10, 3) := by decide +kernel
theorem dX4_spread_12 : decode cX4_spread 12 = .ok (.iload_n 2, 1) := by decide +kernel
theorem dX4_spread_13 : decode cX4_spread 13 = .ok (.sipush 16320, 3) := by decide +kernel
theorem dX4_spread_16 : decode cX4_spread 16 = .ok (.if_icmp .le 7, 3) := by decide +kernel
theorem dX4_spread_19 : decode cX4_spread 19 = .ok (.iconst 1, 1) := by decide +kernel
theorem dX4_spread_20 : decode cX4_spread 20 = .ok (.goto 4, 3) := by decide +kernel
theorem dX4_spread_23 : decode cX4_spread 23 = .ok (.iconst 0, 1) := by decide +kernel
theorem dX4_spread_24 : decode cX4_spread 24 = .ok (.putfield 95, 3) := by decide +kernel
theorem dX4_spread_27 : decode cX4_spread 27 = .ok (.aload_n 0, 1) := by decide +kernel
theorem dX4_spread_28 : decode cX4_spread 28 = .ok (.getfield 95, 3) := by decide +kernel
theorem dX4_spread_31 : decode cX4_spread 31 = .ok (.ifCond .le 5, 3) := by decide +kernel
theorem dX4_spread_34 : decode cX4_spread 34 = .ok (.iconst 0, 1) := by decide +kernel
theorem dX4_spread_35 : decode cX4_spread 35 = .ok (.ireturn, 1) := by decide +kernel
theorem dX4_spread_36 : decode cX4_spread 36 = .ok (.iload_n 1, 1) := by decide +kernel
theorem dX4_spread_37 : decode cX4_spread 37 = .ok (.invokestatic 143, 3) := by decide +kernel
theorem dX4_spread_40 : decode cX4_spread 40 = .ok (.istore_n 3, 1) := by decide +kernel
theorem dX4_spread_41 : decode cX4_spread 41 = .ok (.iload_n 2, 1) := by decide +kernel
theorem dX4_spread_42 : decode cX4_spread 42 = .ok (.sipush 255, 3) := by decide +kernel
theorem dX4_spread_45 : decode cX4_spread 45 = .ok (.iload_n 3, 1) := by decide +kernel
theorem dX4_spread_46 : decode cX4_spread 46 = .ok (.imul, 1) := by decide +kernel
theorem dX4_spread_47 : decode cX4_spread 47 = .ok (.if_icmp .le 5, 3) := by decide +kernel
theorem dX4_spread_50 : decode cX4_spread 50 = .ok (.iconst (-1), 1) := by decide +kernel
theorem dX4_spread_51 : decode cX4_spread 51 = .ok (.ireturn, 1) := by decide +kernel
theorem dX4_spread_52 : decode cX4_spread 52 = .ok (.aload_n 0, 1) := by decide +kernel
theorem dX4_spread_53 : decode cX4_spread 53 = .ok (.iconst 0, 1) := by decide +kernel
theorem dX4_spread_54 : decode cX4_spread 54 = .ok (.invokevirtual 183, 3) := by decide +kernel
theorem dX4_spread_57 : decode cX4_spread 57 = .ok (.aload_n 0, 1) := by decide +kernel
theorem dX4_spread_58 : decode cX4_spread 58 = .ok (.iload_n 1, 1) := by decide +kernel
theorem dX4_spread_59 : decode cX4_spread 59 = .ok (.invokevirtual 186, 3) := by decide +kernel
theorem dX4_spread_62 : decode cX4_spread 62 = .ok (.iconst 0, 1) := by decide +kernel
theorem dX4_spread_63 : decode cX4_spread 63 = .ok (.istore 4, 2) := by decide +kernel
theorem dX4_spread_65 : decode cX4_spread 65 = .ok (.iconst 0, 1) := by decide +kernel
theorem dX4_spread_66 : decode cX4_spread 66 = .ok (.istore 5, 2) := by decide +kernel
theorem dX4_spread_68 : decode cX4_spread 68 = .ok (.iload 5, 2) := by decide +kernel
theorem dX4_spread_70 : decode cX4_spread 70 = .ok (.iload_n 2, 1) := by decide +kernel
theorem dX4_spread_71 : decode cX4_spread 71 = .ok (.if_icmp .ge 90, 3) := by decide +kernel
theorem dX4_spread_74 : decode cX4_spread 74 = .ok (.aload_n 0, 1) := by decide +kernel
theorem dX4_spread_75 : decode cX4_spread 75 = .ok (.iconst 4, 1) := by decide +kernel
theorem dX4_spread_76 : decode cX4_spread 76 = .ok (.bipush 7, 2) := by decide +kernel
theorem dX4_spread_78 : decode cX4_spread 78 = .ok (.invokevirtual 162, 3) := by decide +kernel
theorem dX4_spread_81 : decode cX4_spread 81 = .ok (.iload 4, 2) := by decide +kernel
theorem dX4_spread_83 : decode cX4_spread 83 = .ok (.ifCond .le 8, 3) := by decide +kernel
theorem dX4_spread_86 : decode cX4_spread 86 = .ok (.aload_n 0, 1) := by decide +kernel
theorem dX4_spread_87 : decode cX4_spread 87 = .ok (.iconst 4, 1) := by decide +kernel
theorem dX4_spread_88 : decode cX4_spread 88 = .ok (.invokevirtual 165, 3) := by decide +kernel
theorem dX4_spread_91 : decode cX4_spread 91 = .ok (.aload_n 0, 1) := by decide +kernel
theorem dX4_spread_92 : decode cX4_spread 92 = .ok (.iconst 4, 1) := by decide +kernel
theorem dX4_spread_93 : decode cX4_spread 93 = .ok (.iconst 2, 1) := by decide +kernel
theorem dX4_spread_94 : decode cX4_spread 94 = .ok (.invokevirtual 189, 3) := by decide +kernel
theorem dX4_spread_97 : decode cX4_spread 97 = .ok (.iinc 4 1, 3) := by decide +kernel
theorem dX4_spread_100 : decode cX4_spread 100 = .ok (.aload_n 0, 1) := by decide +kernel
theorem dX4_spread_101 : decode cX4_spread 101 = .ok (.iconst 4, 1) := by decide +kernel
theorem dX4_spread_102 : decode cX4_spread 102 = .ok (.iload 4, 2) := by decide +kernel
theorem dX4_spread_104 : decode cX4_spread 104 = .ok (.invokevirtual 137, 3) := by decide +kernel
theorem dX4_spread_107 : decode cX4_spread 107 = .ok (.aload_n 0, 1) := by decide +kernel
theorem dX4_spread_108 : decode cX4_spread 108 = .ok (.invokevirtual 192, 3) := by decide +kernel
theorem dX4_spread_111 : decode cX4_spread 111 = .ok (.iconst 0, 1) := by decide +kernel
theorem dX4_spread_112 : decode cX4_spread 112 = .ok (.istore 6, 2) := by decide +kernel
theorem dX4_spread_114 : decode cX4_spread 114 = .ok (.iload 6, 2) := by decide +kernel
theorem dX4_spread_116 : decode cX4_spread 116 = .ok (.iload_n 3, 1) := by decide +kernel
theorem dX4_spread_117 : decode cX4_spread 117 = .ok (.if_icmp .ge 35, 3) := by decide +kernel
theorem dX4_spread_120 : decode cX4_spread 120 = .ok (.iload 5, 2) := by decide +kernel
theorem dX4_spread_122 : decode cX4_spread 122 = .ok (.iload 6, 2) := by decide +kernel
theorem dX4_spread_124 : decode cX4_spread 124 = .ok (.iadd, 1) := by decide +kernel
theorem dX4_spread_125 : decode cX4_spread 125 = .ok (.iload_n 2, 1) := by decide +kernel
theorem dX4_spread_126 : decode cX4_spread 126 = .ok (.if_icmp .ge 26, 3) := by decide +kernel
theorem dX4_spread_129 : decode cX4_spread 129 = .ok (.aload_n 0, 1) := by decide +kernel
theorem dX4_spread_130 : decode cX4_spread 130 = .ok (.getfield 57, 3) := by decide +kernel
theorem dX4_spread_133 : decode cX4_spread 133 = .ok (.iload 5, 2) := by decide +kernel
theorem dX4_spread_135 : decode cX4_spread 135 = .ok (.iload 6, 2) := by decide +kernel
theorem dX4_spread_137 : decode cX4_spread 137 = .ok (.iadd, 1) := by decide +kernel
theorem dX4_spread_138 : decode cX4_spread 138 = .ok (.aload_n 0, 1) := by decide +kernel
theorem dX4_spread_139 : decode cX4_spread 139 = .ok (.getfield 54, 3) := by decide +kernel
theorem dX4_spread_142 : decode cX4_spread 142 = .ok (.iload 6, 2) := by decide +kernel
theorem dX4_spread_144 : decode cX4_spread 144 = .ok (.iaload, 1) := by decide +kernel
theorem dX4_spread_145 : decode cX4_spread 145 = .ok (.iastore, 1) := by decide +kernel
theorem dX4_spread_146 : decode cX4_spread 146 = .ok (.iinc 6 1, 3) := by decide +kernel
theorem dX4_spread_149 : decode cX4_spread 149 = .ok (.goto (-35), 3) := by decide +kernel
theorem dX4_spread_152 : decode cX4_spread 152 = .ok (.iload 5, 2) := by decide +kernel
theorem dX4_spread_154 : decode cX4_spread 154 = .ok (.iload_n 3, 1) := by decide +kernel
theorem dX4_spread_155 : decode cX4_spread 155 = .ok (.iadd, 1) := by decide +kernel
theorem dX4_spread_156 : decode cX4_spread 156 = .ok (.istore 5, 2) := by decide +kernel
theorem dX4_spread_158 : decode cX4_spread 158 = .ok (.goto (-90), 3) := by decide +kernel
theorem dX4_spread_161 : decode cX4_spread 161 = .ok (.aload_n 0, 1) := by decide +kernel
theorem dX4_spread_162 : decode cX4_spread 162 = .ok (.iload_n 2, 1) := by decide +kernel
theorem dX4_spread_163 : decode cX4_spread 163 = .ok (.putfield 168, 3) := by decide +kernel
theorem dX4_spread_166 : decode cX4_spread 166 = .ok (.iload_n 2, 1) := by decide +kernel
theorem dX4_spread_167 : decode cX4_spread 167 = .ok (.ireturn, 1) := by decide +kernel
theorem dX4_stretch_0 : decode cX4_stretch 0 = .ok (.aload_n 0, 1) := by decide +kernel
theorem dX4_stretch_1 : decode cX4_stretch 1 = .ok (.iload_n 1, 1) := by decide +kernel
theorem dX4_stretch_2 : decode cX4_stretch 2 = .ok (.invokestatic 177, 3) := by decide +kernel
theorem dX4_stretch_5 : decode cX4_stretch 5 = .ok (.ifCond .ne 26, 3) := by decide +kernel
theorem dX4_stretch_8 : decode cX4_stretch 8 = .ok (.iload_n 2, 1) := by decide +kernel
theorem dX4_stretch_9 : decode cX4_stretch 9 = .ok (.iconst 1, 1) := by decide +kernel
theorem dX4_stretch_10 : decode cX4_stretch 10 = .ok (.if_icmp .lt 21, 3) := by decide +kernel
theorem dX4_stretch_13 : decode cX4_stretch 13 = .ok (.iload_n 2, 1) := by decide +kernel
theorem dX4_stretch_14 : decode cX4_stretch 14 = .ok (.sipush 500, 3) := by decide +kernel
theorem dX4_stretch_17 : decode cX4_stretch 17 = .ok (.if_icmp .gt 14, 3) := by decide +kernel
theorem dX4_stretch_20 : decode cX4_stretch 20 = .ok (.iload_n 3, 1) := by decide +kernel
theorem dX4_stretch_21 : decode cX4_stretch 21 = .ok (.ifCond .lt 10, 3) := by decide +kernel
theorem dX4_stretch_24 : decode cX4_stretch 24 = .ok (.iload_n 3, 1) := by decide +kernel
theorem dX4_stretch_25 : decode cX4_stretch 25 = .ok (.sipush 400, 3) := by decide +kernel
theorem dX4_stretch_28 : decode cX4_stretch 28 = .ok (.if_icmp .le 7, 3) := by decide +kernel
theorem dX4_stretch_31 : decode cX4_stretch 31 = .ok (.iconst 1, 1) := by decide +kernel
theorem dX4_stretch_32 : decode cX4_stretch 32 = .ok (.goto 4, 3) := by decide +kernel
theorem dX4_stretch_35 : decode cX4_stretch 35 = .ok (.iconst 0, 1) := by decide +kernel
theorem dX4_stretch_36 : decode cX4_stretch 36 = .ok (.putfield 95, 3) := by decide +kernel
theorem dX4_stretch_39 : decode cX4_stretch 39 = .ok (.aload_n 0, 1) := by decide +kernel
theorem dX4_stretch_40 : decode cX4_stretch 40 = .ok (.getfield 95, 3) := by decide +kernel
theorem dX4_stretch_43 : decode cX4_stretch 43 = .ok (.ifCond .le 5, 3) := by decide +kernel
theorem dX4_stretch_46 : decode cX4_stretch 46 = .ok (.iconst 0, 1) := by decide +kernel
theorem dX4_stretch_47 : decode cX4_stretch 47 = .ok (.ireturn, 1) := by decide +kernel
theorem dX4_stretch_48 : decode cX4_stretch 48 = .ok (.iload_n 1, 1) := by decide +kernel
theorem dX4_stretch_49 : decode cX4_stretch 49 = .ok (.invokestatic 143, 3) := by decide +kernel
theorem dX4_stretch_52 : decode cX4_stretch 52 = .ok (.istore 4, 2) := by decide +kernel
theorem dX4_stretch_54 : decode cX4_stretch 54 = .ok (.aload_n 0, 1) := by decide +kernel
theorem dX4_stretch_55 : decode cX4_stretch 55 = .ok (.iconst 0, 1) := by decide +kernel
theorem dX4_stretch_56 : decode cX4_stretch 56 = .ok (.invokevirtual 183, 3) := by decide +kernel
theorem dX4_stretch_59 : decode cX4_stretch 59 = .ok (.aload_n 0, 1) := by decide +kernel
theorem dX4_stretch_60 : decode cX4_stretch 60 = .ok (.iload_n 1, 1) := by decide +kernel
theorem dX4_stretch_61 : decode cX4_stretch 61 = .ok (.invokevirtual 186, 3) := by decide +kernel
theorem dX4_stretch_64 : decode cX4_stretch 64 = .ok (.iconst 0, 1) := by decide +kernel
theorem dX4_stretch_65 : decode cX4_stretch 65 = .ok (.istore 5, 2) := by decide +kernel
theorem dX4_stretch_67 : decode cX4_stretch 67 = .ok (.iconst 0, 1) := by decide +kernel
theorem dX4_stretch_68 : decode cX4_stretch 68 = .ok (.istore 6, 2) := by decide +kernel
theorem dX4_stretch_70 : decode cX4_stretch 70 = .ok (.iload 6, 2) := by decide +kernel
theorem dX4_stretch_72 : decode cX4_stretch 72 = .ok (.iload_n 3, 1) := by decide +kernel
theorem dX4_stretch_73 : decode cX4_stretch 73 = .ok (.if_icmp .ge 191, 3) := by decide +kernel
theorem dX4_stretch_76 : decode cX4_stretch 76 = .ok (.iinc 5 1, 3) := by decide +kernel
theorem dX4_stretch_79 : decode cX4_stretch 79 = .ok (.iconst 0, 1) := by decide +kernel
theorem dX4_stretch_80 : decode cX4_stretch 80 = .ok (.istore 7, 2) := by decide +kernel
theorem dX4_stretch_82 : decode cX4_stretch 82 = .ok (.iload 7, 2) := by decide +kernel
theorem dX4_stretch_84 : decode cX4_stretch 84 = .ok (.iload 4, 2) := by decide +kernel
theorem dX4_stretch_86 : decode cX4_stretch 86 = .ok (.if_icmp .ge 17, 3) := by decide +kernel
theorem dX4_stretch_89 : decode cX4_stretch 89 = .ok (.aload_n 0, 1) := by decide +kernel
theorem dX4_stretch_90 : decode cX4_stretch 90 = .ok (.getfield 84, 3) := by decide +kernel
theorem dX4_stretch_93 : decode cX4_stretch 93 = .ok (.iload 7, 2) := by decide +kernel
theorem dX4_stretch_95 : decode cX4_stretch 95 = .ok (.iconst 0, 1) := by decide +kernel
theorem dX4_stretch_96 : decode cX4_stretch 96 = .ok (.iastore, 1) := by decide +kernel
theorem dX4_stretch_97 : decode cX4_stretch 97 = .ok (.iinc 7 1, 3) := by decide +kernel
theorem dX4_stretch_100 : decode cX4_stretch 100 = .ok (.goto (-18), 3) := by decide +kernel
theorem dX4_stretch_103 : decode cX4_stretch 103 = .ok (.iconst 0, 1) := by decide +kernel
theorem dX4_stretch_104 : decode cX4_stretch 104 = .ok (.istore 7, 2) := by decide +kernel
theorem dX4_stretch_106 : decode cX4_stretch 106 = .ok (.iload 7, 2) := by decide +kernel
theorem dX4_stretch_108 : decode cX4_stretch 108 = .ok (.iload_n 2, 1) := by decide +kernel
theorem dX4_stretch_109 : decode cX4_stretch 109 = .ok (.if_icmp .ge 103, 3) := by decide +kernel
theorem dX4_stretch_112 : decode cX4_stretch 112 = .ok (.aload_n 0, 1) := by decide +kernel
theorem dX4_stretch_113 : decode cX4_stretch 113 = .ok (.iconst 4, 1) := by decide +kernel
theorem dX4_stretch_114 : decode cX4_stretch 114 = .ok (.bipush 7, 2) := by decide +kernel
theorem dX4_stretch_116 : decode cX4_stretch 116 = .ok (.invokevirtual 162, 3) := by decide +kernel
theorem dX4_stretch_119 : decode cX4_stretch 119 = .ok (.iload 7, 2) := by decide +kernel
theorem dX4_stretch_121 : decode cX4_stretch 121 = .ok (.ifCond .ne 43, 3) := by decide +kernel
theorem dX4_stretch_124 : decode cX4_stretch 124 = .ok (.aload_n 0, 1) := by decide +kernel
theorem dX4_stretch_125 : decode cX4_stretch 125 = .ok (.iconst 4, 1) := by decide +kernel
theorem dX4_stretch_126 : decode cX4_stretch 126 = .ok (.iconst 1, 1) := by decide +kernel
theorem dX4_stretch_127 : decode cX4_stretch 127 = .ok (.invokevirtual 189, 3) := by decide +kernel
theorem dX4_stretch_130 : decode cX4_stretch 130 = .ok (.iconst 3, 1) := by decide +kernel
theorem dX4_stretch_131 : decode cX4_stretch 131 = .ok (.istore 8, 2) := by decide +kernel
theorem dX4_stretch_133 : decode cX4_stretch 133 = .ok (.iload 8, 2) := by decide +kernel
theorem dX4_stretch_135 : decode cX4_stretch 135 = .ok (.ifCond .lt 26, 3) := by decide +kernel
theorem dX4_stretch_138 : decode cX4_stretch 138 = .ok (.aload_n 0, 1) := by decide +kernel
theorem dX4_stretch_139 : decode cX4_stretch 139 = .ok (.iconst 4, 1) := by decide +kernel
theorem dX4_stretch_140 : decode cX4_stretch 140 = .ok (.iload 5, 2) := by decide +kernel
theorem dX4_stretch_142 : decode cX4_stretch 142 = .ok (.bipush 8, 2) := by decide +kernel
theorem dX4_stretch_144 : decode cX4_stretch 144 = .ok (.iload 8, 2) := by decide +kernel
theorem dX4_stretch_146 : decode cX4_stretch 146 = .ok (.imul, 1) := by decide +kernel
theorem dX4_stretch_147 : decode cX4_stretch 147 = .ok (.ishr, 1) := by decide +kernel
theorem dX4_stretch_148 : decode cX4_stretch 148 = .ok (.sipush 255, 3) := by decide +kernel
theorem dX4_stretch_151 : decode cX4_stretch 151 = .ok (.iand, 1) := by decide +kernel
theorem dX4_stretch_152 : decode cX4_stretch 152 = .ok (.invokevirtual 137, 3) := by decide +kernel
theorem dX4_stretch_155 : decode cX4_stretch 155 = .ok (.iinc 8 (-1), 3) := by decide +kernel
theorem dX4_stretch_158 : decode cX4_stretch 158 = .ok (.goto (-25), 3) := by decide +kernel
theorem dX4_stretch_161 : decode cX4_stretch 161 = .ok (.goto 8, 3) := by decide +kernel
theorem dX4_stretch_164 : decode cX4_stretch 164 = .ok (.aload_n 0, 1) := by decide +kernel
theorem dX4_stretch_165 : decode cX4_stretch 165 = .ok (.iconst 4, 1) := by decide +kernel
theorem dX4_stretch_166 : decode cX4_stretch 166 = .ok (.invokevirtual 165, 3) := by decide +kernel
theorem dX4_stretch_169 : decode cX4_stretch 169 = .ok (.aload_n 0, 1) := by decide +kernel
theorem dX4_stretch_170 : decode cX4_stretch 170 = .ok (.invokevirtual 192, 3) := by decide +kernel
theorem dX4_stretch_173 : decode cX4_stretch 173 = .ok (.iconst 0, 1) := by decide +kernel
theorem dX4_stretch_174 : decode cX4_stretch 174 = .ok (.istore 8, 2) := by decide +kernel
theorem dX4_stretch_176 : decode cX4_stretch 176 = .ok (.iload 8, 2) := by decide +kernel
theorem dX4_stretch_178 : decode cX4_stretch 178 = .ok (.iload 4, 2) := by decide +kernel
theorem dX4_stretch_180 : decode cX4_stretch 180 = .ok (.if_icmp .ge 26, 3) := by decide +kernel
theorem dX4_stretch_183 : decode cX4_stretch 183 = .ok (.aload_n 0, 1) := by decide +kernel
theorem dX4_stretch_184 : decode cX4_stretch 184 = .ok (.getfield 84, 3) := by decide +kernel
theorem dX4_stretch_187 : decode cX4_stretch 187 = .ok (.iload 8, 2) := by decide +kernel
theorem dX4_stretch_189 : decode cX4_stretch 189 = .ok (.dup2, 1) := by decide +kernel
theorem dX4_stretch_190 : decode cX4_stretch 190 = .ok (.iaload, 1) := by decide +kernel
theorem dX4_stretch_191 : decode cX4_stretch 191 = .ok (.aload_n 0, 1) := by decide +kernel
theorem dX4_stretch_192 : decode cX4_stretch 192 = .ok (.getfield 54, 3) := by decide +kernel
theorem dX4_stretch_195 : decode cX4_stretch 195 = .ok (.iload 8, 2) := by decide +kernel
theorem dX4_stretch_197 : decode cX4_stretch 197 = .ok (.iaload, 1) := by decide +kernel
theorem dX4_stretch_198 : decode cX4_stretch 198 = .ok (.ixor, 1) := by decide +kernel
theorem dX4_stretch_199 : decode cX4_stretch 199 = .ok (.iastore, 1) := by decide +kernel
theorem dX4_stretch_200 : decode cX4_stretch 200 = .ok (.iinc 8 1, 3) := by decide +kernel
theorem dX4_stretch_203 : decode cX4_stretch 203 = .ok (.goto (-27), 3) := by decide +kernel
theorem dX4_stretch_206 : decode cX4_stretch 206 = .ok (.iinc 7 1, 3) := by decide +kernel
theorem dX4_stretch_209 : decode cX4_stretch 209 = .ok (.goto (-103), 3) := by decide +kernel
theorem dX4_stretch_212 : decode cX4_stretch 212 = .ok (.iconst 0, 1) := by decide +kernel
theorem dX4_stretch_213 : decode cX4_stretch 213 = .ok (.istore 7, 2) := by decide +kernel
theorem dX4_stretch_215 : decode cX4_stretch 215 = .ok (.iload 7, 2) := by decide +kernel
theorem dX4_stretch_217 : decode cX4_stretch 217 = .ok (.iload 4, 2) := by decide +kernel
theorem dX4_stretch_219 : decode cX4_stretch 219 = .ok (.if_icmp .ge 35, 3) := by decide +kernel
theorem dX4_stretch_222 : decode cX4_stretch 222 = .ok (.iload 6, 2) := by decide +kernel
theorem dX4_stretch_224 : decode cX4_stretch 224 = .ok (.iload 7, 2) := by decide +kernel
theorem dX4_stretch_226 : decode cX4_stretch 226 = .ok (.iadd, 1) := by decide +kernel
theorem dX4_stretch_227 : decode cX4_stretch 227 = .ok (.iload_n 3, 1) := by decide +kernel
theorem dX4_stretch_228 : decode cX4_stretch 228 = .ok (.if_icmp .ge 26, 3) := by decide +kernel
theorem dX4_stretch_231 : decode cX4_stretch 231 = .ok (.aload_n 0, 1) := by decide +kernel
theorem dX4_stretch_232 : decode cX4_stretch 232 = .ok (.getfield 57, 3) := by decide +kernel
theorem dX4_stretch_235 : decode cX4_stretch 235 = .ok (.iload 6, 2) := by decide +kernel
theorem dX4_stretch_237 : decode cX4_stretch 237 = .ok (.iload 7, 2) := by decide +kernel
theorem dX4_stretch_239 : decode cX4_stretch 239 = .ok (.iadd, 1) := by decide +kernel
theorem dX4_stretch_240 : decode cX4_stretch 240 = .ok (.aload_n 0, 1) := by decide +kernel
theorem dX4_stretch_241 : decode cX4_stretch 241 = .ok (.getfield 84, 3) := by decide +kernel
theorem dX4_stretch_244 : decode cX4_stretch 244 = .ok (.iload 7, 2) := by decide +kernel
theorem dX4_stretch_246 : decode cX4_stretch 246 = .ok (.iaload, 1) := by decide +kernel
theorem dX4_stretch_247 : decode cX4_stretch 247 = .ok (.iastore, 1) := by decide +kernel
theorem dX4_stretch_248 : decode cX4_stretch 248 = .ok (.iinc 7 1, 3) := by decide +kernel
theorem dX4_stretch_251 : decode cX4_stretch 251 = .ok (.goto (-36), 3) := by decide +kernel
theorem dX4_stretch_254 : decode cX4_stretch 254 = .ok (.iload 6, 2) := by decide +kernel
theorem dX4_stretch_256 : decode cX4_stretch 256 = .ok (.iload 4, 2) := by decide +kernel
theorem dX4_stretch_258 : decode cX4_stretch 258 = .ok (.iadd, 1) := by decide +kernel
theorem dX4_stretch_259 : decode cX4_stretch 259 = .ok (.istore 6, 2) := by decide +kernel
theorem dX4_stretch_261 : decode cX4_stretch 261 = .ok (.goto (-191), 3) := by decide +kernel
theorem dX4_stretch_264 : decode cX4_stretch 264 = .ok (.aload_n 0, 1) := by decide +kernel
theorem dX4_stretch_265 : decode cX4_stretch 265 = .ok (.iload_n 3, 1) := by decide +kernel
theorem dX4_stretch_266 : decode cX4_stretch 266 = .ok (.putfield 168, 3) := by decide +kernel
theorem dX4_stretch_269 : decode cX4_stretch 269 = .ok (.iload_n 3, 1) := by decide +kernel
theorem dX4_stretch_270 : decode cX4_stretch 270 = .ok (.ireturn, 1) := by decide +kernel
theorem dX4_out_0 : decode cX4_out 0 = .ok (.aload_n 0, 1) := by decide +kernel
theorem dX4_out_1 : decode cX4_out 1 = .ok (.iconst 0, 1) := by decide +kernel
theorem dX4_out_2 : decode cX4_out 2 = .ok (.putfield 95, 3) := by decide +kernel
theorem dX4_out_5 : decode cX4_out 5 = .ok (.iload_n 1, 1) := by decide +kernel
theorem dX4_out_6 : decode cX4_out 6 = .ok (.ifCond .lt 11, 3) := by decide +kernel
theorem dX4_out_9 : decode cX4_out 9 = .ok (.iload_n 1, 1) := by decide +kernel
theorem dX4_out_10 : decode cX4_out 10 = .ok (.aload_n 0, 1) := by decide +kernel
theorem dX4_out_11 : decode cX4_out 11 = .ok (.getfield 168, 3) := by decide +kernel
theorem dX4_out_14 : decode cX4_out 14 = .ok (.if_icmp .lt 7, 3) := by decide +kernel
theorem dX4_out_17 : decode cX4_out 17 = .ok (.iconst (-1), 1) := by decide +kernel
theorem dX4_out_18 : decode cX4_out 18 = .ok (.goto 9, 3) := by decide +kernel
theorem dX4_out_21 : decode cX4_out 21 = .ok (.aload_n 0, 1) := by decide +kernel
theorem dX4_out_22 : decode cX4_out 22 = .ok (.getfield 57, 3) := by decide +kernel
theorem dX4_out_25 : decode cX4_out 25 = .ok (.iload_n 1, 1) := by decide +kernel
theorem dX4_out_26 : decode cX4_out 26 = .ok (.iaload, 1) := by decide +kernel
theorem dX4_out_27 : decode cX4_out 27 = .ok (.ireturn, 1) := by decide +kernel
theorem dX4_outs_0 : decode cX4_outs 0 = .ok (.aload_n 0, 1) := by decide +kernel
theorem dX4_outs_1 : decode cX4_outs 1 = .ok (.iconst 0, 1) := by decide +kernel
theorem dX4_outs_2 : decode cX4_outs 2 = .ok (.putfield 95, 3) := by decide +kernel
theorem dX4_outs_5 : decode cX4_outs 5 = .ok (.lconst 0, 1) := by decide +kernel
theorem dX4_outs_6 : decode cX4_outs 6 = .ok (.lstore_n 2, 1) := by decide +kernel
theorem dX4_outs_7 : decode cX4_outs 7 = .ok (.iconst 0, 1) := by decide +kernel
theorem dX4_outs_8 : decode cX4_outs 8 = .ok (.istore 4, 2) := by decide +kernel
theorem dX4_outs_10 : decode cX4_outs 10 = .ok (.iload 4, 2) := by decide +kernel
theorem dX4_outs_12 : decode cX4_outs 12 = .ok (.bipush 8, 2) := by decide +kernel
theorem dX4_outs_14 : decode cX4_outs 14 = .ok (.if_icmp .ge 54, 3) := by decide +kernel
theorem dX4_outs_17 : decode cX4_outs 17 = .ok (.iload_n 1, 1) := by decide +kernel
theorem dX4_outs_18 : decode cX4_outs 18 = .ok (.i2l, 1) := by decide +kernel
theorem dX4_outs_19 : decode cX4_outs 19 = .ok (.iload 4, 2) := by decide +kernel
theorem dX4_outs_21 : decode cX4_outs 21 = .ok (.i2l, 1) := by decide +kernel
theorem dX4_outs_22 : decode cX4_outs 22 = .ok (.ladd, 1) := by decide +kernel
theorem dX4_outs_23 : decode cX4_outs 23 = .ok (.lstore 5, 2) := by decide +kernel
theorem dX4_outs_25 : decode cX4_outs 25 = .ok (.lload_n 2, 1) := by decide +kernel
theorem dX4_outs_26 : decode cX4_outs 26 = .ok (.bipush 8, 2) := by decide +kernel
theorem dX4_outs_28 : decode cX4_outs 28 = .ok (.lshl, 1) := by decide +kernel
theorem dX4_outs_29 : decode cX4_outs 29 = .ok (.lload 5, 2) := by decide +kernel
theorem dX4_outs_31 : decode cX4_outs 31 = .ok (.lconst 0, 1) := by decide +kernel
theorem dX4_outs_32 : decode cX4_outs 32 = .ok (.lcmp, 1) := by decide +kernel
theorem dX4_outs_33 : decode cX4_outs 33 = .ok (.ifCond .lt 25, 3) := by decide +kernel
theorem dX4_outs_36 : decode cX4_outs 36 = .ok (.lload 5, 2) := by decide +kernel
theorem dX4_outs_38 : decode cX4_outs 38 = .ok (.aload_n 0, 1) := by decide +kernel
theorem dX4_outs_39 : decode cX4_outs 39 = .ok (.getfield 168, 3) := by decide +kernel
theorem dX4_outs_42 : decode cX4_outs 42 = .ok (.i2l, 1) := by decide +kernel
theorem dX4_outs_43 : decode cX4_outs 43 = .ok (.lcmp, 1) := by decide +kernel
theorem dX4_outs_44 : decode cX4_outs 44 = .ok (.ifCond .ge 14, 3) := by decide +kernel
theorem dX4_outs_47 : decode cX4_outs 47 = .ok (.aload_n 0, 1) := by decide +kernel
theorem dX4_outs_48 : decode cX4_outs 48 = .ok (.getfield 57, 3) := by decide +kernel
theorem dX4_outs_51 : decode cX4_outs 51 = .ok (.lload 5, 2) := by decide +kernel
theorem dX4_outs_53 : decode cX4_outs 53 = .ok (.l2i, 1) := by decide +kernel
theorem dX4_outs_54 : decode cX4_outs 54 = .ok (.iaload, 1) := by decide +kernel
theorem dX4_outs_55 : decode cX4_outs 55 = .ok (.goto 4, 3) := by decide +kernel
theorem dX4_outs_58 : decode cX4_outs 58 = .ok (.iconst 0, 1) := by decide +kernel
theorem dX4_outs_59 : decode cX4_outs 59 = .ok (.i2l, 1) := by decide +kernel
theorem dX4_outs_60 : decode cX4_outs 60 = .ok (.lor, 1) := by decide +kernel
theorem dX4_outs_61 : decode cX4_outs 61 = .ok (.lstore_n 2, 1) := by decide +kernel
theorem dX4_outs_62 : decode cX4_outs 62 = .ok (.iinc 4 1, 3) := by decide +kernel
theorem dX4_outs_65 : decode cX4_outs 65 = .ok (.goto (-55), 3) := by decide +kernel
theorem dX4_outs_68 : decode cX4_outs 68 = .ok (.lload_n 2, 1) := by decide +kernel
theorem dX4_outs_69 : decode cX4_outs 69 = .ok (.lreturn, 1) := by decide +kernel
theorem dX4_isOut_0 : decode cX4_isOut 0 = .ok (.aload_n 0, 1) := by decide +kernel
theorem dX4_isOut_1 : decode cX4_isOut 1 = .ok (.iconst 0, 1) := by decide +kernel
theorem dX4_isOut_2 : decode cX4_isOut 2 = .ok (.putfield 95, 3) := by decide +kernel
theorem dX4_isOut_5 : decode cX4_isOut 5 = .ok (.aload_n 0, 1) := by decide +kernel
theorem dX4_isOut_6 : decode cX4_isOut 6 = .ok (.getfield 171, 3) := by decide +kernel
theorem dX4_isOut_9 : decode cX4_isOut 9 = .ok (.aload_n 0, 1) := by decide +kernel
theorem dX4_isOut_10 : decode cX4_isOut 10 = .ok (.getfield 168, 3) := by decide +kernel
theorem dX4_isOut_13 : decode cX4_isOut 13 = .ok (.if_icmp .ne 7, 3) := by decide +kernel
theorem dX4_isOut_16 : decode cX4_isOut 16 = .ok (.iconst 1, 1) := by decide +kernel
theorem dX4_isOut_17 : decode cX4_isOut 17 = .ok (.goto 4, 3) := by decide +kernel
theorem dX4_isOut_20 : decode cX4_isOut 20 = .ok (.iconst 0, 1) := by decide +kernel
theorem dX4_isOut_21 : decode cX4_isOut 21 = .ok (.istore_n 1, 1) := by decide +kernel
theorem dX4_isOut_22 : decode cX4_isOut 22 = .ok (.iconst 0, 1) := by decide +kernel
theorem dX4_isOut_23 : decode cX4_isOut 23 = .ok (.istore_n 2, 1) := by decide +kernel
theorem dX4_isOut_24 : decode cX4_isOut 24 = .ok (.iload_n 2, 1) := by decide +kernel
theorem dX4_isOut_25 : decode cX4_isOut 25 = .ok (.aload_n 0, 1) := by decide +kernel
theorem dX4_isOut_26 : decode cX4_isOut 26 = .ok (.getfield 171, 3) := by decide +kernel
theorem dX4_isOut_29 : decode cX4_isOut 29 = .ok (.if_icmp .ge 34, 3) := by decide +kernel
theorem dX4_isOut_32 : decode cX4_isOut 32 = .ok (.iload_n 1, 1) := by decide +kernel
theorem dX4_isOut_33 : decode cX4_isOut 33 = .ok (.ifCond .eq 30, 3) := by decide +kernel
theorem dX4_isOut_36 : decode cX4_isOut 36 = .ok (.aload_n 0, 1) := by decide +kernel
theorem dX4_isOut_37 : decode cX4_isOut 37 = .ok (.getfield 7, 3) := by decide +kernel
theorem dX4_isOut_40 : decode cX4_isOut 40 = .ok (.iload_n 2, 1) := by decide +kernel
theorem dX4_isOut_41 : decode cX4_isOut 41 = .ok (.iaload, 1) := by decide +kernel
theorem dX4_isOut_42 : decode cX4_isOut 42 = .ok (.aload_n 0, 1) := by decide +kernel
theorem dX4_isOut_43 : decode cX4_isOut 43 = .ok (.getfield 57, 3) := by decide +kernel
theorem dX4_isOut_46 : decode cX4_isOut 46 = .ok (.iload_n 2, 1) := by decide +kernel
theorem dX4_isOut_47 : decode cX4_isOut 47 = .ok (.iaload, 1) := by decide +kernel
theorem dX4_isOut_48 : decode cX4_isOut 48 = .ok (.if_icmp .ne 7, 3) := by decide +kernel
theorem dX4_isOut_51 : decode cX4_isOut 51 = .ok (.iconst 1, 1) := by decide +kernel
theorem dX4_isOut_52 : decode cX4_isOut 52 = .ok (.goto 4, 3) := by decide +kernel
theorem dX4_isOut_55 : decode cX4_isOut 55 = .ok (.iconst 0, 1) := by decide +kernel
theorem dX4_isOut_56 : decode cX4_isOut 56 = .ok (.istore_n 1, 1) := by decide +kernel
theorem dX4_isOut_57 : decode cX4_isOut 57 = .ok (.iinc 2 1, 3) := by decide +kernel
theorem dX4_isOut_60 : decode cX4_isOut 60 = .ok (.goto (-36), 3) := by decide +kernel
theorem dX4_isOut_63 : decode cX4_isOut 63 = .ok (.aload_n 0, 1) := by decide +kernel
theorem dX4_isOut_64 : decode cX4_isOut 64 = .ok (.iconst 0, 1) := by decide +kernel
theorem dX4_isOut_65 : decode cX4_isOut 65 = .ok (.putfield 171, 3) := by decide +kernel
theorem dX4_isOut_68 : decode cX4_isOut 68 = .ok (.iload_n 1, 1) := by decide +kernel
theorem dX4_isOut_69 : decode cX4_isOut 69 = .ok (.ireturn, 1) := by decide +kernel
theorem dX4_constant_0 : decode cX4_constant 0 = .ok (.aload_n 0, 1) := by decide +kernel
theorem dX4_constant_1 : decode cX4_constant 1 = .ok (.iconst 0, 1) := by decide +kernel
theorem dX4_constant_2 : decode cX4_constant 2 = .ok (.putfield 95, 3) := by decide +kernel
theorem dX4_constant_5 : decode cX4_constant 5 = .ok (.iload_n 1, 1) := by decide +kernel
theorem dX4_constant_6 : decode cX4_constant 6 = .ok (.ifCond .lt 9, 3) := by decide +kernel
theorem dX4_constant_9 : decode cX4_constant 9 = .ok (.iload_n 1, 1) := by decide +kernel
theorem dX4_constant_10 : decode cX4_constant 10 = .ok (.bipush 80, 2) := by decide +kernel
theorem dX4_constant_12 : decode cX4_constant 12 = .ok (.if_icmp .lt 7, 3) := by decide +kernel
theorem dX4_constant_15 : decode cX4_constant 15 = .ok (.lconst 0, 1) := by decide +kernel
theorem dX4_constant_16 : decode cX4_constant 16 = .ok (.goto 9, 3) := by decide +kernel
theorem dX4_constant_19 : decode cX4_constant 19 = .ok (.aload_n 0, 1) := by decide +kernel
theorem dX4_constant_20 : decode cX4_constant 20 = .ok (.getfield 13, 3) := by decide +kernel
theorem dX4_constant_23 : decode cX4_constant 23 = .ok (.iload_n 1, 1) := by decide +kernel
theorem dX4_constant_24 : decode cX4_constant 24 = .ok (.laload, 1) := by decide +kernel
theorem dX4_constant_25 : decode cX4_constant 25 = .ok (.lreturn, 1) := by decide +kernel
theorem dJ6_rotateRight_7cf53_0 : decode cJ6_rotateRight_7cf53 0 = .ok (.iload_n 0, 1) := by decide +kernel
theorem dJ6_rotateRight_7cf53_1 : decode cJ6_rotateRight_7cf53 1 = .ok (.iload_n 1, 1) := by decide +kernel
theorem dJ6_rotateRight_7cf53_2 : decode cJ6_rotateRight_7cf53 2 = .ok (.iushr, 1) := by decide +kernel
theorem dJ6_rotateRight_7cf53_3 : decode cJ6_rotateRight_7cf53 3 = .ok (.iload_n 0, 1) := by decide +kernel
theorem dJ6_rotateRight_7cf53_4 : decode cJ6_rotateRight_7cf53 4 = .ok (.iload_n 1, 1) := by decide +kernel
theorem dJ6_rotateRight_7cf53_5 : decode cJ6_rotateRight_7cf53 5 = .ok (.ineg, 1) := by decide +kernel
theorem dJ6_rotateRight_7cf53_6 : decode cJ6_rotateRight_7cf53 6 = .ok (.ishl, 1) := by decide +kernel
theorem dJ6_rotateRight_7cf53_7 : decode cJ6_rotateRight_7cf53 7 = .ok (.ior, 1) := by decide +kernel
theorem dJ6_rotateRight_7cf53_8 : decode cJ6_rotateRight_7cf53 8 = .ok (.ireturn, 1) := by decide +kernel
theorem dJ13_rotateRight_b2ac5_0 : decode cJ13_rotateRight_b2ac5 0 = .ok (.lload_n 0, 1) := by decide +kernel
theorem dJ13_rotateRight_b2ac5_1 : decode cJ13_rotateRight_b2ac5 1 = .ok (.iload_n 2, 1) := by decide +kernel
theorem dJ13_rotateRight_b2ac5_2 : decode cJ13_rotateRight_b2ac5 2 = .ok (.lushr, 1) := by decide +kernel
theorem dJ13_rotateRight_b2ac5_3 : decode cJ13_rotateRight_b2ac5 3 = .ok (.lload_n 0, 1) := by decide +kernel
theorem dJ13_rotateRight_b2ac5_4 : decode cJ13_rotateRight_b2ac5 4 = .ok (.iload_n 2, 1) := by decide +kernel
theorem dJ13_rotateRight_b2ac5_5 : decode cJ13_rotateRight_b2ac5 5 = .ok (.ineg, 1) := by decide +kernel
theorem dJ13_rotateRight_b2ac5_6 : decode cJ13_rotateRight_b2ac5 6 = .ok (.lshl, 1) := by decide +kernel
theorem dJ13_rotateRight_b2ac5_7 : decode cJ13_rotateRight_b2ac5 7 = .ok (.lor, 1) := by decide +kernel
theorem dJ13_rotateRight_b2ac5_8 : decode cJ13_rotateRight_b2ac5 8 = .ok (.lreturn, 1) := by decide +kernel
theorem dJ9_max_7cf53_0 : decode cJ9_max_7cf53 0 = .ok (.iload_n 0, 1) := by decide +kernel
theorem dJ9_max_7cf53_1 : decode cJ9_max_7cf53 1 = .ok (.iload_n 1, 1) := by decide +kernel
theorem dJ9_max_7cf53_2 : decode cJ9_max_7cf53 2 = .ok (.if_icmp .lt 7, 3) := by decide +kernel
theorem dJ9_max_7cf53_5 : decode cJ9_max_7cf53 5 = .ok (.iload_n 0, 1) := by decide +kernel
theorem dJ9_max_7cf53_6 : decode cJ9_max_7cf53 6 = .ok (.goto 4, 3) := by decide +kernel
theorem dJ9_max_7cf53_9 : decode cJ9_max_7cf53 9 = .ok (.iload_n 1, 1) := by decide +kernel
theorem dJ9_max_7cf53_10 : decode cJ9_max_7cf53 10 = .ok (.ireturn, 1) := by decide +kernel
theorem dL_feed_0 : decode cL_feed 0 = .ok (.aload 4, 2) := by decide +kernel
theorem dL_feed_2 : decode cL_feed 2 = .ok (.iconst 0, 1) := by decide +kernel
theorem dL_feed_3 : decode cL_feed 3 = .ok (.aload_n 0, 1) := by decide +kernel
theorem dL_feed_4 : decode cL_feed 4 = .ok (.iload_n 1, 1) := by decide +kernel
theorem dL_feed_5 : decode cL_feed 5 = .ok (.lload_n 2, 1) := by decide +kernel
theorem dL_feed_6 : decode cL_feed 6 = .ok (.invokevirtual 7, 3) := by decide +kernel
theorem dL_feed_9 : decode cL_feed 9 = .ok (.i2l, 1) := by decide +kernel
theorem dL_feed_10 : decode cL_feed 10 = .ok (.lastore, 1) := by decide +kernel
theorem dL_feed_11 : decode cL_feed 11 = .ok (.goto 7, 3) := by decide +kernel
theorem dL_feed_14 : decode cL_feed 14 = .ok (.astore 5, 2) := by decide +kernel
theorem dL_feed_16 : decode cL_feed 16 = .ok (.iconst 1, 1) := by decide +kernel
theorem dL_feed_17 : decode cL_feed 17 = .ok (.ireturn, 1) := by decide +kernel
theorem dL_feed_18 : decode cL_feed 18 = .ok (.iconst 0, 1) := by decide +kernel
theorem dL_feed_19 : decode cL_feed 19 = .ok (.ireturn, 1) := by decide +kernel
theorem dL_begin_0 : decode cL_begin 0 = .ok (.aload_n 0, 1) := by decide +kernel
theorem dL_begin_1 : decode cL_begin 1 = .ok (.iload_n 1, 1) := by decide +kernel
theorem dL_begin_2 : decode cL_begin 2 = .ok (.iload_n 2, 1) := by decide +kernel
theorem dL_begin_3 : decode cL_begin 3 = .ok (.invokevirtual 15, 3) := by decide +kernel
theorem dL_begin_6 : decode cL_begin 6 = .ok (.goto 9, 3) := by decide +kernel
theorem dL_begin_9 : decode cL_begin 9 = .ok (.astore_n 3, 1) := by decide +kernel
theorem dL_begin_10 : decode cL_begin 10 = .ok (.iconst 1, 1) := by decide +kernel
theorem dL_begin_11 : decode cL_begin 11 = .ok (.ireturn, 1) := by decide +kernel
theorem dL_begin_12 : decode cL_begin 12 = .ok (.astore_n 3, 1) := by decide +kernel
theorem dL_begin_13 : decode cL_begin 13 = .ok (.iconst 2, 1) := by decide +kernel
theorem dL_begin_14 : decode cL_begin 14 = .ok (.ireturn, 1) := by decide +kernel
theorem dL_begin_15 : decode cL_begin 15 = .ok (.iconst 0, 1) := by decide +kernel
theorem dL_begin_16 : decode cL_begin 16 = .ok (.ireturn, 1) := by decide +kernel
theorem dL_code_0 : decode cL_code 0 = .ok (.aload_n 3, 1) := by decide +kernel
theorem dL_code_1 : decode cL_code 1 = .ok (.iconst 0, 1) := by decide +kernel
theorem dL_code_2 : decode cL_code 2 = .ok (.aload_n 0, 1) := by decide +kernel
theorem dL_code_3 : decode cL_code 3 = .ok (.iload_n 1, 1) := by decide +kernel
theorem dL_code_4 : decode cL_code 4 = .ok (.iload_n 2, 1) := by decide +kernel
theorem dL_code_5 : decode cL_code 5 = .ok (.invokevirtual 21, 3) := by decide +kernel
theorem dL_code_8 : decode cL_code 8 = .ok (.i2l, 1) := by decide +kernel
theorem dL_code_9 : decode cL_code 9 = .ok (.lastore, 1) := by decide +kernel
theorem dL_code_10 : decode cL_code 10 = .ok (.goto 11, 3) := by decide +kernel
theorem dL_code_13 : decode cL_code 13 = .ok (.astore 4, 2) := by decide +kernel
theorem dL_code_15 : decode cL_code 15 = .ok (.iconst 1, 1) := by decide +kernel
theorem dL_code_16 : decode cL_code 16 = .ok (.ireturn, 1) := by decide +kernel
theorem dL_code_17 : decode cL_code 17 = .ok (.astore 4, 2) := by decide +kernel
theorem dL_code_19 : decode cL_code 19 = .ok (.iconst 2, 1) := by decide +kernel
theorem dL_code_20 : decode cL_code 20 = .ok (.ireturn, 1) := by decide +kernel
theorem dL_code_21 : decode cL_code 21 = .ok (.iconst 0, 1) := by decide +kernel
theorem dL_code_22 : decode cL_code 22 = .ok (.ireturn, 1) := by decide +kernel
theorem dL_update_0 : decode cL_update 0 = .ok (.aload_n 2, 1) := by decide +kernel
theorem dL_update_1 : decode cL_update 1 = .ok (.iconst 0, 1) := by decide +kernel
theorem dL_update_2 : decode cL_update 2 = .ok (.aload_n 0, 1) := by decide +kernel
theorem dL_update_3 : decode cL_update 3 = .ok (.iload_n 1, 1) := by decide +kernel
theorem dL_update_4 : decode cL_update 4 = .ok (.invokevirtual 25, 3) := by decide +kernel
theorem dL_update_7 : decode cL_update 7 = .ok (.lastore, 1) := by decide +kernel
theorem dL_update_8 : decode cL_update 8 = .ok (.goto 9, 3) := by decide +kernel
theorem dL_update_11 : decode cL_update 11 = .ok (.astore_n 3, 1) := by decide +kernel
theorem dL_update_12 : decode cL_update 12 = .ok (.iconst 1, 1) := by decide +kernel
theorem dL_update_13 : decode cL_update 13 = .ok (.ireturn, 1) := by decide +kernel
theorem dL_update_14 : decode cL_update 14 = .ok (.astore_n 3, 1) := by decide +kernel
theorem dL_update_15 : decode cL_update 15 = .ok (.iconst 2, 1) := by decide +kernel
theorem dL_update_16 : decode cL_update 16 = .ok (.ireturn, 1) := by decide +kernel
theorem dL_update_17 : decode cL_update 17 = .ok (.iconst 0, 1) := by decide +kernel
theorem dL_update_18 : decode cL_update 18 = .ok (.ireturn, 1) := by decide +kernel
theorem dL_repeat_0 : decode cL_repeat 0 = .ok (.aload 4, 2) := by decide +kernel
theorem dL_repeat_2 : decode cL_repeat 2 = .ok (.iconst 0, 1) := by decide +kernel
theorem dL_repeat_3 : decode cL_repeat 3 = .ok (.aload_n 0, 1) := by decide +kernel
theorem dL_repeat_4 : decode cL_repeat 4 = .ok (.iload_n 1, 1) := by decide +kernel
theorem dL_repeat_5 : decode cL_repeat 5 = .ok (.iload_n 2, 1) := by decide +kernel
theorem dL_repeat_6 : decode cL_repeat 6 = .ok (.iload_n 3, 1) := by decide +kernel
theorem dL_repeat_7 : decode cL_repeat 7 = .ok (.invokevirtual 31, 3) := by decide +kernel
theorem dL_repeat_10 : decode cL_repeat 10 = .ok (.lastore, 1) := by decide +kernel
theorem dL_repeat_11 : decode cL_repeat 11 = .ok (.goto 15, 3) := by decide +kernel
theorem dL_repeat_14 : decode cL_repeat 14 = .ok (.astore 5, 2) := by decide +kernel
theorem dL_repeat_16 : decode cL_repeat 16 = .ok (.iconst 1, 1) := by decide +kernel
theorem dL_repeat_17 : decode cL_repeat 17 = .ok (.ireturn, 1) := by decide +kernel
theorem dL_repeat_18 : decode cL_repeat 18 = .ok (.astore 5, 2) := by decide +kernel
theorem dL_repeat_20 : decode cL_repeat 20 = .ok (.iconst 2, 1) := by decide +kernel
theorem dL_repeat_21 : decode cL_repeat 21 = .ok (.ireturn, 1) := by decide +kernel
theorem dL_repeat_22 : decode cL_repeat 22 = .ok (.astore 5, 2) := by decide +kernel
theorem dL_repeat_24 : decode cL_repeat 24 = .ok (.iconst 3, 1) := by decide +kernel
theorem dL_repeat_25 : decode cL_repeat 25 = .ok (.ireturn, 1) := by decide +kernel
theorem dL_repeat_26 : decode cL_repeat 26 = .ok (.iconst 0, 1) := by decide +kernel
theorem dL_repeat_27 : decode cL_repeat 27 = .ok (.ireturn, 1) := by decide +kernel
theorem dL_finish_0 : decode cL_finish 0 = .ok (.aload_n 2, 1) := by decide +kernel
theorem dL_finish_1 : decode cL_finish 1 = .ok (.iconst 0, 1) := by decide +kernel
theorem dL_finish_2 : decode cL_finish 2 = .ok (.aload_n 0, 1) := by decide +kernel
theorem dL_finish_3 : decode cL_finish 3 = .ok (.iload_n 1, 1) := by decide +kernel
theorem dL_finish_4 : decode cL_finish 4 = .ok (.invokevirtual 35, 3) := by decide +kernel
theorem dL_finish_7 : decode cL_finish 7 = .ok (.i2l, 1) := by decide +kernel
theorem dL_finish_8 : decode cL_finish 8 = .ok (.lastore, 1) := by decide +kernel
theorem dL_finish_9 : decode cL_finish 9 = .ok (.goto 9, 3) := by decide +kernel
theorem dL_finish_12 : decode cL_finish 12 = .ok (.astore_n 3, 1) := by decide +kernel
theorem dL_finish_13 : decode cL_finish 13 = .ok (.iconst 1, 1) := by decide +kernel
theorem dL_finish_14 : decode cL_finish 14 = .ok (.ireturn, 1) := by decide +kernel
theorem dL_finish_15 : decode cL_finish 15 = .ok (.astore_n 3, 1) := by decide +kernel
theorem dL_finish_16 : decode cL_finish 16 = .ok (.iconst 2, 1) := by decide +kernel
theorem dL_finish_17 : decode cL_finish 17 = .ok (.ireturn, 1) := by decide +kernel
theorem dL_finish_18 : decode cL_finish 18 = .ok (.iconst 0, 1) := by decide +kernel
theorem dL_finish_19 : decode cL_finish 19 = .ok (.ireturn, 1) := by decide +kernel
theorem dL_copy_0 : decode cL_copy 0 = .ok (.aload_n 0, 1) := by decide +kernel
theorem dL_copy_1 : decode cL_copy 1 = .ok (.iload_n 1, 1) := by decide +kernel
theorem dL_copy_2 : decode cL_copy 2 = .ok (.iload_n 2, 1) := by decide +kernel
theorem dL_copy_3 : decode cL_copy 3 = .ok (.invokevirtual 39, 3) := by decide +kernel
theorem dL_copy_6 : decode cL_copy 6 = .ok (.goto 9, 3) := by decide +kernel
theorem dL_copy_9 : decode cL_copy 9 = .ok (.astore_n 3, 1) := by decide +kernel
theorem dL_copy_10 : decode cL_copy 10 = .ok (.iconst 1, 1) := by decide +kernel
theorem dL_copy_11 : decode cL_copy 11 = .ok (.ireturn, 1) := by decide +kernel
theorem dL_copy_12 : decode cL_copy 12 = .ok (.astore_n 3, 1) := by decide +kernel
theorem dL_copy_13 : decode cL_copy 13 = .ok (.iconst 2, 1) := by decide +kernel
theorem dL_copy_14 : decode cL_copy 14 = .ok (.ireturn, 1) := by decide +kernel
theorem dL_copy_15 : decode cL_copy 15 = .ok (.iconst 0, 1) := by decide +kernel
theorem dL_copy_16 : decode cL_copy 16 = .ok (.ireturn, 1) := by decide +kernel
theorem dL_about_0 : decode cL_about 0 = .ok (.aload_n 3, 1) := by decide +kernel
theorem dL_about_1 : decode cL_about 1 = .ok (.iconst 0, 1) := by decide +kernel
theorem dL_about_2 : decode cL_about 2 = .ok (.aload_n 0, 1) := by decide +kernel
theorem dL_about_3 : decode cL_about 3 = .ok (.iload_n 1, 1) := by decide +kernel
theorem dL_about_4 : decode cL_about 4 = .ok (.iload_n 2, 1) := by decide +kernel
theorem dL_about_5 : decode cL_about 5 = .ok (.invokevirtual 42, 3) := by decide +kernel
theorem dL_about_8 : decode cL_about 8 = .ok (.i2l, 1) := by decide +kernel
theorem dL_about_9 : decode cL_about 9 = .ok (.lastore, 1) := by decide +kernel
theorem dL_about_10 : decode cL_about 10 = .ok (.goto 7, 3) := by decide +kernel
theorem dL_about_13 : decode cL_about 13 = .ok (.astore 4, 2) := by decide +kernel
theorem dL_about_15 : decode cL_about 15 = .ok (.iconst 1, 1) := by decide +kernel
