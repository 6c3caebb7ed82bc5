theorem dX4_narrowBlock_524 : decode cX4_narrowBlock 524 = .ok (.ladd, 1) := by decide +kernel
theorem dX4_narrowBlock_525 : decode cX4_narrowBlock 525 = .ok (.ldc2_w 112, 3) := by decide +kernel
theorem dX4_narrowBlock_528 : decode cX4_narrowBlock 528 = .ok (.land, 1) := by decide +kernel
theorem dX4_narrowBlock_529 : decode cX4_narrowBlock 529 = .ok (.lastore, 1) := by decide +kernel
theorem dX4_narrowBlock_530 : decode cX4_narrowBlock 530 = .ok (.aload_n 0, 1) := by decide +kernel
theorem dX4_narrowBlock_531 : decode cX4_narrowBlock 531 = .ok (.getfield 23, 3) := by decide +kernel
theorem dX4_narrowBlock_534 : decode cX4_narrowBlock 534 = .ok (.iload_n 2, 1) := by decide +kernel
theorem dX4_narrowBlock_535 : decode cX4_narrowBlock 535 = .ok (.iconst 5, 1) := by decide +kernel
theorem dX4_narrowBlock_536 : decode cX4_narrowBlock 536 = .ok (.iadd, 1) := by decide +kernel
theorem dX4_narrowBlock_537 : decode cX4_narrowBlock 537 = .ok (.aload_n 0, 1) := by decide +kernel
theorem dX4_narrowBlock_538 : decode cX4_narrowBlock 538 = .ok (.getfield 23, 3) := by decide +kernel
theorem dX4_narrowBlock_541 : decode cX4_narrowBlock 541 = .ok (.iload_n 2, 1) := by decide +kernel
theorem dX4_narrowBlock_542 : decode cX4_narrowBlock 542 = .ok (.iconst 5, 1) := by decide +kernel
theorem dX4_narrowBlock_543 : decode cX4_narrowBlock 543 = .ok (.iadd, 1) := by decide +kernel
theorem dX4_narrowBlock_544 : decode cX4_narrowBlock 544 = .ok (.laload, 1) := by decide +kernel
theorem dX4_narrowBlock_545 : decode cX4_narrowBlock 545 = .ok (.iload 8, 2) := by decide +kernel
theorem dX4_narrowBlock_547 : decode cX4_narrowBlock 547 = .ok (.i2l, 1) := by decide +kernel
theorem dX4_narrowBlock_548 : decode cX4_narrowBlock 548 = .ok (.ladd, 1) := by decide +kernel
theorem dX4_narrowBlock_549 : decode cX4_narrowBlock 549 = .ok (.ldc2_w 112, 3) := by decide +kernel
theorem dX4_narrowBlock_552 : decode cX4_narrowBlock 552 = .ok (.land, 1) := by decide +kernel
theorem dX4_narrowBlock_553 : decode cX4_narrowBlock 553 = .ok (.lastore, 1) := by decide +kernel
theorem dX4_narrowBlock_554 : decode cX4_narrowBlock 554 = .ok (.aload_n 0, 1) := by decide +kernel
theorem dX4_narrowBlock_555 : decode cX4_narrowBlock 555 = .ok (.getfield 23, 3) := by decide +kernel
theorem dX4_narrowBlock_558 : decode cX4_narrowBlock 558 = .ok (.iload_n 2, 1) := by decide +kernel
theorem dX4_narrowBlock_559 : decode cX4_narrowBlock 559 = .ok (.bipush 6, 2) := by decide +kernel
theorem dX4_narrowBlock_561 : decode cX4_narrowBlock 561 = .ok (.iadd, 1) := by decide +kernel
theorem dX4_narrowBlock_562 : decode cX4_narrowBlock 562 = .ok (.aload_n 0, 1) := by decide +kernel
theorem dX4_narrowBlock_563 : decode cX4_narrowBlock 563 = .ok (.getfield 23, 3) := by decide +kernel
theorem dX4_narrowBlock_566 : decode cX4_narrowBlock 566 = .ok (.iload_n 2, 1) := by decide +kernel
theorem dX4_narrowBlock_567 : decode cX4_narrowBlock 567 = .ok (.bipush 6, 2) := by decide +kernel
theorem dX4_narrowBlock_569 : decode cX4_narrowBlock 569 = .ok (.iadd, 1) := by decide +kernel
theorem dX4_narrowBlock_570 : decode cX4_narrowBlock 570 = .ok (.laload, 1) := by decide +kernel
theorem dX4_narrowBlock_571 : decode cX4_narrowBlock 571 = .ok (.iload 9, 2) := by decide +kernel
theorem dX4_narrowBlock_573 : decode cX4_narrowBlock 573 = .ok (.i2l, 1) := by decide +kernel
theorem dX4_narrowBlock_574 : decode cX4_narrowBlock 574 = .ok (.ladd, 1) := by decide +kernel
theorem dX4_narrowBlock_575 : decode cX4_narrowBlock 575 = .ok (.ldc2_w 112, 3) := by decide +kernel
theorem dX4_narrowBlock_578 : decode cX4_narrowBlock 578 = .ok (.land, 1) := by decide +kernel
theorem dX4_narrowBlock_579 : decode cX4_narrowBlock 579 = .ok (.lastore, 1) := by decide +kernel
theorem dX4_narrowBlock_580 : decode cX4_narrowBlock 580 = .ok (.aload_n 0, 1) := by decide +kernel
theorem dX4_narrowBlock_581 : decode cX4_narrowBlock 581 = .ok (.getfield 23, 3) := by decide +kernel
theorem dX4_narrowBlock_584 : decode cX4_narrowBlock 584 = .ok (.iload_n 2, 1) := by decide +kernel
theorem dX4_narrowBlock_585 : decode cX4_narrowBlock 585 = .ok (.bipush 7, 2) := by decide +kernel
theorem dX4_narrowBlock_587 : decode cX4_narrowBlock 587 = .ok (.iadd, 1) := by decide +kernel
theorem dX4_narrowBlock_588 : decode cX4_narrowBlock 588 = .ok (.aload_n 0, 1) := by decide +kernel
theorem dX4_narrowBlock_589 : decode cX4_narrowBlock 589 = .ok (.getfield 23, 3) := by decide +kernel
theorem dX4_narrowBlock_592 : decode cX4_narrowBlock 592 = .ok (.iload_n 2, 1) := by decide +kernel
theorem dX4_narrowBlock_593 : decode cX4_narrowBlock 593 = .ok (.bipush 7, 2) := by decide +kernel
theorem dX4_narrowBlock_595 : decode cX4_narrowBlock 595 = .ok (.iadd, 1) := by decide +kernel
theorem dX4_narrowBlock_596 : decode cX4_narrowBlock 596 = .ok (.laload, 1) := by decide +kernel
theorem dX4_narrowBlock_597 : decode cX4_narrowBlock 597 = .ok (.iload 10, 2) := by decide +kernel
theorem dX4_narrowBlock_599 : decode cX4_narrowBlock 599 = .ok (.i2l, 1) := by decide +kernel
theorem dX4_narrowBlock_600 : decode cX4_narrowBlock 600 = .ok (.ladd, 1) := by decide +kernel
theorem dX4_narrowBlock_601 : decode cX4_narrowBlock 601 = .ok (.ldc2_w 112, 3) := by decide +kernel
theorem dX4_narrowBlock_604 : decode cX4_narrowBlock 604 = .ok (.land, 1) := by decide +kernel
theorem dX4_narrowBlock_605 : decode cX4_narrowBlock 605 = .ok (.lastore, 1) := by decide +kernel
theorem dX4_narrowBlock_606 : decode cX4_narrowBlock 606 = .ok (.return_, 1) := by decide +kernel
theorem dX4_wideBlock_0 : decode cX4_wideBlock 0 = .ok (.iconst 0, 1) := by decide +kernel
theorem dX4_wideBlock_1 : decode cX4_wideBlock 1 = .ok (.istore_n 2, 1) := by decide +kernel
theorem dX4_wideBlock_2 : decode cX4_wideBlock 2 = .ok (.iload_n 2, 1) := by decide +kernel
theorem dX4_wideBlock_3 : decode cX4_wideBlock 3 = .ok (.bipush 16, 2) := by decide +kernel
theorem dX4_wideBlock_5 : decode cX4_wideBlock 5 = .ok (.if_icmp .ge 59, 3) := by decide +kernel
theorem dX4_wideBlock_8 : decode cX4_wideBlock 8 = .ok (.lconst 0, 1) := by decide +kernel
theorem dX4_wideBlock_9 : decode cX4_wideBlock 9 = .ok (.lstore_n 3, 1) := by decide +kernel
theorem dX4_wideBlock_10 : decode cX4_wideBlock 10 = .ok (.iconst 0, 1) := by decide +kernel
theorem dX4_wideBlock_11 : decode cX4_wideBlock 11 = .ok (.istore 5, 2) := by decide +kernel
theorem dX4_wideBlock_13 : decode cX4_wideBlock 13 = .ok (.iload 5, 2) := by decide +kernel
theorem dX4_wideBlock_15 : decode cX4_wideBlock 15 = .ok (.bipush 8, 2) := by decide +kernel
theorem dX4_wideBlock_17 : decode cX4_wideBlock 17 = .ok (.if_icmp .ge 34, 3) := by decide +kernel
theorem dX4_wideBlock_20 : decode cX4_wideBlock 20 = .ok (.lload_n 3, 1) := by decide +kernel
theorem dX4_wideBlock_21 : decode cX4_wideBlock 21 = .ok (.bipush 8, 2) := by decide +kernel
theorem dX4_wideBlock_23 : decode cX4_wideBlock 23 = .ok (.lshl, 1) := by decide +kernel
theorem dX4_wideBlock_24 : decode cX4_wideBlock 24 = .ok (.aload_n 0, 1) := by decide +kernel
theorem dX4_wideBlock_25 : decode cX4_wideBlock 25 = .ok (.getfield 26, 3) := by decide +kernel
theorem dX4_wideBlock_28 : decode cX4_wideBlock 28 = .ok (.sipush 128, 3) := by decide +kernel
theorem dX4_wideBlock_31 : decode cX4_wideBlock 31 = .ok (.iload_n 1, 1) := by decide +kernel
theorem dX4_wideBlock_32 : decode cX4_wideBlock 32 = .ok (.imul, 1) := by decide +kernel
theorem dX4_wideBlock_33 : decode cX4_wideBlock 33 = .ok (.bipush 8, 2) := by decide +kernel
theorem dX4_wideBlock_35 : decode cX4_wideBlock 35 = .ok (.iload_n 2, 1) := by decide +kernel
theorem dX4_wideBlock_36 : decode cX4_wideBlock 36 = .ok (.imul, 1) := by decide +kernel
theorem dX4_wideBlock_37 : decode cX4_wideBlock 37 = .ok (.iadd, 1) := by decide +kernel
theorem dX4_wideBlock_38 : decode cX4_wideBlock 38 = .ok (.iload 5, 2) := by decide +kernel
theorem dX4_wideBlock_40 : decode cX4_wideBlock 40 = .ok (.iadd, 1) := by decide +kernel
theorem dX4_wideBlock_41 : decode cX4_wideBlock 41 = .ok (.iaload, 1) := by decide +kernel
theorem dX4_wideBlock_42 : decode cX4_wideBlock 42 = .ok (.i2l, 1) := by decide +kernel
theorem dX4_wideBlock_43 : decode cX4_wideBlock 43 = .ok (.lor, 1) := by decide +kernel
theorem dX4_wideBlock_44 : decode cX4_wideBlock 44 = .ok (.lstore_n 3, 1) := by decide +kernel
theorem dX4_wideBlock_45 : decode cX4_wideBlock 45 = .ok (.iinc 5 1, 3) := by decide +kernel
theorem dX4_wideBlock_48 : decode cX4_wideBlock 48 = .ok (.goto (-35), 3) := by decide +kernel
theorem dX4_wideBlock_51 : decode cX4_wideBlock 51 = .ok (.aload_n 0, 1) := by decide +kernel
theorem dX4_wideBlock_52 : decode cX4_wideBlock 52 = .ok (.getfield 78, 3) := by decide +kernel
theorem dX4_wideBlock_55 : decode cX4_wideBlock 55 = .ok (.iload_n 2, 1) := by decide +kernel
theorem dX4_wideBlock_56 : decode cX4_wideBlock 56 = .ok (.lload_n 3, 1) := by decide +kernel
theorem dX4_wideBlock_57 : decode cX4_wideBlock 57 = .ok (.lastore, 1) := by decide +kernel
theorem dX4_wideBlock_58 : decode cX4_wideBlock 58 = .ok (.iinc 2 1, 3) := by decide +kernel
theorem dX4_wideBlock_61 : decode cX4_wideBlock 61 = .ok (.goto (-59), 3) := by decide +kernel
theorem dX4_wideBlock_64 : decode cX4_wideBlock 64 = .ok (.bipush 16, 2) := by decide +kernel
theorem dX4_wideBlock_66 : decode cX4_wideBlock 66 = .ok (.istore_n 2, 1) := by decide +kernel
theorem dX4_wideBlock_67 : decode cX4_wideBlock 67 = .ok (.iload_n 2, 1) := by decide +kernel
theorem dX4_wideBlock_68 : decode cX4_wideBlock 68 = .ok (.bipush 80, 2) := by decide +kernel
theorem dX4_wideBlock_70 : decode cX4_wideBlock 70 = .ok (.if_icmp .ge 94, 3) := by decide +kernel
theorem dX4_wideBlock_73 : decode cX4_wideBlock 73 = .ok (.aload_n 0, 1) := by decide +kernel
theorem dX4_wideBlock_74 : decode cX4_wideBlock 74 = .ok (.getfield 78, 3) := by decide +kernel
theorem dX4_wideBlock_77 : decode cX4_wideBlock 77 = .ok (.iload_n 2, 1) := by decide +kernel
theorem dX4_wideBlock_78 : decode cX4_wideBlock 78 = .ok (.iconst 2, 1) := by decide +kernel
theorem dX4_wideBlock_79 : decode cX4_wideBlock 79 = .ok (.isub, 1) := by decide +kernel
theorem dX4_wideBlock_80 : decode cX4_wideBlock 80 = .ok (.laload, 1) := by decide +kernel
theorem dX4_wideBlock_81 : decode cX4_wideBlock 81 = .ok (.lstore_n 3, 1) := by decide +kernel
theorem dX4_wideBlock_82 : decode cX4_wideBlock 82 = .ok (.aload_n 0, 1) := by decide +kernel
theorem dX4_wideBlock_83 : decode cX4_wideBlock 83 = .ok (.getfield 78, 3) := by decide +kernel
theorem dX4_wideBlock_86 : decode cX4_wideBlock 86 = .ok (.iload_n 2, 1) := by decide +kernel
theorem dX4_wideBlock_87 : decode cX4_wideBlock 87 = .ok (.bipush 15, 2) := by decide +kernel
theorem dX4_wideBlock_89 : decode cX4_wideBlock 89 = .ok (.isub, 1) := by decide +kernel
theorem dX4_wideBlock_90 : decode cX4_wideBlock 90 = .ok (.laload, 1) := by decide +kernel
theorem dX4_wideBlock_91 : decode cX4_wideBlock 91 = .ok (.lstore 5, 2) := by decide +kernel
theorem dX4_wideBlock_93 : decode cX4_wideBlock 93 = .ok (.aload_n 0, 1) := by decide +kernel
theorem dX4_wideBlock_94 : decode cX4_wideBlock 94 = .ok (.getfield 78, 3) := by decide +kernel
theorem dX4_wideBlock_97 : decode cX4_wideBlock 97 = .ok (.iload_n 2, 1) := by decide +kernel
theorem dX4_wideBlock_98 : decode cX4_wideBlock 98 = .ok (.lload_n 3, 1) := by decide +kernel
theorem dX4_wideBlock_99 : decode cX4_wideBlock 99 = .ok (.bipush 19, 2) := by decide +kernel
theorem dX4_wideBlock_101 : decode cX4_wideBlock 101 = .ok (.invokestatic 118, 3) := by decide +kernel
theorem dX4_wideBlock_104 : decode cX4_wideBlock 104 = .ok (.lload_n 3, 1) := by decide +kernel
theorem dX4_wideBlock_105 : decode cX4_wideBlock 105 = .ok (.bipush 61, 2) := by decide +kernel
theorem dX4_wideBlock_107 : decode cX4_wideBlock 107 = .ok (.invokestatic 118, 3) := by decide +kernel
theorem dX4_wideBlock_110 : decode cX4_wideBlock 110 = .ok (.lxor, 1) := by decide +kernel
theorem dX4_wideBlock_111 : decode cX4_wideBlock 111 = .ok (.lload_n 3, 1) := by decide +kernel
theorem dX4_wideBlock_112 : decode cX4_wideBlock 112 = .ok (.bipush 6, 2) := by decide +kernel
theorem dX4_wideBlock_114 : decode cX4_wideBlock 114 = .ok (.lushr, 1) := by decide +kernel
theorem dX4_wideBlock_115 : decode cX4_wideBlock 115 = .ok (.lxor, 1) := by decide +kernel
theorem dX4_wideBlock_116 : decode cX4_wideBlock 116 = .ok (.aload_n 0, 1) := by decide +kernel
theorem dX4_wideBlock_117 : decode cX4_wideBlock 117 = .ok (.getfield 78, 3) := by decide +kernel
theorem dX4_wideBlock_120 : decode cX4_wideBlock 120 = .ok (.iload_n 2, 1) := by decide +kernel
theorem dX4_wideBlock_121 : decode cX4_wideBlock 121 = .ok (.bipush 7, 2) := by decide +kernel
theorem dX4_wideBlock_123 : decode cX4_wideBlock 123 = .ok (.isub, 1) := by decide +kernel
theorem dX4_wideBlock_124 : decode cX4_wideBlock 124 = .ok (.laload, 1) := by decide +kernel
theorem dX4_wideBlock_125 : decode cX4_wideBlock 125 = .ok (.ladd, 1) := by decide +kernel
theorem dX4_wideBlock_126 : decode cX4_wideBlock 126 = .ok (.lload 5, 2) := by decide +kernel
theorem dX4_wideBlock_128 : decode cX4_wideBlock 128 = .ok (.iconst 1, 1) := by decide +kernel
theorem dX4_wideBlock_129 : decode cX4_wideBlock 129 = .ok (.invokestatic 118, 3) := by decide +kernel
theorem dX4_wideBlock_132 : decode cX4_wideBlock 132 = .ok (.lload 5, 2) := by decide +kernel
theorem dX4_wideBlock_134 : decode cX4_wideBlock 134 = .ok (.bipush 8, 2) := by decide +kernel
theorem dX4_wideBlock_136 : decode cX4_wideBlock 136 = .ok (.invokestatic 118, 3) := by decide +kernel
theorem dX4_wideBlock_139 : decode cX4_wideBlock 139 = .ok (.lxor, 1) := by decide +kernel
theorem dX4_wideBlock_140 : decode cX4_wideBlock 140 = .ok (.lload 5, 2) := by decide +kernel
theorem dX4_wideBlock_142 : decode cX4_wideBlock 142 = .ok (.bipush 7, 2) := by decide +kernel
theorem dX4_wideBlock_144 : decode cX4_wideBlock 144 = .ok (.lushr, 1) := by decide +kernel
theorem dX4_wideBlock_145 : decode cX4_wideBlock 145 = .ok (.lxor, 1) := by decide +kernel
theorem dX4_wideBlock_146 : decode cX4_wideBlock 146 = .ok (.ladd, 1) := by decide +kernel
theorem dX4_wideBlock_147 : decode cX4_wideBlock 147 = .ok (.aload_n 0, 1) := by decide +kernel
theorem dX4_wideBlock_148 : decode cX4_wideBlock 148 = .ok (.getfield 78, 3) := by decide +kernel
theorem dX4_wideBlock_151 : decode cX4_wideBlock 151 = .ok (.iload_n 2, 1) := by decide +kernel
theorem dX4_wideBlock_152 : decode cX4_wideBlock 152 = .ok (.bipush 16, 2) := by decide +kernel
theorem dX4_wideBlock_154 : decode cX4_wideBlock 154 = .ok (.isub, 1) := by decide +kernel
theorem dX4_wideBlock_155 : decode cX4_wideBlock 155 = .ok (.laload, 1) := by decide +kernel
theorem dX4_wideBlock_156 : decode cX4_wideBlock 156 = .ok (.ladd, 1) := by decide +kernel
theorem dX4_wideBlock_157 : decode cX4_wideBlock 157 = .ok (.lastore, 1) := by decide +kernel
theorem dX4_wideBlock_158 : decode cX4_wideBlock 158 = .ok (.iinc 2 1, 3) := by decide +kernel
theorem dX4_wideBlock_161 : decode cX4_wideBlock 161 = .ok (.goto (-94), 3) := by decide +kernel
theorem dX4_wideBlock_164 : decode cX4_wideBlock 164 = .ok (.bipush 8, 2) := by decide +kernel
theorem dX4_wideBlock_166 : decode cX4_wideBlock 166 = .ok (.iload_n 1, 1) := by decide +kernel
theorem dX4_wideBlock_167 : decode cX4_wideBlock 167 = .ok (.imul, 1) := by decide +kernel
theorem dX4_wideBlock_168 : decode cX4_wideBlock 168 = .ok (.istore_n 2, 1) := by decide +kernel
theorem dX4_wideBlock_169 : decode cX4_wideBlock 169 = .ok (.aload_n 0, 1) := by decide +kernel
theorem dX4_wideBlock_170 : decode cX4_wideBlock 170 = .ok (.getfield 23, 3) := by decide +kernel
theorem dX4_wideBlock_173 : decode cX4_wideBlock 173 = .ok (.iload_n 2, 1) := by decide +kernel
theorem dX4_wideBlock_174 : decode cX4_wideBlock 174 = .ok (.laload, 1) := by decide +kernel
theorem dX4_wideBlock_175 : decode cX4_wideBlock 175 = .ok (.lstore_n 3, 1) := by decide +kernel
theorem dX4_wideBlock_176 : decode cX4_wideBlock 176 = .ok (.aload_n 0, 1) := by decide +kernel
theorem dX4_wideBlock_177 : decode cX4_wideBlock 177 = .ok (.getfield 23, 3) := by decide +kernel
theorem dX4_wideBlock_180 : decode cX4_wideBlock 180 = .ok (.iload_n 2, 1) := by decide +kernel
theorem dX4_wideBlock_181 : decode cX4_wideBlock 181 = .ok (.iconst 1, 1) := by decide +kernel
theorem dX4_wideBlock_182 : decode cX4_wideBlock 182 = .ok (.iadd, 1) := by decide +kernel
theorem dX4_wideBlock_183 : decode cX4_wideBlock 183 = .ok (.laload, 1) := by decide +kernel
theorem dX4_wideBlock_184 : decode cX4_wideBlock 184 = .ok (.lstore 5, 2) := by decide +kernel
theorem dX4_wideBlock_186 : decode cX4_wideBlock 186 = .ok (.aload_n 0, 1) := by decide +kernel
theorem dX4_wideBlock_187 : decode cX4_wideBlock 187 = .ok (.getfield 23, 3) := by decide +kernel
theorem dX4_wideBlock_190 : decode cX4_wideBlock 190 = .ok (.iload_n 2, 1) := by decide +kernel
theorem dX4_wideBlock_191 : decode cX4_wideBlock 191 = .ok (.iconst 2, 1) := by decide +kernel
theorem dX4_wideBlock_192 : decode cX4_wideBlock 192 = .ok (.iadd, 1) := by decide +kernel
theorem dX4_wideBlock_193 : decode cX4_wideBlock 193 = .ok (.laload, 1) := by decide +kernel
theorem dX4_wideBlock_194 : decode cX4_wideBlock 194 = .ok (.lstore 7, 2) := by decide +kernel
theorem dX4_wideBlock_196 : decode cX4_wideBlock 196 = .ok (.aload_n 0, 1) := by decide +kernel
theorem dX4_wideBlock_197 : decode cX4_wideBlock 197 = .ok (.getfield 23, 3) := by decide +kernel
theorem dX4_wideBlock_200 : decode cX4_wideBlock 200 = .ok (.iload_n 2, 1) := by decide +kernel
theorem dX4_wideBlock_201 : decode cX4_wideBlock 201 = .ok (.iconst 3, 1) := by decide +kernel
theorem dX4_wideBlock_202 : decode cX4_wideBlock 202 = .ok (.iadd, 1) := by decide +kernel
theorem dX4_wideBlock_203 : decode cX4_wideBlock 203 = .ok (.laload, 1) := by decide +kernel
theorem dX4_wideBlock_204 : decode cX4_wideBlock 204 = .ok (.lstore 9, 2) := by decide +kernel
theorem dX4_wideBlock_206 : decode cX4_wideBlock 206 = .ok (.aload_n 0, 1) := by decide +kernel
theorem dX4_wideBlock_207 : decode cX4_wideBlock 207 = .ok (.getfield 23, 3) := by decide +kernel
theorem dX4_wideBlock_210 : decode cX4_wideBlock 210 = .ok (.iload_n 2, 1) := by decide +kernel
theorem dX4_wideBlock_211 : decode cX4_wideBlock 211 = .ok (.iconst 4, 1) := by decide +kernel
theorem dX4_wideBlock_212 : decode cX4_wideBlock 212 = .ok (.iadd, 1) := by decide +kernel
theorem dX4_wideBlock_213 : decode cX4_wideBlock 213 = .ok (.laload, 1) := by decide +kernel
theorem dX4_wideBlock_214 : decode cX4_wideBlock 214 = .ok (.lstore 11, 2) := by decide +kernel
theorem dX4_wideBlock_216 : decode cX4_wideBlock 216 = .ok (.aload_n 0, 1) := by decide +kernel
theorem dX4_wideBlock_217 : decode cX4_wideBlock 217 = .ok (.getfield 23, 3) := by decide +kernel
theorem dX4_wideBlock_220 : decode cX4_wideBlock 220 = .ok (.iload_n 2, 1) := by decide +kernel
theorem dX4_wideBlock_221 : decode cX4_wideBlock 221 = .ok (.iconst 5, 1) := by decide +kernel
theorem dX4_wideBlock_222 : decode cX4_wideBlock 222 = .ok (.iadd, 1) := by decide +kernel
theorem dX4_wideBlock_223 : decode cX4_wideBlock 223 = .ok (.laload, 1) := by decide +kernel
theorem dX4_wideBlock_224 : decode cX4_wideBlock 224 = .ok (.lstore 13, 2) := by decide +kernel
theorem dX4_wideBlock_226 : decode cX4_wideBlock 226 = .ok (.aload_n 0, 1) := by decide +kernel
theorem dX4_wideBlock_227 : decode cX4_wideBlock 227 = .ok (.getfield 23, 3) := by decide +kernel
theorem dX4_wideBlock_230 : decode cX4_wideBlock 230 = .ok (.iload_n 2, 1) := by decide +kernel
theorem dX4_wideBlock_231 : decode cX4_wideBlock 231 = .ok (.bipush 6, 2) := by decide +kernel
theorem dX4_wideBlock_233 : decode cX4_wideBlock 233 = .ok (.iadd, 1) := by decide +kernel
theorem dX4_wideBlock_234 : decode cX4_wideBlock 234 = .ok (.laload, 1) := by decide +kernel
theorem dX4_wideBlock_235 : decode cX4_wideBlock 235 = .ok (.lstore 15, 2) := by decide +kernel
theorem dX4_wideBlock_237 : decode cX4_wideBlock 237 = .ok (.aload_n 0, 1) := by decide +kernel
theorem dX4_wideBlock_238 : decode cX4_wideBlock 238 = .ok (.getfield 23, 3) := by decide +kernel
theorem dX4_wideBlock_241 : decode cX4_wideBlock 241 = .ok (.iload_n 2, 1) := by decide +kernel
theorem dX4_wideBlock_242 : decode cX4_wideBlock 242 = .ok (.bipush 7, 2) := by decide +kernel
theorem dX4_wideBlock_244 : decode cX4_wideBlock 244 = .ok (.iadd, 1) := by decide +kernel
theorem dX4_wideBlock_245 : decode cX4_wideBlock 245 = .ok (.laload, 1) := by decide +kernel
theorem dX4_wideBlock_246 : decode cX4_wideBlock 246 = .ok (.lstore 17, 2) := by decide +kernel
theorem dX4_wideBlock_248 : decode cX4_wideBlock 248 = .ok (.iconst 0, 1) := by decide +kernel
theorem dX4_wideBlock_249 : decode cX4_wideBlock 249 = .ok (.istore 19, 2) := by decide +kernel
theorem dX4_wideBlock_251 : decode cX4_wideBlock 251 = .ok (.iload 19, 2) := by decide +kernel
theorem dX4_wideBlock_253 : decode cX4_wideBlock 253 = .ok (.bipush 80, 2) := by decide +kernel
theorem dX4_wideBlock_255 : decode cX4_wideBlock 255 = .ok (.if_icmp .ge 143, 3) := by decide +kernel
theorem dX4_wideBlock_258 : decode cX4_wideBlock 258 = .ok (.lload 17, 2) := by decide +kernel
theorem dX4_wideBlock_260 : decode cX4_wideBlock 260 = .ok (.lload 11, 2) := by decide +kernel
theorem dX4_wideBlock_262 : decode cX4_wideBlock 262 = .ok (.bipush 14, 2) := by decide +kernel
theorem dX4_wideBlock_264 : decode cX4_wideBlock 264 = .ok (.invokestatic 118, 3) := by decide +kernel
theorem dX4_wideBlock_267 : decode cX4_wideBlock 267 = .ok (.lload 11, 2) := by decide +kernel
theorem dX4_wideBlock_269 : decode cX4_wideBlock 269 = .ok (.bipush 18, 2) := by decide +kernel
theorem dX4_wideBlock_271 : decode cX4_wideBlock 271 = .ok (.invokestatic 118, 3) := by decide +kernel
theorem dX4_wideBlock_274 : decode cX4_wideBlock 274 = .ok (.lxor, 1) := by decide +kernel
theorem dX4_wideBlock_275 : decode cX4_wideBlock 275 = .ok (.lload 11, 2) := by decide +kernel
theorem dX4_wideBlock_277 : decode cX4_wideBlock 277 = .ok (.bipush 41, 2) := by decide +kernel
theorem dX4_wideBlock_279 : decode cX4_wideBlock 279 = .ok (.invokestatic 118, 3) := by decide +kernel
theorem dX4_wideBlock_282 : decode cX4_wideBlock 282 = .ok (.lxor, 1) := by decide +kernel
theorem dX4_wideBlock_283 : decode cX4_wideBlock 283 = .ok (.ladd, 1) := by decide +kernel
theorem dX4_wideBlock_284 : decode cX4_wideBlock 284 = .ok (.lload 11, 2) := by decide +kernel
theorem dX4_wideBlock_286 : decode cX4_wideBlock 286 = .ok (.lload 13, 2) := by decide +kernel
theorem dX4_wideBlock_288 : decode cX4_wideBlock 288 = .ok (.land, 1) := by decide +kernel
theorem dX4_wideBlock_289 : decode cX4_wideBlock 289 = .ok (.lload 11, 2) := by decide +kernel
theorem dX4_wideBlock_291 : decode cX4_wideBlock 291 = .ok (.ldc2_w 122, 3) := by decide +kernel
theorem dX4_wideBlock_294 : decode cX4_wideBlock 294 = .ok (.lxor, 1) := by decide +kernel
theorem dX4_wideBlock_295 : decode cX4_wideBlock 295 = .ok (.lload 15, 2) := by decide +kernel
theorem dX4_wideBlock_297 : decode cX4_wideBlock 297 = .ok (.land, 1) := by decide +kernel
theorem dX4_wideBlock_298 : decode cX4_wideBlock 298 = .ok (.lxor, 1) := by decide +kernel
theorem dX4_wideBlock_299 : decode cX4_wideBlock 299 = .ok (.ladd, 1) := by decide +kernel
theorem dX4_wideBlock_300 : decode cX4_wideBlock 300 = .ok (.aload_n 0, 1) := by decide +kernel
theorem dX4_wideBlock_301 : decode cX4_wideBlock 301 = .ok (.getfield 13, 3) := by decide +kernel
theorem dX4_wideBlock_304 : decode cX4_wideBlock 304 = .ok (.iload 19, 2) := by decide +kernel
theorem dX4_wideBlock_306 : decode cX4_wideBlock 306 = .ok (.laload, 1) := by decide +kernel
theorem dX4_wideBlock_307 : decode cX4_wideBlock 307 = .ok (.ladd, 1) := by decide +kernel
theorem dX4_wideBlock_308 : decode cX4_wideBlock 308 = .ok (.aload_n 0, 1) := by decide +kernel
theorem dX4_wideBlock_309 : decode cX4_wideBlock 309 = .ok (.getfield 78, 3) := by decide +kernel
theorem dX4_wideBlock_312 : decode cX4_wideBlock 312 = .ok (.iload 19, 2) := by decide +kernel
theorem dX4_wideBlock_314 : decode cX4_wideBlock 314 = .ok (.laload, 1) := by decide +kernel
theorem dX4_wideBlock_315 : decode cX4_wideBlock 315 = .ok (.ladd, 1) := by decide +kernel
theorem dX4_wideBlock_316 : decode cX4_wideBlock 316 = .ok (.lstore 20, 2) := by decide +kernel
theorem dX4_wideBlock_318 : decode cX4_wideBlock 318 = .ok (.lload_n 3, 1) := by decide +kernel
theorem dX4_wideBlock_319 : decode cX4_wideBlock 319 = .ok (.bipush 28, 2) := by decide +kernel
theorem dX4_wideBlock_321 : decode cX4_wideBlock 321 = .ok (.invokestatic 118, 3) := by decide +kernel
theorem dX4_wideBlock_324 : decode cX4_wideBlock 324 = .ok (.lload_n 3, 1) := by decide +kernel
theorem dX4_wideBlock_325 : decode cX4_wideBlock 325 = .ok (.bipush 34, 2) := by decide +kernel
theorem dX4_wideBlock_327 : decode cX4_wideBlock 327 = .ok (.invokestatic 118, 3) := by decide +kernel
theorem dX4_wideBlock_330 : decode cX4_wideBlock 330 = .ok (.lxor, 1) := by decide +kernel
theorem dX4_wideBlock_331 : decode cX4_wideBlock 331 = .ok (.lload_n 3, 1) := by decide +kernel
theorem dX4_wideBlock_332 : decode cX4_wideBlock 332 = .ok (.bipush 39, 2) := by decide +kernel
theorem dX4_wideBlock_334 : decode cX4_wideBlock 334 = .ok (.invokestatic 118, 3) := by decide +kernel
theorem dX4_wideBlock_337 : decode cX4_wideBlock 337 = .ok (.lxor, 1) := by decide +kernel
theorem dX4_wideBlock_338 : decode cX4_wideBlock 338 = .ok (.lload_n 3, 1) := by decide +kernel
theorem dX4_wideBlock_339 : decode cX4_wideBlock 339 = .ok (.lload 5, 2) := by decide +kernel
theorem dX4_wideBlock_341 : decode cX4_wideBlock 341 = .ok (.land, 1) := by decide +kernel
theorem dX4_wideBlock_342 : decode cX4_wideBlock 342 = .ok (.lload_n 3, 1) := by decide +kernel
theorem dX4_wideBlock_343 : decode cX4_wideBlock 343 = .ok (.lload 7, 2) := by decide +kernel
theorem dX4_wideBlock_345 : decode cX4_wideBlock 345 = .ok (.land, 1) := by decide +kernel
theorem dX4_wideBlock_346 : decode cX4_wideBlock 346 = .ok (.lxor, 1) := by decide +kernel
theorem dX4_wideBlock_347 : decode cX4_wideBlock 347 = .ok (.lload 5, 2) := by decide +kernel
theorem dX4_wideBlock_349 : decode cX4_wideBlock 349 = .ok (.lload 7, 2) := by decide +kernel
theorem dX4_wideBlock_351 : decode cX4_wideBlock 351 = .ok (.land, 1) := by decide +kernel
theorem dX4_wideBlock_352 : decode cX4_wideBlock 352 = .ok (.lxor, 1) := by decide +kernel
theorem dX4_wideBlock_353 : decode cX4_wideBlock 353 = .ok (.ladd, 1) := by decide +kernel
theorem dX4_wideBlock_354 : decode cX4_wideBlock 354 = .ok (.lstore 22, 2) := by decide +kernel
theorem dX4_wideBlock_356 : decode cX4_wideBlock 356 = .ok (.lload 15, 2) := by decide +kernel
theorem dX4_wideBlock_358 : decode cX4_wideBlock 358 = .ok (.lstore 17, 2) := by decide +kernel
theorem dX4_wideBlock_360 : decode cX4_wideBlock 360 = .ok (.lload 13, 2) := by decide +kernel
theorem dX4_wideBlock_362 : decode cX4_wideBlock 362 = .ok (.lstore 15, 2) := by decide +kernel
theorem dX4_wideBlock_364 : decode cX4_wideBlock 364 = .ok (.lload 11, 2) := by decide +kernel
theorem dX4_wideBlock_366 : decode cX4_wideBlock 366 = .ok (.lstore 13, 2) := by decide +kernel
theorem dX4_wideBlock_368 : decode cX4_wideBlock 368 = .ok (.lload 9, 2) := by decide +kernel
theorem dX4_wideBlock_370 : decode cX4_wideBlock 370 = .ok (.lload 20, 2) := by decide +kernel
theorem dX4_wideBlock_372 : decode cX4_wideBlock 372 = .ok (.ladd, 1) := by decide +kernel
theorem dX4_wideBlock_373 : decode cX4_wideBlock 373 = .ok (.lstore 11, 2) := by decide +kernel
theorem dX4_wideBlock_375 : decode cX4_wideBlock 375 = .ok (.lload 7, 2) := by decide +kernel
theorem dX4_wideBlock_377 : decode cX4_wideBlock 377 = .ok (.lstore 9, 2) := by decide +kernel
theorem dX4_wideBlock_379 : decode cX4_wideBlock 379 = .ok (.lload 5, 2) := by decide +kernel
theorem dX4_wideBlock_381 : decode cX4_wideBlock 381 = .ok (.lstore 7, 2) := by decide +kernel
theorem dX4_wideBlock_383 : decode cX4_wideBlock 383 = .ok (.lload_n 3, 1) := by decide +kernel
theorem dX4_wideBlock_384 : decode cX4_wideBlock 384 = .ok (.lstore 5, 2) := by decide +kernel
theorem dX4_wideBlock_386 : decode cX4_wideBlock 386 = .ok (.lload 20, 2) := by decide +kernel
theorem dX4_wideBlock_388 : decode cX4_wideBlock 388 = .ok (.lload 22, 2) := by decide +kernel
theorem dX4_wideBlock_390 : decode cX4_wideBlock 390 = .ok (.ladd, 1) := by decide +kernel
theorem dX4_wideBlock_391 : decode cX4_wideBlock 391 = .ok (.lstore_n 3, 1) := by decide +kernel
theorem dX4_wideBlock_392 : decode cX4_wideBlock 392 = .ok (.iinc 19 1, 3) := by decide +kernel
theorem dX4_wideBlock_395 : decode cX4_wideBlock 395 = .ok (.goto (-144), 3) := by decide +kernel
theorem dX4_wideBlock_398 : decode cX4_wideBlock 398 = .ok (.aload_n 0, 1) := by decide +kernel
theorem dX4_wideBlock_399 : decode cX4_wideBlock 399 = .ok (.getfield 23, 3) := by decide +kernel
theorem dX4_wideBlock_402 : decode cX4_wideBlock 402 = .ok (.iload_n 2, 1) := by decide +kernel
theorem dX4_wideBlock_403 : decode cX4_wideBlock 403 = .ok (.dup2, 1) := by decide +kernel
theorem dX4_wideBlock_404 : decode cX4_wideBlock 404 = .ok (.laload, 1) := by decide +kernel
theorem dX4_wideBlock_405 : decode cX4_wideBlock 405 = .ok (.lload_n 3, 1) := by decide +kernel
theorem dX4_wideBlock_406 : decode cX4_wideBlock 406 = .ok (.ladd, 1) := by decide +kernel
theorem dX4_wideBlock_407 : decode cX4_wideBlock 407 = .ok (.lastore, 1) := by decide +kernel
theorem dX4_wideBlock_408 : decode cX4_wideBlock 408 = .ok (.aload_n 0, 1) := by decide +kernel
theorem dX4_wideBlock_409 : decode cX4_wideBlock 409 = .ok (.getfield 23, 3) := by decide +kernel
theorem dX4_wideBlock_412 : decode cX4_wideBlock 412 = .ok (.iload_n 2, 1) := by decide +kernel
theorem dX4_wideBlock_413 : decode cX4_wideBlock 413 = .ok (.iconst 1, 1) := by decide +kernel
theorem dX4_wideBlock_414 : decode cX4_wideBlock 414 = .ok (.iadd, 1) := by decide +kernel
theorem dX4_wideBlock_415 : decode cX4_wideBlock 415 = .ok (.dup2, 1) := by decide +kernel
theorem dX4_wideBlock_416 : decode cX4_wideBlock 416 = .ok (.laload, 1) := by decide +kernel
theorem dX4_wideBlock_417 : decode cX4_wideBlock 417 = .ok (.lload 5, 2) := by decide +kernel
theorem dX4_wideBlock_419 : decode cX4_wideBlock 419 = .ok (.ladd, 1) := by decide +kernel
theorem dX4_wideBlock_420 : decode cX4_wideBlock 420 = .ok (.lastore, 1) := by decide +kernel
theorem dX4_wideBlock_421 : decode cX4_wideBlock 421 = .ok (.aload_n 0, 1) := by decide +kernel
theorem dX4_wideBlock_422 : decode cX4_wideBlock 422 = .ok (.getfield 23, 3) := by decide +kernel
theorem dX4_wideBlock_425 : decode cX4_wideBlock 425 = .ok (.iload_n 2, 1) := by decide +kernel
theorem dX4_wideBlock_426 : decode cX4_wideBlock 426 = .ok (.iconst 2, 1) := by decide +kernel
theorem dX4_wideBlock_427 : decode cX4_wideBlock 427 = .ok (.iadd, 1) := by decide +kernel
theorem dX4_wideBlock_428 : decode cX4_wideBlock 428 = .ok (.dup2, 1) := by decide +kernel
theorem dX4_wideBlock_429 : decode cX4_wideBlock 429 = .ok (.laload, 1) := by decide +kernel
theorem dX4_wideBlock_430 : decode cX4_wideBlock 430 = .ok (.lload 7, 2) := by decide +kernel
theorem dX4_wideBlock_432 : decode cX4_wideBlock 432 = .ok (.ladd, 1) := by decide +kernel
theorem dX4_wideBlock_433 : decode cX4_wideBlock 433 = .ok (.lastore, 1) := by decide +kernel
theorem dX4_wideBlock_434 : decode cX4_wideBlock 434 = .ok (.aload_n 0, 1) := by decide +kernel
theorem dX4_wideBlock_435 : decode cX4_wideBlock 435 = .ok (.getfield 23, 3) := by decide +kernel
theorem dX4_wideBlock_438 : decode cX4_wideBlock 438 = .ok (.iload_n 2, 1) := by decide +kernel
theorem dX4_wideBlock_439 : decode cX4_wideBlock 439 = .ok (.iconst 3, 1) := by decide +kernel
theorem dX4_wideBlock_440 : decode cX4_wideBlock 440 = .ok (.iadd, 1) := by decide +kernel
theorem dX4_wideBlock_441 : decode cX4_wideBlock 441 = .ok (.dup2, 1) := by decide +kernel
theorem dX4_wideBlock_442 : decode cX4_wideBlock 442 = .ok (.laload, 1) := by decide +kernel
theorem dX4_wideBlock_443 : decode cX4_wideBlock 443 = .ok (.lload 9, 2) := by decide +kernel
theorem dX4_wideBlock_445 : decode cX4_wideBlock 445 = .ok (.ladd, 1) := by decide +kernel
theorem dX4_wideBlock_446 : decode cX4_wideBlock 446 = .ok (.lastore, 1) := by decide +kernel
theorem dX4_wideBlock_447 : decode cX4_wideBlock 447 = .ok (.aload_n 0, 1) := by decide +kernel
theorem dX4_wideBlock_448 : decode cX4_wideBlock 448 = .ok (.getfield 23, 3) := by decide +kernel
theorem dX4_wideBlock_451 : decode cX4_wideBlock 451 = .ok (.iload_n 2, 1) := by decide +kernel
theorem dX4_wideBlock_452 : decode cX4_wideBlock 452 = .ok (.iconst 4, 1) := by decide +kernel
theorem dX4_wideBlock_453 : decode cX4_wideBlock 453 = .ok (.iadd, 1) := by decide +kernel
theorem dX4_wideBlock_454 : decode cX4_wideBlock 454 = .ok (.dup2, 1) := by decide +kernel
theorem dX4_wideBlock_455 : decode cX4_wideBlock 455 = .ok (.laload, 1) := by decide +kernel
theorem dX4_wideBlock_456 : decode cX4_wideBlock 456 = .ok (.lload 11, 2) := by decide +kernel
theorem dX4_wideBlock_458 : decode cX4_wideBlock 458 = .ok (.ladd, 1) := by decide +kernel
theorem dX4_wideBlock_459 : decode cX4_wideBlock 459 = .ok (.lastore, 1) := by decide +kernel
theorem dX4_wideBlock_460 : decode cX4_wideBlock 460 = .ok (.aload_n 0, 1) := by decide +kernel
theorem dX4_wideBlock_461 : decode cX4_wideBlock 461 = .ok (.getfield 23, 3) := by decide +kernel
theorem dX4_wideBlock_464 : decode cX4_wideBlock 464 = .ok (.iload_n 2, 1) := by decide +kernel
theorem dX4_wideBlock_465 : decode cX4_wideBlock 465 = .ok (.iconst 5, 1) := by decide +kernel
theorem dX4_wideBlock_466 : decode cX4_wideBlock 466 = .ok (.iadd, 1) := by decide +kernel
theorem dX4_wideBlock_467 : decode cX4_wideBlock 467 = .ok (.dup2, 1) := by decide +kernel
theorem dX4_wideBlock_468 : decode cX4_wideBlock 468 = .ok (.laload, 1) := by decide +kernel
theorem dX4_wideBlock_469 : decode cX4_wideBlock 469 = .ok (.lload 13, 2) := by decide +kernel
theorem dX4_wideBlock_471 : decode cX4_wideBlock 471 = .ok (.ladd, 1) := by decide +kernel
theorem dX4_wideBlock_472 : decode cX4_wideBlock 472 = .ok (.lastore, 1) := by decide +kernel
theorem dX4_wideBlock_473 : decode cX4_wideBlock 473 = .ok (.aload_n 0, 1) := by decide +kernel
theorem dX4_wideBlock_474 : decode cX4_wideBlock 474 = .ok (.getfield 23, 3) := by decide +kernel
theorem dX4_wideBlock_477 : decode cX4_wideBlock 477 = .ok (.iload_n 2, 1) := by decide +kernel
theorem dX4_wideBlock_478 : decode cX4_wideBlock 478 = .ok (.bipush 6, 2) := by decide +kernel
theorem dX4_wideBlock_480 : decode cX4_wideBlock 480 = .ok (.iadd, 1) := by decide +kernel
theorem dX4_wideBlock_481 : decode cX4_wideBlock 481 = .ok (.dup2, 1) := by decide +kernel
theorem dX4_wideBlock_482 : decode cX4_wideBlock 482 = .ok (.laload, 1) := by decide +kernel
theorem dX4_wideBlock_483 : decode cX4_wideBlock 483 = .ok (.lload 15, 2) := by decide +kernel
theorem dX4_wideBlock_485 : decode cX4_wideBlock 485 = .ok (.ladd, 1) := by decide +kernel
theorem dX4_wideBlock_486 : decode cX4_wideBlock 486 = .ok (.lastore, 1) := by decide +kernel
theorem dX4_wideBlock_487 : decode cX4_wideBlock 487 = .ok (.aload_n 0, 1) := by decide +kernel
theorem dX4_wideBlock_488 : decode cX4_wideBlock 488 = .ok (.getfield 23, 3) := by decide +kernel
theorem dX4_wideBlock_491 : decode cX4_wideBlock 491 = .ok (.iload_n 2, 1) := by decide +kernel
theorem dX4_wideBlock_492 : decode cX4_wideBlock 492 = .ok (.bipush 7, 2) := by decide +kernel
theorem dX4_wideBlock_494 : decode cX4_wideBlock 494 = .ok (.iadd, 1) := by decide +kernel
theorem dX4_wideBlock_495 : decode cX4_wideBlock 495 = .ok (.dup2, 1) := by decide +kernel
theorem dX4_wideBlock_496 : decode cX4_wideBlock 496 = .ok (.laload, 1) := by decide +kernel
theorem dX4_wideBlock_497 : decode cX4_wideBlock 497 = .ok (.lload 17, 2) := by decide +kernel
theorem dX4_wideBlock_499 : decode cX4_wideBlock 499 = .ok (.ladd, 1) := by decide +kernel
theorem dX4_wideBlock_500 : decode cX4_wideBlock 500 = .ok (.lastore, 1) := by decide +kernel
theorem dX4_wideBlock_501 : decode cX4_wideBlock 501 = .ok (.return_, 1) := by decide +kernel
theorem dX4_absorb_0 : decode cX4_absorb 0 = .ok (.aload_n 0, 1) := by decide +kernel
theorem dX4_absorb_1 : decode cX4_absorb 1 = .ok (.getfield 26, 3) := by decide +kernel
theorem dX4_absorb_4 : decode cX4_absorb 4 = .ok (.sipush 128, 3) := by decide +kernel
theorem dX4_absorb_7 : decode cX4_absorb 7 = .ok (.iload_n 1, 1) := by decide +kernel
theorem dX4_absorb_8 : decode cX4_absorb 8 = .ok (.imul, 1) := by decide +kernel
theorem dX4_absorb_9 : decode cX4_absorb 9 = .ok (.aload_n 0, 1) := by decide +kernel
theorem dX4_absorb_10 : decode cX4_absorb 10 = .ok (.getfield 29, 3) := by decide +kernel
theorem dX4_absorb_13 : decode cX4_absorb 13 = .ok (.iload_n 1, 1) := by decide +kernel
theorem dX4_absorb_14 : decode cX4_absorb 14 = .ok (.iaload, 1) := by decide +kernel
theorem dX4_absorb_15 : decode cX4_absorb 15 = .ok (.iadd, 1) := by decide +kernel
theorem dX4_absorb_16 : decode cX4_absorb 16 = .ok (.iload_n 2, 1) := by decide +kernel
theorem dX4_absorb_17 : decode cX4_absorb 17 = .ok (.iastore, 1) := by decide +kernel
theorem dX4_absorb_18 : decode cX4_absorb 18 = .ok (.aload_n 0, 1) := by decide +kernel
theorem dX4_absorb_19 : decode cX4_absorb 19 = .ok (.getfield 29, 3) := by decide +kernel
theorem dX4_absorb_22 : decode cX4_absorb 22 = .ok (.iload_n 1, 1) := by decide +kernel
theorem dX4_absorb_23 : decode cX4_absorb 23 = .ok (.dup2, 1) := by decide +kernel
theorem dX4_absorb_24 : decode cX4_absorb 24 = .ok (.iaload, 1) := by decide +kernel
theorem dX4_absorb_25 : decode cX4_absorb 25 = .ok (.iconst 1, 1) := by decide +kernel
theorem dX4_absorb_26 : decode cX4_absorb 26 = .ok (.iadd, 1) := by decide +kernel
theorem dX4_absorb_27 : decode cX4_absorb 27 = .ok (.iastore, 1) := by decide +kernel
theorem dX4_absorb_28 : decode cX4_absorb 28 = .ok (.aload_n 0, 1) := by decide +kernel
theorem dX4_absorb_29 : decode cX4_absorb 29 = .ok (.getfield 32, 3) := by decide +kernel
theorem dX4_absorb_32 : decode cX4_absorb 32 = .ok (.iload_n 1, 1) := by decide +kernel
theorem dX4_absorb_33 : decode cX4_absorb 33 = .ok (.dup2, 1) := by decide +kernel
theorem dX4_absorb_34 : decode cX4_absorb 34 = .ok (.laload, 1) := by decide +kernel
theorem dX4_absorb_35 : decode cX4_absorb 35 = .ok (.lconst 1, 1) := by decide +kernel
theorem dX4_absorb_36 : decode cX4_absorb 36 = .ok (.ladd, 1) := by decide +kernel
theorem dX4_absorb_37 : decode cX4_absorb 37 = .ok (.lastore, 1) := by decide +kernel
theorem dX4_absorb_38 : decode cX4_absorb 38 = .ok (.aload_n 0, 1) := by decide +kernel
theorem dX4_absorb_39 : decode cX4_absorb 39 = .ok (.getfield 29, 3) := by decide +kernel
theorem dX4_absorb_42 : decode cX4_absorb 42 = .ok (.iload_n 1, 1) := by decide +kernel
theorem dX4_absorb_43 : decode cX4_absorb 43 = .ok (.iaload, 1) := by decide +kernel
theorem dX4_absorb_44 : decode cX4_absorb 44 = .ok (.aload_n 0, 1) := by decide +kernel
theorem dX4_absorb_45 : decode cX4_absorb 45 = .ok (.getfield 20, 3) := by decide +kernel
theorem dX4_absorb_48 : decode cX4_absorb 48 = .ok (.iload_n 1, 1) := by decide +kernel
theorem dX4_absorb_49 : decode cX4_absorb 49 = .ok (.iaload, 1) := by decide +kernel
theorem dX4_absorb_50 : decode cX4_absorb 50 = .ok (.invokestatic 124, 3) := by decide +kernel
theorem dX4_absorb_53 : decode cX4_absorb 53 = .ok (.if_icmp .ne 33, 3) := by decide +kernel
theorem dX4_absorb_56 : decode cX4_absorb 56 = .ok (.aload_n 0, 1) := by decide +kernel
theorem dX4_absorb_57 : decode cX4_absorb 57 = .ok (.getfield 29, 3) := by decide +kernel
theorem dX4_absorb_60 : decode cX4_absorb 60 = .ok (.iload_n 1, 1) := by decide +kernel
theorem dX4_absorb_61 : decode cX4_absorb 61 = .ok (.iconst 0, 1) := by decide +kernel
theorem dX4_absorb_62 : decode cX4_absorb 62 = .ok (.iastore, 1) := by decide +kernel
theorem dX4_absorb_63 : decode cX4_absorb 63 = .ok (.aload_n 0, 1) := by decide +kernel
theorem dX4_absorb_64 : decode cX4_absorb 64 = .ok (.getfield 20, 3) := by decide +kernel
theorem dX4_absorb_67 : decode cX4_absorb 67 = .ok (.iload_n 1, 1) := by decide +kernel
theorem dX4_absorb_68 : decode cX4_absorb 68 = .ok (.iaload, 1) := by decide +kernel
theorem dX4_absorb_69 : decode cX4_absorb 69 = .ok (.iconst 2, 1) := by decide +kernel
theorem dX4_absorb_70 : decode cX4_absorb 70 = .ok (.if_icmp .ge 11, 3) := by decide +kernel
theorem dX4_absorb_73 : decode cX4_absorb 73 = .ok (.aload_n 0, 1) := by decide +kernel
theorem dX4_absorb_74 : decode cX4_absorb 74 = .ok (.iload_n 1, 1) := by decide +kernel
theorem dX4_absorb_75 : decode cX4_absorb 75 = .ok (.invokevirtual 128, 3) := by decide +kernel
theorem dX4_absorb_78 : decode cX4_absorb 78 = .ok (.goto 8, 3) := by decide +kernel
theorem dX4_absorb_81 : decode cX4_absorb 81 = .ok (.aload_n 0, 1) := by decide +kernel
theorem dX4_absorb_82 : decode cX4_absorb 82 = .ok (.iload_n 1, 1) := by decide +kernel
theorem dX4_absorb_83 : decode cX4_absorb 83 = .ok (.invokevirtual 132, 3) := by decide +kernel
theorem dX4_absorb_86 : decode cX4_absorb 86 = .ok (.return_, 1) := by decide +kernel
theorem dX4_close_0 : decode cX4_close 0 = .ok (.ldc2_w 135, 3) := by decide +kernel
theorem dX4_close_3 : decode cX4_close 3 = .ok (.aload_n 0, 1) := by decide +kernel
theorem dX4_close_4 : decode cX4_close 4 = .ok (.getfield 32, 3) := by decide +kernel
theorem dX4_close_7 : decode cX4_close 7 = .ok (.iload_n 1, 1) := by decide +kernel
theorem dX4_close_8 : decode cX4_close 8 = .ok (.laload, 1) := by decide +kernel
theorem dX4_close_9 : decode cX4_close 9 = .ok (.lmul, 1) := by decide +kernel
theorem dX4_close_10 : decode cX4_close 10 = .ok (.lstore_n 2, 1) := by decide +kernel
theorem dX4_close_11 : decode cX4_close 11 = .ok (.aload_n 0, 1) := by decide +kernel
theorem dX4_close_12 : decode cX4_close 12 = .ok (.getfield 20, 3) := by decide +kernel
theorem dX4_close_15 : decode cX4_close 15 = .ok (.iload_n 1, 1) := by decide +kernel
theorem dX4_close_16 : decode cX4_close 16 = .ok (.iaload, 1) := by decide +kernel
theorem dX4_close_17 : decode cX4_close 17 = .ok (.iconst 2, 1) := by decide +kernel
theorem dX4_close_18 : decode cX4_close 18 = .ok (.if_icmp .ge 8, 3) := by decide +kernel
theorem dX4_close_21 : decode cX4_close 21 = .ok (.bipush 8, 2) := by decide +kernel
theorem dX4_close_23 : decode cX4_close 23 = .ok (.goto 5, 3) := by decide +kernel
theorem dX4_close_26 : decode cX4_close 26 = .ok (.bipush 16, 2) := by decide +kernel
theorem dX4_close_28 : decode cX4_close 28 = .ok (.istore 4, 2) := by decide +kernel
theorem dX4_close_30 : decode cX4_close 30 = .ok (.aload_n 0, 1) := by decide +kernel
theorem dX4_close_31 : decode cX4_close 31 = .ok (.iload_n 1, 1) := by decide +kernel
theorem dX4_close_32 : decode cX4_close 32 = .ok (.sipush 128, 3) := by decide +kernel
theorem dX4_close_35 : decode cX4_close 35 = .ok (.invokevirtual 137, 3) := by decide +kernel
theorem dX4_close_38 : decode cX4_close 38 = .ok (.aload_n 0, 1) := by decide +kernel
theorem dX4_close_39 : decode cX4_close 39 = .ok (.getfield 29, 3) := by decide +kernel
theorem dX4_close_42 : decode cX4_close 42 = .ok (.iload_n 1, 1) := by decide +kernel
theorem dX4_close_43 : decode cX4_close 43 = .ok (.iaload, 1) := by decide +kernel
theorem dX4_close_44 : decode cX4_close 44 = .ok (.aload_n 0, 1) := by decide +kernel
theorem dX4_close_45 : decode cX4_close 45 = .ok (.getfield 20, 3) := by decide +kernel
theorem dX4_close_48 : decode cX4_close 48 = .ok (.iload_n 1, 1) := by decide +kernel
theorem dX4_close_49 : decode cX4_close 49 = .ok (.iaload, 1) := by decide +kernel
theorem dX4_close_50 : decode cX4_close 50 = .ok (.invokestatic 124, 3) := by decide +kernel
theorem dX4_close_53 : decode cX4_close 53 = .ok (.iload 4, 2) := by decide +kernel
theorem dX4_close_55 : decode cX4_close 55 = .ok (.isub, 1) := by decide +kernel
theorem dX4_close_56 : decode cX4_close 56 = .ok (.if_icmp .eq 12, 3) := by decide +kernel
theorem dX4_close_59 : decode cX4_close 59 = .ok (.aload_n 0, 1) := by decide +kernel
theorem dX4_close_60 : decode cX4_close 60 = .ok (.iload_n 1, 1) := by decide +kernel
theorem dX4_close_61 : decode cX4_close 61 = .ok (.iconst 0, 1) := by decide +kernel
theorem dX4_close_62 : decode cX4_close 62 = .ok (.invokevirtual 137, 3) := by decide +kernel
theorem dX4_close_65 : decode cX4_close 65 = .ok (.goto (-27), 3) := by decide +kernel
theorem dX4_close_68 : decode cX4_close 68 = .ok (.iload 4, 2) := by decide +kernel
theorem dX4_close_70 : decode cX4_close 70 = .ok (.iconst 1, 1) := by decide +kernel
theorem dX4_close_71 : decode cX4_close 71 = .ok (.isub, 1) := by decide +kernel
theorem dX4_close_72 : decode cX4_close 72 = .ok (.istore 5, 2) := by decide +kernel
theorem dX4_close_74 : decode cX4_close 74 = .ok (.iload 5, 2) := by decide +kernel
theorem dX4_close_76 : decode cX4_close 76 = .ok (.ifCond .lt 37, 3) := by decide +kernel
theorem dX4_close_79 : decode cX4_close 79 = .ok (.aload_n 0, 1) := by decide +kernel
theorem dX4_close_80 : decode cX4_close 80 = .ok (.iload_n 1, 1) := by decide +kernel
theorem dX4_close_81 : decode cX4_close 81 = .ok (.iload 5, 2) := by decide +kernel
theorem dX4_close_83 : decode cX4_close 83 = .ok (.bipush 7, 2) := by decide +kernel
theorem dX4_close_85 : decode cX4_close 85 = .ok (.if_icmp .le 7, 3) := by decide +kernel
theorem dX4_close_88 : decode cX4_close 88 = .ok (.iconst 0, 1) := by decide +kernel
theorem dX4_close_89 : decode cX4_close 89 = .ok (.goto 15, 3) := by decide +kernel
theorem dX4_close_92 : decode cX4_close 92 = .ok (.lload_n 2, 1) := by decide +kernel
theorem dX4_close_93 : decode cX4_close 93 = .ok (.bipush 8, 2) := by decide +kernel
theorem dX4_close_95 : decode cX4_close 95 = .ok (.iload 5, 2) := by decide +kernel
theorem dX4_close_97 : decode cX4_close 97 = .ok (.imul, 1) := by decide +kernel
theorem dX4_close_98 : decode cX4_close 98 = .ok (.lushr, 1) := by decide +kernel
theorem dX4_close_99 : decode cX4_close 99 = .ok (.ldc2_w 141, 3) := by decide +kernel
theorem dX4_close_102 : decode cX4_close 102 = .ok (.land, 1) := by decide +kernel
theorem dX4_close_103 : decode cX4_close 103 = .ok (.l2i, 1) := by decide +kernel
theorem dX4_close_104 : decode cX4_close 104 = .ok (.invokevirtual 137, 3) := by decide +kernel
theorem dX4_close_107 : decode cX4_close 107 = .ok (.iinc 5 (-1), 3) := by decide +kernel
theorem dX4_close_110 : decode cX4_close 110 = .ok (.goto (-36), 3) := by decide +kernel
theorem dX4_close_113 : decode cX4_close 113 = .ok (.aload_n 0, 1) := by decide +kernel
theorem dX4_close_114 : decode cX4_close 114 = .ok (.getfield 20, 3) := by decide +kernel
theorem dX4_close_117 : decode cX4_close 117 = .ok (.iload_n 1, 1) := by decide +kernel
theorem dX4_close_118 : decode cX4_close 118 = .ok (.iaload, 1) := by decide +kernel
theorem dX4_close_119 : decode cX4_close 119 = .ok (.iconst 2, 1) := by decide +kernel
theorem dX4_close_120 : decode cX4_close 120 = .ok (.if_icmp .ge 7, 3) := by decide +kernel
theorem dX4_close_123 : decode cX4_close 123 = .ok (.iconst 4, 1) := by decide +kernel
theorem dX4_close_124 : decode cX4_close 124 = .ok (.goto 5, 3) := by decide +kernel
theorem dX4_close_127 : decode cX4_close 127 = .ok (.bipush 8, 2) := by decide +kernel
theorem dX4_close_129 : decode cX4_close 129 = .ok (.istore 5, 2) := by decide +kernel
theorem dX4_close_131 : decode cX4_close 131 = .ok (.iconst 0, 1) := by decide +kernel
theorem dX4_close_132 : decode cX4_close 132 = .ok (.istore 6, 2) := by decide +kernel
theorem dX4_close_134 : decode cX4_close 134 = .ok (.iload 6, 2) := by decide +kernel
theorem dX4_close_136 : decode cX4_close 136 = .ok (.aload_n 0, 1) := by decide +kernel
theorem dX4_close_137 : decode cX4_close 137 = .ok (.getfield 20, 3) := by decide +kernel
theorem dX4_close_140 : decode cX4_close 140 = .ok (.iload_n 1, 1) := by decide +kernel
theorem dX4_close_141 : decode cX4_close 141 = .ok (.iaload, 1) := by decide +kernel
theorem dX4_close_142 : decode cX4_close 142 = .ok (.invokestatic 143, 3) := by decide +kernel
theorem dX4_close_145 : decode cX4_close 145 = .ok (.if_icmp .ge 50, 3) := by decide +kernel
theorem dX4_close_148 : decode cX4_close 148 = .ok (.aload_n 0, 1) := by decide +kernel
theorem dX4_close_149 : decode cX4_close 149 = .ok (.getfield 54, 3) := by decide +kernel
theorem dX4_close_152 : decode cX4_close 152 = .ok (.iload 6, 2) := by decide +kernel
theorem dX4_close_154 : decode cX4_close 154 = .ok (.aload_n 0, 1) := by decide +kernel
theorem dX4_close_155 : decode cX4_close 155 = .ok (.getfield 23, 3) := by decide +kernel
theorem dX4_close_158 : decode cX4_close 158 = .ok (.bipush 8, 2) := by decide +kernel
theorem dX4_close_160 : decode cX4_close 160 = .ok (.iload_n 1, 1) := by decide +kernel
theorem dX4_close_161 : decode cX4_close 161 = .ok (.imul, 1) := by decide +kernel
theorem dX4_close_162 : decode cX4_close 162 = .ok (.iload 6, 2) := by decide +kernel
theorem dX4_close_164 : decode cX4_close 164 = .ok (.iload 5, 2) := by decide +kernel
theorem dX4_close_166 : decode cX4_close 166 = .ok (.idiv, 1) := by decide +kernel
theorem dX4_close_167 : decode cX4_close 167 = .ok (.iadd, 1) := by decide +kernel
theorem dX4_close_168 : decode cX4_close 168 = .ok (.laload, 1) := by decide +kernel
theorem dX4_close_169 : decode cX4_close 169 = .ok (.bipush 8, 2) := by decide +kernel
theorem dX4_close_171 : decode cX4_close 171 = .ok (.iload 5, 2) := by decide +kernel
theorem dX4_close_173 : decode cX4_close 173 = .ok (.iconst 1, 1) := by decide +kernel
theorem dX4_close_174 : decode cX4_close 174 = .ok (.isub, 1) := by decide +kernel
theorem dX4_close_175 : decode cX4_close 175 = .ok (.iload 6, 2) := by decide +kernel
theorem dX4_close_177 : decode cX4_close 177 = .ok (.iload 5, 2) := by decide +kernel
theorem dX4_close_179 : decode cX4_close 179 = .ok (.irem, 1) := by decide +kernel
theorem dX4_close_180 : decode cX4_close 180 = .ok (.isub, 1) := by decide +kernel
theorem dX4_close_181 : decode cX4_close 181 = .ok (.imul, 1) := by decide +kernel
theorem dX4_close_182 : decode cX4_close 182 = .ok (.lushr, 1) := by decide +kernel
theorem dX4_close_183 : decode cX4_close 183 = .ok (.ldc2_w 141, 3) := by decide +kernel
theorem dX4_close_186 : decode cX4_close 186 = .ok (.land, 1) := by decide +kernel
theorem dX4_close_187 : decode cX4_close 187 = .ok (.l2i, 1) := by decide +kernel
theorem dX4_close_188 : decode cX4_close 188 = .ok (.iastore, 1) := by decide +kernel
theorem dX4_close_189 : decode cX4_close 189 = .ok (.iinc 6 1, 3) := by decide +kernel
theorem dX4_close_192 : decode cX4_close 192 = .ok (.goto (-58), 3) := by decide +kernel
theorem dX4_close_195 : decode cX4_close 195 = .ok (.return_, 1) := by decide +kernel
theorem dX4_copySlot_0 : decode cX4_copySlot 0 = .ok (.aload_n 0, 1) := by decide +kernel
theorem dX4_copySlot_1 : decode cX4_copySlot 1 = .ok (.getfield 20, 3) := by decide +kernel
theorem dX4_copySlot_4 : decode cX4_copySlot 4 = .ok (.iload_n 1, 1) := by decide +kernel
theorem dX4_copySlot_5 : decode cX4_copySlot 5 = .ok (.aload_n 0, 1) := by decide +kernel
theorem dX4_copySlot_6 : decode cX4_copySlot 6 = .ok (.getfield 20, 3) := by decide +kernel
theorem dX4_copySlot_9 : decode cX4_copySlot 9 = .ok (.iload_n 2, 1) := by decide +kernel
theorem dX4_copySlot_10 : decode cX4_copySlot 10 = .ok (.iaload, 1) := by decide +kernel
theorem dX4_copySlot_11 : decode cX4_copySlot 11 = .ok (.iastore, 1) := by decide +kernel
theorem dX4_copySlot_12 : decode cX4_copySlot 12 = .ok (.aload_n 0, 1) := by decide +kernel
theorem dX4_copySlot_13 : decode cX4_copySlot 13 = .ok (.getfield 29, 3) := by decide +kernel
theorem dX4_copySlot_16 : decode cX4_copySlot 16 = .ok (.iload_n 1, 1) := by decide +kernel
theorem dX4_copySlot_17 : decode cX4_copySlot 17 = .ok (.aload_n 0, 1) := by decide +kernel
theorem dX4_copySlot_18 : decode cX4_copySlot 18 = .ok (.getfield 29, 3) := by decide +kernel
theorem dX4_copySlot_21 : decode cX4_copySlot 21 = .ok (.iload_n 2, 1) := by decide +kernel
theorem dX4_copySlot_22 : decode cX4_copySlot 22 = .ok (.iaload, 1) := by decide +kernel
theorem dX4_copySlot_23 : decode cX4_copySlot 23 = .ok (.iastore, 1) := by decide +kernel
theorem dX4_copySlot_24 : decode cX4_copySlot 24 = .ok (.aload_n 0, 1) := by decide +kernel
theorem dX4_copySlot_25 : decode cX4_copySlot 25 = .ok (.getfield 32, 3) := by decide +kernel
theorem dX4_copySlot_28 : decode cX4_copySlot 28 = .ok (.iload_n 1, 1) := by decide +kernel
theorem dX4_copySlot_29 : decode cX4_copySlot 29 = .ok (.aload_n 0, 1) := by decide +kernel
theorem dX4_copySlot_30 : decode cX4_copySlot 30 = .ok (.getfield 32, 3) := by decide +kernel
theorem dX4_copySlot_33 : decode cX4_copySlot 33 = .ok (.iload_n 2, 1) := by decide +kernel
theorem dX4_copySlot_34 : decode cX4_copySlot 34 = .ok (.laload, 1) := by decide +kernel
theorem dX4_copySlot_35 : decode cX4_copySlot 35 = .ok (.lastore, 1) := by decide +kernel
theorem dX4_copySlot_36 : decode cX4_copySlot 36 = .ok (.iconst 0, 1) := by decide +kernel
theorem dX4_copySlot_37 : decode cX4_copySlot 37 = .ok (.istore_n 3, 1) := by decide +kernel
theorem dX4_copySlot_38 : decode cX4_copySlot 38 = .ok (.iload_n 3, 1) := by decide +kernel
theorem dX4_copySlot_39 : decode cX4_copySlot 39 = .ok (.bipush 8, 2) := by decide +kernel
theorem dX4_copySlot_41 : decode cX4_copySlot 41 = .ok (.if_icmp .ge 31, 3) := by decide +kernel
theorem dX4_copySlot_44 : decode cX4_copySlot 44 = .ok (.aload_n 0, 1) := by decide +kernel
theorem dX4_copySlot_45 : decode cX4_copySlot 45 = .ok (.getfield 23, 3) := by decide +kernel
theorem dX4_copySlot_48 : decode cX4_copySlot 48 = .ok (.bipush 8, 2) := by decide +kernel
theorem dX4_copySlot_50 : decode cX4_copySlot 50 = .ok (.iload_n 1, 1) := by decide +kernel
theorem dX4_copySlot_51 : decode cX4_copySlot 51 = .ok (.imul, 1) := by decide +kernel
theorem dX4_copySlot_52 : decode cX4_copySlot 52 = .ok (.iload_n 3, 1) := by decide +kernel
theorem dX4_copySlot_53 : decode cX4_copySlot 53 = .ok (.iadd, 1) := by decide +kernel
theorem dX4_copySlot_54 : decode cX4_copySlot 54 = .ok (.aload_n 0, 1) := by decide +kernel
theorem dX4_copySlot_55 : decode cX4_copySlot 55 = .ok (.getfield 23, 3) := by decide +kernel
theorem dX4_copySlot_58 : decode cX4_copySlot 58 = .ok (.bipush 8, 2) := by decide +kernel
theorem dX4_copySlot_60 : decode cX4_copySlot 60 = .ok (.iload_n 2, 1) := by decide +kernel
theorem dX4_copySlot_61 : decode cX4_copySlot 61 = .ok (.imul, 1) := by decide +kernel
theorem dX4_copySlot_62 : decode cX4_copySlot 62 = .ok (.iload_n 3, 1) := by decide +kernel
theorem dX4_copySlot_63 : decode cX4_copySlot 63 = .ok (.iadd, 1) := by decide +kernel
theorem dX4_copySlot_64 : decode cX4_copySlot 64 = .ok (.laload, 1) := by decide +kernel
theorem dX4_copySlot_65 : decode cX4_copySlot 65 = .ok (.lastore, 1) := by decide +kernel
theorem dX4_copySlot_66 : decode cX4_copySlot 66 = .ok (.iinc 3 1, 3) := by decide +kernel
theorem dX4_copySlot_69 : decode cX4_copySlot 69 = .ok (.goto (-31), 3) := by decide +kernel
theorem dX4_copySlot_72 : decode cX4_copySlot 72 = .ok (.iconst 0, 1) := by decide +kernel
theorem dX4_copySlot_73 : decode cX4_copySlot 73 = .ok (.istore_n 3, 1) := by decide +kernel
theorem dX4_copySlot_74 : decode cX4_copySlot 74 = .ok (.iload_n 3, 1) := by decide +kernel
theorem dX4_copySlot_75 : decode cX4_copySlot 75 = .ok (.sipush 128, 3) := by decide +kernel
theorem dX4_copySlot_78 : decode cX4_copySlot 78 = .ok (.if_icmp .ge 33, 3) := by decide +kernel
theorem dX4_copySlot_81 : decode cX4_copySlot 81 = .ok (.aload_n 0, 1) := by decide +kernel
theorem dX4_copySlot_82 : decode cX4_copySlot 82 = .ok (.getfield 26, 3) := by decide +kernel
theorem dX4_copySlot_85 : decode cX4_copySlot 85 = .ok (.sipush 128, 3) := by decide +kernel
theorem dX4_copySlot_88 : decode cX4_copySlot 88 = .ok (.iload_n 1, 1) := by decide +kernel
theorem dX4_copySlot_89 : decode cX4_copySlot 89 = .ok (.imul, 1) := by decide +kernel
theorem dX4_copySlot_90 : decode cX4_copySlot 90 = .ok (.iload_n 3, 1) := by decide +kernel
theorem dX4_copySlot_91 : decode cX4_copySlot 91 = .ok (.iadd, 1) := by decide +kernel
theorem dX4_copySlot_92 : decode cX4_copySlot 92 = .ok (.aload_n 0, 1) := by decide +kernel
theorem dX4_copySlot_93 : decode cX4_copySlot 93 = .ok (.getfield 26, 3) := by decide +kernel
theorem dX4_copySlot_96 : decode cX4_copySlot 96 = .ok (.sipush 128, 3) := by decide +kernel
theorem dX4_copySlot_99 : decode cX4_copySlot 99 = .ok (.iload_n 2, 1) := by decide +kernel
theorem dX4_copySlot_100 : decode cX4_copySlot 100 = .ok (.imul, 1) := by decide +kernel
theorem dX4_copySlot_101 : decode cX4_copySlot 101 = .ok (.iload_n 3, 1) := by decide +kernel
theorem dX4_copySlot_102 : decode cX4_copySlot 102 = .ok (.iadd, 1) := by decide +kernel
theorem dX4_copySlot_103 : decode cX4_copySlot 103 = .ok (.iaload, 1) := by decide +kernel
theorem dX4_copySlot_104 : decode cX4_copySlot 104 = .ok (.iastore, 1) := by decide +kernel
theorem dX4_copySlot_105 : decode cX4_copySlot 105 = .ok (.iinc 3 1, 3) := by decide +kernel
theorem dX4_copySlot_108 : decode cX4_copySlot 108 = .ok (.goto (-34), 3) := by decide +kernel
theorem dX4_copySlot_111 : decode cX4_copySlot 111 = .ok (.return_, 1) := by decide +kernel
theorem dX4_setKey_0 : decode cX4_setKey 0 = .ok (.aload_n 0, 1) := by decide +kernel
theorem dX4_setKey_1 : decode cX4_setKey 1 = .ok (.getfield 146, 3) := by decide +kernel
theorem dX4_setKey_4 : decode cX4_setKey 4 = .ok (.iload_n 1, 1) := by decide +kernel
theorem dX4_setKey_5 : decode cX4_setKey 5 = .ok (.invokestatic 124, 3) := by decide +kernel
theorem dX4_setKey_8 : decode cX4_setKey 8 = .ok (.if_icmp .le 7, 3) := by decide +kernel
theorem dX4_setKey_11 : decode cX4_setKey 11 = .ok (.iconst 1, 1) := by decide +kernel
theorem dX4_setKey_12 : decode cX4_setKey 12 = .ok (.goto 4, 3) := by decide +kernel
theorem dX4_setKey_15 : decode cX4_setKey 15 = .ok (.iconst 0, 1) := by decide +kernel
theorem dX4_setKey_16 : decode cX4_setKey 16 = .ok (.istore_n 2, 1) := by decide +kernel
theorem dX4_setKey_17 : decode cX4_setKey 17 = .ok (.iload_n 2, 1) := by decide +kernel
theorem dX4_setKey_18 : decode cX4_setKey 18 = .ok (.ifCond .eq 44, 3) := by decide +kernel
theorem dX4_setKey_21 : decode cX4_setKey 21 = .ok (.aload_n 0, 1) := by decide +kernel
theorem dX4_setKey_22 : decode cX4_setKey 22 = .ok (.bipush 6, 2) := by decide +kernel
theorem dX4_setKey_24 : decode cX4_setKey 24 = .ok (.iload_n 1, 1) := by decide +kernel
theorem dX4_setKey_25 : decode cX4_setKey 25 = .ok (.invokevirtual 149, 3) := by decide +kernel
theorem dX4_setKey_28 : decode cX4_setKey 28 = .ok (.iconst 0, 1) := by decide +kernel
theorem dX4_setKey_29 : decode cX4_setKey 29 = .ok (.istore_n 3, 1) := by decide +kernel
theorem dX4_setKey_30 : decode cX4_setKey 30 = .ok (.iload_n 3, 1) := by decide +kernel
theorem dX4_setKey_31 : decode cX4_setKey 31 = .ok (.aload_n 0, 1) := by decide +kernel
theorem dX4_setKey_32 : decode cX4_setKey 32 = .ok (.getfield 146, 3) := by decide +kernel
theorem dX4_setKey_35 : decode cX4_setKey 35 = .ok (.if_icmp .ge 21, 3) := by decide +kernel
theorem dX4_setKey_38 : decode cX4_setKey 38 = .ok (.aload_n 0, 1) := by decide +kernel
theorem dX4_setKey_39 : decode cX4_setKey 39 = .ok (.bipush 6, 2) := by decide +kernel
theorem dX4_setKey_41 : decode cX4_setKey 41 = .ok (.aload_n 0, 1) := by decide +kernel
theorem dX4_setKey_42 : decode cX4_setKey 42 = .ok (.getfield 81, 3) := by decide +kernel
theorem dX4_setKey_45 : decode cX4_setKey 45 = .ok (.iload_n 3, 1) := by decide +kernel
theorem dX4_setKey_46 : decode cX4_setKey 46 = .ok (.iaload, 1) := by decide +kernel
theorem dX4_setKey_47 : decode cX4_setKey 47 = .ok (.invokevirtual 137, 3) := by decide +kernel
theorem dX4_setKey_50 : decode cX4_setKey 50 = .ok (.iinc 3 1, 3) := by decide +kernel
theorem dX4_setKey_53 : decode cX4_setKey 53 = .ok (.goto (-23), 3) := by decide +kernel
theorem dX4_setKey_56 : decode cX4_setKey 56 = .ok (.aload_n 0, 1) := by decide +kernel
theorem dX4_setKey_57 : decode cX4_setKey 57 = .ok (.bipush 6, 2) := by decide +kernel
theorem dX4_setKey_59 : decode cX4_setKey 59 = .ok (.invokevirtual 152, 3) := by decide +kernel
theorem dX4_setKey_62 : decode cX4_setKey 62 = .ok (.iload_n 2, 1) := by decide +kernel
theorem dX4_setKey_63 : decode cX4_setKey 63 = .ok (.ifCond .eq 10, 3) := by decide +kernel
theorem dX4_setKey_66 : decode cX4_setKey 66 = .ok (.iload_n 1, 1) := by decide +kernel
theorem dX4_setKey_67 : decode cX4_setKey 67 = .ok (.invokestatic 143, 3) := by decide +kernel
theorem dX4_setKey_70 : decode cX4_setKey 70 = .ok (.goto 7, 3) := by decide +kernel
theorem dX4_setKey_73 : decode cX4_setKey 73 = .ok (.aload_n 0, 1) := by decide +kernel
theorem dX4_setKey_74 : decode cX4_setKey 74 = .ok (.getfield 146, 3) := by decide +kernel
theorem dX4_setKey_77 : decode cX4_setKey 77 = .ok (.istore_n 3, 1) := by decide +kernel
theorem dX4_setKey_78 : decode cX4_setKey 78 = .ok (.iconst 0, 1) := by decide +kernel
theorem dX4_setKey_79 : decode cX4_setKey 79 = .ok (.istore 4, 2) := by decide +kernel
theorem dX4_setKey_81 : decode cX4_setKey 81 = .ok (.iload 4, 2) := by decide +kernel
theorem dX4_setKey_83 : decode cX4_setKey 83 = .ok (.sipush 128, 3) := by decide +kernel
theorem dX4_setKey_86 : decode cX4_setKey 86 = .ok (.if_icmp .ge 47, 3) := by decide +kernel
theorem dX4_setKey_89 : decode cX4_setKey 89 = .ok (.aload_n 0, 1) := by decide +kernel
theorem dX4_setKey_90 : decode cX4_setKey 90 = .ok (.getfield 51, 3) := by decide +kernel
theorem dX4_setKey_93 : decode cX4_setKey 93 = .ok (.iload 4, 2) := by decide +kernel
theorem dX4_setKey_95 : decode cX4_setKey 95 = .ok (.iload 4, 2) := by decide +kernel
theorem dX4_setKey_97 : decode cX4_setKey 97 = .ok (.iload_n 3, 1) := by decide +kernel
theorem dX4_setKey_98 : decode cX4_setKey 98 = .ok (.if_icmp .lt 7, 3) := by decide +kernel
theorem dX4_setKey_101 : decode cX4_setKey 101 = .ok (.iconst 0, 1) := by decide +kernel
theorem dX4_setKey_102 : decode cX4_setKey 102 = .ok (.goto 24, 3) := by decide +kernel
theorem dX4_setKey_105 : decode cX4_setKey 105 = .ok (.iload_n 2, 1) := by decide +kernel
theorem dX4_setKey_106 : decode cX4_setKey 106 = .ok (.ifCond .eq 13, 3) := by decide +kernel
theorem dX4_setKey_109 : decode cX4_setKey 109 = .ok (.aload_n 0, 1) := by decide +kernel
theorem dX4_setKey_110 : decode cX4_setKey 110 = .ok (.getfield 54, 3) := by decide +kernel
theorem dX4_setKey_113 : decode cX4_setKey 113 = .ok (.iload 4, 2) := by decide +kernel
theorem dX4_setKey_115 : decode cX4_setKey 115 = .ok (.iaload, 1) := by decide +kernel
theorem dX4_setKey_116 : decode cX4_setKey 116 = .ok (.goto 10, 3) := by decide +kernel
theorem dX4_setKey_119 : decode cX4_setKey 119 = .ok (.aload_n 0, 1) := by decide +kernel
theorem dX4_setKey_120 : decode cX4_setKey 120 = .ok (.getfield 81, 3) := by decide +kernel
theorem dX4_setKey_123 : decode cX4_setKey 123 = .ok (.iload 4, 2) := by decide +kernel
theorem dX4_setKey_125 : decode cX4_setKey 125 = .ok (.iaload, 1) := by decide +kernel
theorem dX4_setKey_126 : decode cX4_setKey 126 = .ok (.iastore, 1) := by decide +kernel
theorem dX4_setKey_127 : decode cX4_setKey 127 = .ok (.iinc 4 1, 3) := by decide +kernel
theorem dX4_setKey_130 : decode cX4_setKey 130 = .ok (.goto (-49), 3) := by decide +kernel
theorem dX4_setKey_133 : decode cX4_setKey 133 = .ok (.return_, 1) := by decide +kernel
theorem dX4_startKeyed_0 : decode cX4_startKeyed 0 = .ok (.aload_n 0, 1) := by decide +kernel
theorem dX4_startKeyed_1 : decode cX4_startKeyed 1 = .ok (.iload_n 1, 1) := by decide +kernel
theorem dX4_startKeyed_2 : decode cX4_startKeyed 2 = .ok (.iload_n 2, 1) := by decide +kernel
theorem dX4_startKeyed_3 : decode cX4_startKeyed 3 = .ok (.invokevirtual 149, 3) := by decide +kernel
theorem dX4_startKeyed_6 : decode cX4_startKeyed 6 = .ok (.iconst 0, 1) := by decide +kernel
theorem dX4_startKeyed_7 : decode cX4_startKeyed 7 = .ok (.istore 4, 2) := by decide +kernel
theorem dX4_startKeyed_9 : decode cX4_startKeyed 9 = .ok (.iload 4, 2) := by decide +kernel
theorem dX4_startKeyed_11 : decode cX4_startKeyed 11 = .ok (.iload_n 2, 1) := by decide +kernel
theorem dX4_startKeyed_12 : decode cX4_startKeyed 12 = .ok (.invokestatic 124, 3) := by decide +kernel
theorem dX4_startKeyed_15 : decode cX4_startKeyed 15 = .ok (.if_icmp .ge 23, 3) := by decide +kernel
theorem dX4_startKeyed_18 : decode cX4_startKeyed 18 = .ok (.aload_n 0, 1) := by decide +kernel
theorem dX4_startKeyed_19 : decode cX4_startKeyed 19 = .ok (.iload_n 1, 1) := by decide +kernel
theorem dX4_startKeyed_20 : decode cX4_startKeyed 20 = .ok (.aload_n 0, 1) := by decide +kernel
theorem dX4_startKeyed_21 : decode cX4_startKeyed 21 = .ok (.getfield 51, 3) := by decide +kernel
theorem dX4_startKeyed_24 : decode cX4_startKeyed 24 = .ok (.iload 4, 2) := by decide +kernel
theorem dX4_startKeyed_26 : decode cX4_startKeyed 26 = .ok (.iaload, 1) := by decide +kernel
theorem dX4_startKeyed_27 : decode cX4_startKeyed 27 = .ok (.iload_n 3, 1) := by decide +kernel
theorem dX4_startKeyed_28 : decode cX4_startKeyed 28 = .ok (.ixor, 1) := by decide +kernel
theorem dX4_startKeyed_29 : decode cX4_startKeyed 29 = .ok (.invokevirtual 137, 3) := by decide +kernel
theorem dX4_startKeyed_32 : decode cX4_startKeyed 32 = .ok (.iinc 4 1, 3) := by decide +kernel
theorem dX4_startKeyed_35 : decode cX4_startKeyed 35 = .ok (.goto (-26), 3) := by decide +kernel
theorem dX4_startKeyed_38 : decode cX4_startKeyed 38 = .ok (.return_, 1) := by decide +kernel
theorem dX4_prepare_0 : decode cX4_prepare 0 = .ok (.aload_n 0, 1) := by decide +kernel
theorem dX4_prepare_1 : decode cX4_prepare 1 = .ok (.iload_n 1, 1) := by decide +kernel
theorem dX4_prepare_2 : decode cX4_prepare 2 = .ok (.invokevirtual 155, 3) := by decide +kernel
theorem dX4_prepare_5 : decode cX4_prepare 5 = .ok (.aload_n 0, 1) := by decide +kernel
theorem dX4_prepare_6 : decode cX4_prepare 6 = .ok (.bipush 7, 2) := by decide +kernel
theorem dX4_prepare_8 : decode cX4_prepare 8 = .ok (.iload_n 1, 1) := by decide +kernel
theorem dX4_prepare_9 : decode cX4_prepare 9 = .ok (.bipush 54, 2) := by decide +kernel
theorem dX4_prepare_11 : decode cX4_prepare 11 = .ok (.invokevirtual 158, 3) := by decide +kernel
theorem dX4_prepare_14 : decode cX4_prepare 14 = .ok (.aload_n 0, 1) := by decide +kernel
theorem dX4_prepare_15 : decode cX4_prepare 15 = .ok (.bipush 8, 2) := by decide +kernel
theorem dX4_prepare_17 : decode cX4_prepare 17 = .ok (.iload_n 1, 1) := by decide +kernel
theorem dX4_prepare_18 : decode cX4_prepare 18 = .ok (.bipush 92, 2) := by decide +kernel
theorem dX4_prepare_20 : decode cX4_prepare 20 = .ok (.invokevirtual 158, 3) := by decide +kernel
theorem dX4_prepare_23 : decode cX4_prepare 23 = .ok (.return_, 1) := by decide +kernel
theorem dX4_absorbDigest_0 : decode cX4_absorbDigest 0 = .ok (.iconst 0, 1) := by decide +kernel
theorem dX4_absorbDigest_1 : decode cX4_absorbDigest 1 = .ok (.istore_n 2, 1) := by decide +kernel
theorem dX4_absorbDigest_2 : decode cX4_absorbDigest 2 = .ok (.iload_n 2, 1) := by decide +kernel
theorem dX4_absorbDigest_3 : decode cX4_absorbDigest 3 = .ok (.aload_n 0, 1) := by decide +kernel
theorem dX4_absorbDigest_4 : decode cX4_absorbDigest 4 = .ok (.getfield 20, 3) := by decide +kernel
theorem dX4_absorbDigest_7 : decode cX4_absorbDigest 7 = .ok (.iload_n 1, 1) := by decide +kernel
theorem dX4_absorbDigest_8 : decode cX4_absorbDigest 8 = .ok (.iaload, 1) := by decide +kernel
theorem dX4_absorbDigest_9 : decode cX4_absorbDigest 9 = .ok (.invokestatic 143, 3) := by decide +kernel
theorem dX4_absorbDigest_12 : decode cX4_absorbDigest 12 = .ok (.if_icmp .ge 20, 3) := by decide +kernel
theorem dX4_absorbDigest_15 : decode cX4_absorbDigest 15 = .ok (.aload_n 0, 1) := by decide +kernel
theorem dX4_absorbDigest_16 : decode cX4_absorbDigest 16 = .ok (.iload_n 1, 1) := by decide +kernel
theorem dX4_absorbDigest_17 : decode cX4_absorbDigest 17 = .ok (.aload_n 0, 1) := by decide +kernel
theorem dX4_absorbDigest_18 : decode cX4_absorbDigest 18 = .ok (.getfield 54, 3) := by decide +kernel
theorem dX4_absorbDigest_21 : decode cX4_absorbDigest 21 = .ok (.iload_n 2, 1) := by decide +kernel
theorem dX4_absorbDigest_22 : decode cX4_absorbDigest 22 = .ok (.iaload, 1) := by decide +kernel
theorem dX4_absorbDigest_23 : decode cX4_absorbDigest 23 = .ok (.invokevirtual 137, 3) := by decide +kernel
theorem dX4_absorbDigest_26 : decode cX4_absorbDigest 26 = .ok (.iinc 2 1, 3) := by decide +kernel
theorem dX4_absorbDigest_29 : decode cX4_absorbDigest 29 = .ok (.goto (-27), 3) := by decide +kernel
theorem dX4_absorbDigest_32 : decode cX4_absorbDigest 32 = .ok (.return_, 1) := by decide +kernel
theorem dX4_closeCode_0 : decode cX4_closeCode 0 = .ok (.aload_n 0, 1) := by decide +kernel
theorem dX4_closeCode_1 : decode cX4_closeCode 1 = .ok (.iconst 4, 1) := by decide +kernel
theorem dX4_closeCode_2 : decode cX4_closeCode 2 = .ok (.invokevirtual 152, 3) := by decide +kernel
theorem dX4_closeCode_5 : decode cX4_closeCode 5 = .ok (.aload_n 0, 1) := by decide +kernel
theorem dX4_closeCode_6 : decode cX4_closeCode 6 = .ok (.iconst 5, 1) := by decide +kernel
theorem dX4_closeCode_7 : decode cX4_closeCode 7 = .ok (.bipush 8, 2) := by decide +kernel
theorem dX4_closeCode_9 : decode cX4_closeCode 9 = .ok (.invokevirtual 162, 3) := by decide +kernel
theorem dX4_closeCode_12 : decode cX4_closeCode 12 = .ok (.aload_n 0, 1) := by decide +kernel
theorem dX4_closeCode_13 : decode cX4_closeCode 13 = .ok (.iconst 5, 1) := by decide +kernel
theorem dX4_closeCode_14 : decode cX4_closeCode 14 = .ok (.invokevirtual 165, 3) := by decide +kernel
theorem dX4_closeCode_17 : decode cX4_closeCode 17 = .ok (.aload_n 0, 1) := by decide +kernel
theorem dX4_closeCode_18 : decode cX4_closeCode 18 = .ok (.iconst 5, 1) := by decide +kernel
theorem dX4_closeCode_19 : decode cX4_closeCode 19 = .ok (.invokevirtual 152, 3) := by decide +kernel
theorem dX4_closeCode_22 : decode cX4_closeCode 22 = .ok (.return_, 1) := by decide +kernel
theorem dX4_takeRegister_0 : decode cX4_takeRegister 0 = .ok (.aload_n 0, 1) := by decide +kernel
theorem dX4_takeRegister_1 : decode cX4_takeRegister 1 = .ok (.aload_n 0, 1) := by decide +kernel
theorem dX4_takeRegister_2 : decode cX4_takeRegister 2 = .ok (.getfield 63, 3) := by decide +kernel
theorem dX4_takeRegister_5 : decode cX4_takeRegister 5 = .ok (.iload_n 1, 1) := by decide +kernel
theorem dX4_takeRegister_6 : decode cX4_takeRegister 6 = .ok (.iaload, 1) := by decide +kernel
theorem dX4_takeRegister_7 : decode cX4_takeRegister 7 = .ok (.putfield 146, 3) := by decide +kernel
theorem dX4_takeRegister_10 : decode cX4_takeRegister 10 = .ok (.iconst 0, 1) := by decide +kernel
theorem dX4_takeRegister_11 : decode cX4_takeRegister 11 = .ok (.istore_n 2, 1) := by decide +kernel
theorem dX4_takeRegister_12 : decode cX4_takeRegister 12 = .ok (.iload_n 2, 1) := by decide +kernel
theorem dX4_takeRegister_13 : decode cX4_takeRegister 13 = .ok (.aload_n 0, 1) := by decide +kernel
theorem dX4_takeRegister_14 : decode cX4_takeRegister 14 = .ok (.getfield 146, 3) := by decide +kernel
theorem dX4_takeRegister_17 : decode cX4_takeRegister 17 = .ok (.if_icmp .ge 27, 3) := by decide +kernel
theorem dX4_takeRegister_20 : decode cX4_takeRegister 20 = .ok (.aload_n 0, 1) := by decide +kernel
theorem dX4_takeRegister_21 : decode cX4_takeRegister 21 = .ok (.getfield 81, 3) := by decide +kernel
theorem dX4_takeRegister_24 : decode cX4_takeRegister 24 = .ok (.iload_n 2, 1) := by decide +kernel
theorem dX4_takeRegister_25 : decode cX4_takeRegister 25 = .ok (.aload_n 0, 1) := by decide +kernel
theorem dX4_takeRegister_26 : decode cX4_takeRegister 26 = .ok (.getfield 60, 3) := by decide +kernel
theorem dX4_takeRegister_29 : decode cX4_takeRegister 29 = .ok (.sipush 600, 3) := by decide +kernel
theorem dX4_takeRegister_32 : decode cX4_takeRegister 32 = .ok (.iload_n 1, 1) := by decide +kernel
theorem dX4_takeRegister_33 : decode cX4_takeRegister 33 = .ok (.imul, 1) := by decide +kernel
theorem dX4_takeRegister_34 : decode cX4_takeRegister 34 = .ok (.iload_n 2, 1) := by decide +kernel
theorem dX4_takeRegister_35 : decode cX4_takeRegister 35 = .ok (.iadd, 1) := by decide +kernel
theorem dX4_takeRegister_36 : decode cX4_takeRegister 36 = .ok (.iaload, 1) := by decide +kernel
theorem dX4_takeRegister_37 : decode cX4_takeRegister 37 = .ok (.iastore, 1) := by decide +kernel
theorem dX4_takeRegister_38 : decode cX4_takeRegister 38 = .ok (.iinc 2 1, 3) := by decide +kernel
theorem dX4_takeRegister_41 : decode cX4_takeRegister 41 = .ok (.goto (-29), 3) := by decide +kernel
theorem dX4_takeRegister_44 : decode cX4_takeRegister 44 = .ok (.return_, 1) := by decide +kernel
theorem dX4_absorbRegister_0 : decode cX4_absorbRegister 0 = .ok (.iconst 0, 1) := by decide +kernel
theorem dX4_absorbRegister_1 : decode cX4_absorbRegister 1 = .ok (.istore_n 3, 1) := by decide +kernel
theorem dX4_absorbRegister_2 : decode cX4_absorbRegister 2 = .ok (.iload_n 3, 1) := by decide +kernel
theorem dX4_absorbRegister_3 : decode cX4_absorbRegister 3 = .ok (.aload_n 0, 1) := by decide +kernel
theorem dX4_absorbRegister_4 : decode cX4_absorbRegister 4 = .ok (.getfield 63, 3) := by decide +kernel
theorem dX4_absorbRegister_7 : decode cX4_absorbRegister 7 = .ok (.iload_n 2, 1) := by decide +kernel
theorem dX4_absorbRegister_8 : decode cX4_absorbRegister 8 = .ok (.iaload, 1) := by decide +kernel
theorem dX4_absorbRegister_9 : decode cX4_absorbRegister 9 = .ok (.if_icmp .ge 26, 3) := by decide +kernel
theorem dX4_absorbRegister_12 : decode cX4_absorbRegister 12 = .ok (.aload_n 0, 1) := by decide +kernel
theorem dX4_absorbRegister_13 : decode cX4_absorbRegister 13 = .ok (.iload_n 1, 1) := by decide +kernel
theorem dX4_absorbRegister_14 : decode cX4_absorbRegister 14 = .ok (.aload_n 0, 1) := by decide +kernel
theorem dX4_absorbRegister_15 : decode cX4_absorbRegister 15 = .ok (.getfield 60, 3) := by decide +kernel
theorem dX4_absorbRegister_18 : decode cX4_absorbRegister 18 = .ok (.sipush 600, 3) := by decide +kernel
theorem dX4_absorbRegister_21 : decode cX4_absorbRegister 21 = .ok (.iload_n 2, 1) := by decide +kernel
theorem dX4_absorbRegister_22 : decode cX4_absorbRegister 22 = .ok (.imul, 1) := by decide +kernel
theorem dX4_absorbRegister_23 : decode cX4_absorbRegister 23 = .ok (.iload_n 3, 1) := by decide +kernel
theorem dX4_absorbRegister_24 : decode cX4_absorbRegister 24 = .ok (.iadd, 1) := by decide +kernel
theorem dX4_absorbRegister_25 : decode cX4_absorbRegister 25 = .ok (.iaload, 1) := by decide +kernel
theorem dX4_absorbRegister_26 : decode cX4_absorbRegister 26 = .ok (.invokevirtual 137, 3) := by decide +kernel
theorem dX4_absorbRegister_29 : decode cX4_absorbRegister 29 = .ok (.iinc 3 1, 3) := by decide +kernel
theorem dX4_absorbRegister_32 : decode cX4_absorbRegister 32 = .ok (.goto (-30), 3) := by decide +kernel
theorem dX4_absorbRegister_35 : decode cX4_absorbRegister 35 = .ok (.return_, 1) := by decide +kernel
theorem dX4_digestOut_0 : decode cX4_digestOut 0 = .ok (.iconst 0, 1) := by decide +kernel
theorem dX4_digestOut_1 : decode cX4_digestOut 1 = .ok (.istore_n 2, 1) := by decide +kernel
theorem dX4_digestOut_2 : decode cX4_digestOut 2 = .ok (.iload_n 2, 1) := by decide +kernel
theorem dX4_digestOut_3 : decode cX4_digestOut 3 = .ok (.iload_n 1, 1) := by decide +kernel
theorem dX4_digestOut_4 : decode cX4_digestOut 4 = .ok (.if_icmp .ge 21, 3) := by decide +kernel
theorem dX4_digestOut_7 : decode cX4_digestOut 7 = .ok (.aload_n 0, 1) := by decide +kernel
theorem dX4_digestOut_8 : decode cX4_digestOut 8 = .ok (.getfield 57, 3) := by decide +kernel
theorem dX4_digestOut_11 : decode cX4_digestOut 11 = .ok (.iload_n 2, 1) := by decide +kernel
theorem dX4_digestOut_12 : decode cX4_digestOut 12 = .ok (.aload_n 0, 1) := by decide +kernel
theorem dX4_digestOut_13 : decode cX4_digestOut 13 = .ok (.getfield 54, 3) := by decide +kernel
theorem dX4_digestOut_16 : decode cX4_digestOut 16 = .ok (.iload_n 2, 1) := by decide +kernel
theorem dX4_digestOut_17 : decode cX4_digestOut 17 = .ok (.iaload, 1) := by decide +kernel
theorem dX4_digestOut_18 : decode cX4_digestOut 18 = .ok (.iastore, 1) := by decide +kernel
theorem dX4_digestOut_19 : decode cX4_digestOut 19 = .ok (.iinc 2 1, 3) := by decide +kernel
theorem dX4_digestOut_22 : decode cX4_digestOut 22 = .ok (.goto (-20), 3) := by decide +kernel
theorem dX4_digestOut_25 : decode cX4_digestOut 25 = .ok (.aload_n 0, 1) := by decide +kernel
theorem dX4_digestOut_26 : decode cX4_digestOut 26 = .ok (.iload_n 1, 1) := by decide +kernel
theorem dX4_digestOut_27 : decode cX4_digestOut 27 = .ok (.putfield 168, 3) := by decide +kernel
theorem dX4_digestOut_30 : decode cX4_digestOut 30 = .ok (.return_, 1) := by decide +kernel
theorem dX4_feed_0 : decode cX4_feed 0 = .ok (.aload_n 0, 1) := by decide +kernel
theorem dX4_feed_1 : decode cX4_feed 1 = .ok (.iload_n 1, 1) := by decide +kernel
theorem dX4_feed_2 : decode cX4_feed 2 = .ok (.iconst 1, 1) := by decide +kernel
theorem dX4_feed_3 : decode cX4_feed 3 = .ok (.if_icmp .lt 21, 3) := by decide +kernel
theorem dX4_feed_6 : decode cX4_feed 6 = .ok (.iload_n 1, 1) := by decide +kernel
theorem dX4_feed_7 : decode cX4_feed 7 = .ok (.bipush 8, 2) := by decide +kernel
theorem dX4_feed_9 : decode cX4_feed 9 = .ok (.if_icmp .gt 15, 3) := by decide +kernel
theorem dX4_feed_12 : decode cX4_feed 12 = .ok (.aload_n 0, 1) := by decide +kernel
theorem dX4_feed_13 : decode cX4_feed 13 = .ok (.getfield 171, 3) := by decide +kernel
theorem dX4_feed_16 : decode cX4_feed 16 = .ok (.iload_n 1, 1) := by decide +kernel
theorem dX4_feed_17 : decode cX4_feed 17 = .ok (.iadd, 1) := by decide +kernel
theorem dX4_feed_18 : decode cX4_feed 18 = .ok (.sipush 600, 3) := by decide +kernel
theorem dX4_feed_21 : decode cX4_feed 21 = .ok (.if_icmp .le 7, 3) := by decide +kernel
theorem dX4_feed_24 : decode cX4_feed 24 = .ok (.iconst 1, 1) := by decide +kernel
theorem dX4_feed_25 : decode cX4_feed 25 = .ok (.goto 4, 3) := by decide +kernel
theorem dX4_feed_28 : decode cX4_feed 28 = .ok (.iconst 0, 1) := by decide +kernel
theorem dX4_feed_29 : decode cX4_feed 29 = .ok (.putfield 95, 3) := by decide +kernel
theorem dX4_feed_32 : decode cX4_feed 32 = .ok (.aload_n 0, 1) := by decide +kernel
theorem dX4_feed_33 : decode cX4_feed 33 = .ok (.getfield 95, 3) := by decide +kernel
theorem dX4_feed_36 : decode cX4_feed 36 = .ok (.ifCond .le 5, 3) := by decide +kernel
theorem dX4_feed_39 : decode cX4_feed 39 = .ok (.iconst 0, 1) := by decide +kernel
theorem dX4_feed_40 : decode cX4_feed 40 = .ok (.ireturn, 1) := by decide +kernel
theorem dX4_feed_41 : decode cX4_feed 41 = .ok (.iconst 0, 1) := by decide +kernel
theorem dX4_feed_42 : decode cX4_feed 42 = .ok (.istore 4, 2) := by decide +kernel
theorem dX4_feed_44 : decode cX4_feed 44 = .ok (.iload 4, 2) := by decide +kernel
theorem dX4_feed_46 : decode cX4_feed 46 = .ok (.iload_n 1, 1) := by decide +kernel
theorem dX4_feed_47 : decode cX4_feed 47 = .ok (.if_icmp .ge 33, 3) := by decide +kernel
theorem dX4_feed_50 : decode cX4_feed 50 = .ok (.aload_n 0, 1) := by decide +kernel
theorem dX4_feed_51 : decode cX4_feed 51 = .ok (.getfield 7, 3) := by decide +kernel
theorem dX4_feed_54 : decode cX4_feed 54 = .ok (.aload_n 0, 1) := by decide +kernel
theorem dX4_feed_55 : decode cX4_feed 55 = .ok (.getfield 171, 3) := by decide +kernel
theorem dX4_feed_58 : decode cX4_feed 58 = .ok (.iload 4, 2) := by decide +kernel
theorem dX4_feed_60 : decode cX4_feed 60 = .ok (.iadd, 1) := by decide +kernel
theorem dX4_feed_61 : decode cX4_feed 61 = .ok (.lload_n 2, 1) := by decide +kernel
theorem dX4_feed_62 : decode cX4_feed 62 = .ok (.bipush 8, 2) := by decide +kernel
theorem dX4_feed_64 : decode cX4_feed 64 = .ok (.iload 4, 2) := by decide +kernel
theorem dX4_feed_66 : decode cX4_feed 66 = .ok (.imul, 1) := by decide +kernel
theorem dX4_feed_67 : decode cX4_feed 67 = .ok (.lshr, 1) := by decide +kernel
theorem dX4_feed_68 : decode cX4_feed 68 = .ok (.ldc2_w 141, 3) := by decide +kernel
theorem dX4_feed_71 : decode cX4_feed 71 = .ok (.land, 1) := by decide +kernel
theorem dX4_feed_72 : decode cX4_feed 72 = .ok (.l2i, 1) := by decide +kernel
theorem dX4_feed_73 : decode cX4_feed 73 = .ok (.iastore, 1) := by decide +kernel
theorem dX4_feed_74 : decode cX4_feed 74 = .ok (.iinc 4 1, 3) := by decide +kernel
theorem dX4_feed_77 : decode cX4_feed 77 = .ok (.goto (-33), 3) := by decide +kernel
theorem dX4_feed_80 : decode cX4_feed 80 = .ok (.aload_n 0, 1) := by decide +kernel
theorem dX4_feed_81 : decode cX4_feed 81 = .ok (.dup, 1) := by decide +kernel
theorem dX4_feed_82 : decode cX4_feed 82 = .ok (.getfield 171, 3) := by decide +kernel
theorem dX4_feed_85 : decode cX4_feed 85 = .ok (.iload_n 1, 1) := by decide +kernel
theorem dX4_feed_86 : decode cX4_feed 86 = .ok (.iadd, 1) := by decide +kernel
theorem dX4_feed_87 : decode cX4_feed 87 = .ok (.putfield 171, 3) := by decide +kernel
theorem dX4_feed_90 : decode cX4_feed 90 = .ok (.aload_n 0, 1) := by decide +kernel
theorem dX4_feed_91 : decode cX4_feed 91 = .ok (.getfield 171, 3) := by decide +kernel
theorem dX4_feed_94 : decode cX4_feed 94 = .ok (.ireturn, 1) := by decide +kernel
theorem dX4_noStream_0 : decode cX4_noStream 0 = .ok (.iload_n 0, 1) := by decide +kernel
theorem dX4_noStream_1 : decode cX4_noStream 1 = .ok (.ifCond .lt 8, 3) := by decide +kernel
theorem dX4_noStream_4 : decode cX4_noStream 4 = .ok (.iload_n 0, 1) := by decide +kernel
theorem dX4_noStream_5 : decode cX4_noStream 5 = .ok (.iconst 4, 1) := by decide +kernel
theorem dX4_noStream_6 : decode cX4_noStream 6 = .ok (.if_icmp .lt 7, 3) := by decide +kernel
theorem dX4_noStream_9 : decode cX4_noStream 9 = .ok (.iconst 1, 1) := by decide +kernel
theorem dX4_noStream_10 : decode cX4_noStream 10 = .ok (.goto 4, 3) := by decide +kernel
theorem dX4_noStream_13 : decode cX4_noStream 13 = .ok (.iconst 0, 1) := by decide +kernel
theorem dX4_noStream_14 : decode cX4_noStream 14 = .ok (.ireturn, 1) := by decide +kernel
theorem dX4_noKind_0 : decode cX4_noKind 0 = .ok (.iload_n 0, 1) := by decide +kernel
theorem dX4_noKind_1 : decode cX4_noKind 1 = .ok (.ifCond .lt 8, 3) := by decide +kernel
theorem dX4_noKind_4 : decode cX4_noKind 4 = .ok (.iload_n 0, 1) := by decide +kernel
theorem dX4_noKind_5 : decode cX4_noKind 5 = .ok (.iconst 3, 1) := by decide +kernel
theorem dX4_noKind_6 : decode cX4_noKind 6 = .ok (.if_icmp .le 7, 3) := by decide +kernel
theorem dX4_noKind_9 : decode cX4_noKind 9 = .ok (.iconst 1, 1) := by decide +kernel
theorem dX4_noKind_10 : decode cX4_noKind 10 = .ok (.goto 4, 3) := by decide +kernel
theorem dX4_noKind_13 : decode cX4_noKind 13 = .ok (.iconst 0, 1) := by decide +kernel
theorem dX4_noKind_14 : decode cX4_noKind 14 = .ok (.ireturn, 1) := by decide +kernel
theorem dX4_begin_0 : decode cX4_begin 0 = .ok (.aload_n 0, 1) := by decide +kernel
theorem dX4_begin_1 : decode cX4_begin 1 = .ok (.iload_n 1, 1) := by decide +kernel
theorem dX4_begin_2 : decode cX4_begin 2 = .ok (.invokestatic 174, 3) := by decide +kernel
theorem dX4_begin_5 : decode cX4_begin 5 = .ok (.ifCond .eq 7, 3) := by decide +kernel
theorem dX4_begin_8 : decode cX4_begin 8 = .ok (.iconst 1, 1) := by decide +kernel
theorem dX4_begin_9 : decode cX4_begin 9 = .ok (.goto 15, 3) := by decide +kernel
theorem dX4_begin_12 : decode cX4_begin 12 = .ok (.iload_n 2, 1) := by decide +kernel
theorem dX4_begin_13 : decode cX4_begin 13 = .ok (.invokestatic 177, 3) := by decide +kernel
theorem dX4_begin_16 : decode cX4_begin 16 = .ok (.ifCond .eq 7, 3) := by decide +kernel
theorem dX4_begin_19 : decode cX4_begin 19 = .ok (.iconst 2, 1) := by decide +kernel
theorem dX4_begin_20 : decode cX4_begin 20 = .ok (.goto 4, 3) := by decide +kernel
theorem dX4_begin_23 : decode cX4_begin 23 = .ok (.iconst 0, 1) := by decide +kernel
theorem dX4_begin_24 : decode cX4_begin 24 = .ok (.putfield 95, 3) := by decide +kernel
theorem dX4_begin_27 : decode cX4_begin 27 = .ok (.aload_n 0, 1) := by decide +kernel
theorem dX4_begin_28 : decode cX4_begin 28 = .ok (.getfield 95, 3) := by decide +kernel
theorem dX4_begin_31 : decode cX4_begin 31 = .ok (.ifCond .ne 37, 3) := by decide +kernel
theorem dX4_begin_34 : decode cX4_begin 34 = .ok (.aload_n 0, 1) := by decide +kernel
theorem dX4_begin_35 : decode cX4_begin 35 = .ok (.iload_n 1, 1) := by decide +kernel
theorem dX4_begin_36 : decode cX4_begin 36 = .ok (.iload_n 2, 1) := by decide +kernel
theorem dX4_begin_37 : decode cX4_begin 37 = .ok (.invokevirtual 149, 3) := by decide +kernel
theorem dX4_begin_40 : decode cX4_begin 40 = .ok (.aload_n 0, 1) := by decide +kernel
theorem dX4_begin_41 : decode cX4_begin 41 = .ok (.getfield 35, 3) := by decide +kernel
theorem dX4_begin_44 : decode cX4_begin 44 = .ok (.iload_n 1, 1) := by decide +kernel
theorem dX4_begin_45 : decode cX4_begin 45 = .ok (.iconst 1, 1) := by decide +kernel
theorem dX4_begin_46 : decode cX4_begin 46 = .ok (.bastore, 1) := by decide +kernel
theorem dX4_begin_47 : decode cX4_begin 47 = .ok (.aload_n 0, 1) := by decide +kernel
theorem dX4_begin_48 : decode cX4_begin 48 = .ok (.getfield 39, 3) := by decide +kernel
theorem dX4_begin_51 : decode cX4_begin 51 = .ok (.iload_n 1, 1) := by decide +kernel
theorem dX4_begin_52 : decode cX4_begin 52 = .ok (.iconst 0, 1) := by decide +kernel
theorem dX4_begin_53 : decode cX4_begin 53 = .ok (.bastore, 1) := by decide +kernel
theorem dX4_begin_54 : decode cX4_begin 54 = .ok (.aload_n 0, 1) := by decide +kernel
theorem dX4_begin_55 : decode cX4_begin 55 = .ok (.getfield 42, 3) := by decide +kernel
theorem dX4_begin_58 : decode cX4_begin 58 = .ok (.iload_n 1, 1) := by decide +kernel
theorem dX4_begin_59 : decode cX4_begin 59 = .ok (.iconst 0, 1) := by decide +kernel
theorem dX4_begin_60 : decode cX4_begin 60 = .ok (.bastore, 1) := by decide +kernel
theorem dX4_begin_61 : decode cX4_begin 61 = .ok (.aload_n 0, 1) := by decide +kernel
theorem dX4_begin_62 : decode cX4_begin 62 = .ok (.getfield 45, 3) := by decide +kernel
theorem dX4_begin_65 : decode cX4_begin 65 = .ok (.iload_n 1, 1) := by decide +kernel
theorem dX4_begin_66 : decode cX4_begin 66 = .ok (.lconst 0, 1) := by decide +kernel
theorem dX4_begin_67 : decode cX4_begin 67 = .ok (.lastore, 1) := by decide +kernel
theorem dX4_begin_68 : decode cX4_begin 68 = .ok (.return_, 1) := by decide +kernel
theorem dX4_code_0 : decode cX4_code 0 = .ok (.aload_n 0, 1) := by decide +kernel
theorem dX4_code_1 : decode cX4_code 1 = .ok (.iload_n 1, 1) := by decide +kernel
theorem dX4_code_2 : decode cX4_code 2 = .ok (.invokestatic 174, 3) := by decide +kernel
theorem dX4_code_5 : decode cX4_code 5 = .ok (.ifCond .eq 7, 3) := by decide +kernel
theorem dX4_code_8 : decode cX4_code 8 = .ok (.iconst 1, 1) := by decide +kernel
theorem dX4_code_9 : decode cX4_code 9 = .ok (.goto 15, 3) := by decide +kernel
theorem dX4_code_12 : decode cX4_code 12 = .ok (.iload_n 2, 1) := by decide +kernel
theorem dX4_code_13 : decode cX4_code 13 = .ok (.invokestatic 177, 3) := by decide +kernel
theorem dX4_code_16 : decode cX4_code 16 = .ok (.ifCond .eq 7, 3) := by decide +kernel
theorem dX4_code_19 : decode cX4_code 19 = .ok (.iconst 2, 1) := by decide +kernel
theorem dX4_code_20 : decode cX4_code 20 = .ok (.goto 4, 3) := by decide +kernel
theorem dX4_code_23 : decode cX4_code 23 = .ok (.iconst 0, 1) := by decide +kernel
theorem dX4_code_24 : decode cX4_code 24 = .ok (.putfield 95, 3) := by decide +kernel
theorem dX4_code_27 : decode cX4_code 27 = .ok (.aload_n 0, 1) := by decide +kernel
theorem dX4_code_28 : decode cX4_code 28 = .ok (.getfield 95, 3) := by decide +kernel
theorem dX4_code_31 : decode cX4_code 31 = .ok (.ifCond .le 5, 3) := by decide +kernel
theorem dX4_code_34 : decode cX4_code 34 = .ok (.iconst 0, 1) := by decide +kernel
theorem dX4_code_35 : decode cX4_code 35 = .ok (.ireturn, 1) := by decide +kernel
theorem dX4_code_36 : decode cX4_code 36 = .ok (.aload_n 0, 1) := by decide +kernel
theorem dX4_code_37 : decode cX4_code 37 = .ok (.aload_n 0, 1) := by decide +kernel
theorem dX4_code_38 : decode cX4_code 38 = .ok (.getfield 171, 3) := by decide +kernel
theorem dX4_code_41 : decode cX4_code 41 = .ok (.putfield 146, 3) := by decide +kernel
theorem dX4_code_44 : decode cX4_code 44 = .ok (.iconst 0, 1) := by decide +kernel
theorem dX4_code_45 : decode cX4_code 45 = .ok (.istore_n 3, 1) := by decide +kernel
theorem dX4_code_46 : decode cX4_code 46 = .ok (.iload_n 3, 1) := by decide +kernel
theorem dX4_code_47 : decode cX4_code 47 = .ok (.aload_n 0, 1) := by decide +kernel
theorem dX4_code_48 : decode cX4_code 48 = .ok (.getfield 171, 3) := by decide +kernel
theorem dX4_code_51 : decode cX4_code 51 = .ok (.if_icmp .ge 21, 3) := by decide +kernel
theorem dX4_code_54 : decode cX4_code 54 = .ok (.aload_n 0, 1) := by decide +kernel
theorem dX4_code_55 : decode cX4_code 55 = .ok (.getfield 81, 3) := by decide +kernel
theorem dX4_code_58 : decode cX4_code 58 = .ok (.iload_n 3, 1) := by decide +kernel
theorem dX4_code_59 : decode cX4_code 59 = .ok (.aload_n 0, 1) := by decide +kernel
theorem dX4_code_60 : decode cX4_code 60 = .ok (.getfield 7, 3) := by decide +kernel
theorem dX4_code_63 : decode cX4_code 63 = .ok (.iload_n 3, 1) := by decide +kernel
theorem dX4_code_64 : decode cX4_code 64 = .ok (.iaload, 1) := by decide +kernel
theorem dX4_code_65 : decode cX4_code 65 = .ok (.iastore, 1) := by decide +kernel
theorem dX4_code_66 : decode cX4_code 66 = .ok (.iinc 3 1, 3) := by decide +kernel
theorem dX4_code_69 : decode cX4_code 69 = .ok (.goto (-23), 3) := by decide +kernel
theorem dX4_code_72 : decode cX4_code 72 = .ok (.aload_n 0, 1) := by decide +kernel
theorem dX4_code_73 : decode cX4_code 73 = .ok (.iconst 0, 1) := by decide +kernel
theorem dX4_code_74 : decode cX4_code 74 = .ok (.putfield 171, 3) := by decide +kernel
theorem dX4_code_77 : decode cX4_code 77 = .ok (.aload_n 0, 1) := by decide +kernel
theorem dX4_code_78 : decode cX4_code 78 = .ok (.iload_n 2, 1) := by decide +kernel
theorem dX4_code_79 : decode cX4_code 79 = .ok (.invokevirtual 155, 3) := by decide +kernel
theorem dX4_code_82 : decode cX4_code 82 = .ok (.iconst 0, 1) := by decide +kernel
theorem dX4_code_83 : decode cX4_code 83 = .ok (.istore_n 3, 1) := by decide +kernel
theorem dX4_code_84 : decode cX4_code 84 = .ok (.iload_n 3, 1) := by decide +kernel
theorem dX4_code_85 : decode cX4_code 85 = .ok (.sipush 128, 3) := by decide +kernel
theorem dX4_code_88 : decode cX4_code 88 = .ok (.if_icmp .ge 27, 3) := by decide +kernel
theorem dX4_code_91 : decode cX4_code 91 = .ok (.aload_n 0, 1) := by decide +kernel
theorem dX4_code_92 : decode cX4_code 92 = .ok (.getfield 48, 3) := by decide +kernel
theorem dX4_code_95 : decode cX4_code 95 = .ok (.sipush 128, 3) := by decide +kernel
theorem dX4_code_98 : decode cX4_code 98 = .ok (.iload_n 1, 1) := by decide +kernel
theorem dX4_code_99 : decode cX4_code 99 = .ok (.imul, 1) := by decide +kernel
theorem dX4_code_100 : decode cX4_code 100 = .ok (.iload_n 3, 1) := by decide +kernel
theorem dX4_code_101 : decode cX4_code 101 = .ok (.iadd, 1) := by decide +kernel
theorem dX4_code_102 : decode cX4_code 102 = .ok (.aload_n 0, 1) := by decide +kernel
theorem dX4_code_103 : decode cX4_code 103 = .ok (.getfield 51, 3) := by decide +kernel
theorem dX4_code_106 : decode cX4_code 106 = .ok (.iload_n 3, 1) := by decide +kernel
theorem dX4_code_107 : decode cX4_code 107 = .ok (.iaload, 1) := by decide +kernel
theorem dX4_code_108 : decode cX4_code 108 = .ok (.iastore, 1) := by decide +kernel
theorem dX4_code_109 : decode cX4_code 109 = .ok (.iinc 3 1, 3) := by decide +kernel
theorem dX4_code_112 : decode cX4_code 112 = .ok (.goto (-28), 3) := by decide +kernel
theorem dX4_code_115 : decode cX4_code 115 = .ok (.aload_n 0, 1) := by decide +kernel
