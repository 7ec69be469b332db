theorem dX5_init_0 : decode cX5_init 0 = .ok (.aload_n 0, 1) := by decide +kernel
theorem dX5_init_1 : decode cX5_init 1 = .ok (.invokespecial 1, 3) := by decide +kernel
theorem dX5_init_4 : decode cX5_init 4 = .ok (.aload_n 0, 1) := by decide +kernel
theorem dX5_init_5 : decode cX5_init 5 = .ok (.sipush 800, 3) := by decide +kernel
theorem dX5_init_8 : decode cX5_init 8 = .ok (.newarray .int, 2) := by decide +kernel
theorem dX5_init_10 : decode cX5_init 10 = .ok (.putfield 7, 3) := by decide +kernel
theorem dX5_init_13 : decode cX5_init 13 = .ok (.aload_n 0, 1) := by decide +kernel
theorem dX5_init_14 : decode cX5_init 14 = .ok (.iconst 4, 1) := by decide +kernel
theorem dX5_init_15 : decode cX5_init 15 = .ok (.newarray .int, 2) := by decide +kernel
theorem dX5_init_17 : decode cX5_init 17 = .ok (.putfield 13, 3) := by decide +kernel
theorem dX5_init_20 : decode cX5_init 20 = .ok (.aload_n 0, 1) := by decide +kernel
theorem dX5_init_21 : decode cX5_init 21 = .ok (.sipush 1600, 3) := by decide +kernel
theorem dX5_init_24 : decode cX5_init 24 = .ok (.newarray .int, 2) := by decide +kernel
theorem dX5_init_26 : decode cX5_init 26 = .ok (.putfield 16, 3) := by decide +kernel
theorem dX5_init_29 : decode cX5_init 29 = .ok (.aload_n 0, 1) := by decide +kernel
theorem dX5_init_30 : decode cX5_init 30 = .ok (.bipush 8, 2) := by decide +kernel
theorem dX5_init_32 : decode cX5_init 32 = .ok (.newarray .int, 2) := by decide +kernel
theorem dX5_init_34 : decode cX5_init 34 = .ok (.putfield 19, 3) := by decide +kernel
theorem dX5_init_37 : decode cX5_init 37 = .ok (.aload_n 0, 1) := by decide +kernel
theorem dX5_init_38 : decode cX5_init 38 = .ok (.sipush 220, 3) := by decide +kernel
theorem dX5_init_41 : decode cX5_init 41 = .ok (.newarray .int, 2) := by decide +kernel
theorem dX5_init_43 : decode cX5_init 43 = .ok (.putfield 22, 3) := by decide +kernel
theorem dX5_init_46 : decode cX5_init 46 = .ok (.aload_n 0, 1) := by decide +kernel
theorem dX5_init_47 : decode cX5_init 47 = .ok (.bipush 24, 2) := by decide +kernel
theorem dX5_init_49 : decode cX5_init 49 = .ok (.newarray .int, 2) := by decide +kernel
theorem dX5_init_51 : decode cX5_init 51 = .ok (.putfield 25, 3) := by decide +kernel
theorem dX5_init_54 : decode cX5_init 54 = .ok (.aload_n 0, 1) := by decide +kernel
theorem dX5_init_55 : decode cX5_init 55 = .ok (.sipush 200, 3) := by decide +kernel
theorem dX5_init_58 : decode cX5_init 58 = .ok (.newarray .int, 2) := by decide +kernel
theorem dX5_init_60 : decode cX5_init 60 = .ok (.putfield 28, 3) := by decide +kernel
theorem dX5_init_63 : decode cX5_init 63 = .ok (.aload_n 0, 1) := by decide +kernel
theorem dX5_init_64 : decode cX5_init 64 = .ok (.sipush 202, 3) := by decide +kernel
theorem dX5_init_67 : decode cX5_init 67 = .ok (.newarray .int, 2) := by decide +kernel
theorem dX5_init_69 : decode cX5_init 69 = .ok (.putfield 31, 3) := by decide +kernel
theorem dX5_init_72 : decode cX5_init 72 = .ok (.aload_n 0, 1) := by decide +kernel
theorem dX5_init_73 : decode cX5_init 73 = .ok (.sipush 202, 3) := by decide +kernel
theorem dX5_init_76 : decode cX5_init 76 = .ok (.newarray .int, 2) := by decide +kernel
theorem dX5_init_78 : decode cX5_init 78 = .ok (.putfield 34, 3) := by decide +kernel
theorem dX5_init_81 : decode cX5_init 81 = .ok (.aload_n 0, 1) := by decide +kernel
theorem dX5_init_82 : decode cX5_init 82 = .ok (.sipush 400, 3) := by decide +kernel
theorem dX5_init_85 : decode cX5_init 85 = .ok (.newarray .int, 2) := by decide +kernel
theorem dX5_init_87 : decode cX5_init 87 = .ok (.putfield 37, 3) := by decide +kernel
theorem dX5_init_90 : decode cX5_init 90 = .ok (.aload_n 0, 1) := by decide +kernel
theorem dX5_init_91 : decode cX5_init 91 = .ok (.iconst 2, 1) := by decide +kernel
theorem dX5_init_92 : decode cX5_init 92 = .ok (.newarray .int, 2) := by decide +kernel
theorem dX5_init_94 : decode cX5_init 94 = .ok (.putfield 40, 3) := by decide +kernel
theorem dX5_init_97 : decode cX5_init 97 = .ok (.aload_n 0, 1) := by decide +kernel
theorem dX5_init_98 : decode cX5_init 98 = .ok (.sipush 512, 3) := by decide +kernel
theorem dX5_init_101 : decode cX5_init 101 = .ok (.newarray .int, 2) := by decide +kernel
theorem dX5_init_103 : decode cX5_init 103 = .ok (.putfield 43, 3) := by decide +kernel
theorem dX5_init_106 : decode cX5_init 106 = .ok (.aload_n 0, 1) := by decide +kernel
theorem dX5_init_107 : decode cX5_init 107 = .ok (.iconst 2, 1) := by decide +kernel
theorem dX5_init_108 : decode cX5_init 108 = .ok (.newarray .int, 2) := by decide +kernel
theorem dX5_init_110 : decode cX5_init 110 = .ok (.putfield 46, 3) := by decide +kernel
theorem dX5_init_113 : decode cX5_init 113 = .ok (.aload_n 0, 1) := by decide +kernel
theorem dX5_init_114 : decode cX5_init 114 = .ok (.iconst 2, 1) := by decide +kernel
theorem dX5_init_115 : decode cX5_init 115 = .ok (.newarray .int, 2) := by decide +kernel
theorem dX5_init_117 : decode cX5_init 117 = .ok (.putfield 49, 3) := by decide +kernel
theorem dX5_init_120 : decode cX5_init 120 = .ok (.iconst 0, 1) := by decide +kernel
theorem dX5_init_121 : decode cX5_init 121 = .ok (.istore_n 1, 1) := by decide +kernel
theorem dX5_init_122 : decode cX5_init 122 = .ok (.iload_n 1, 1) := by decide +kernel
theorem dX5_init_123 : decode cX5_init 123 = .ok (.bipush 8, 2) := by decide +kernel
theorem dX5_init_125 : decode cX5_init 125 = .ok (.if_icmp .ge 16, 3) := by decide +kernel
theorem dX5_init_128 : decode cX5_init 128 = .ok (.aload_n 0, 1) := by decide +kernel
theorem dX5_init_129 : decode cX5_init 129 = .ok (.getfield 19, 3) := by decide +kernel
theorem dX5_init_132 : decode cX5_init 132 = .ok (.iload_n 1, 1) := by decide +kernel
theorem dX5_init_133 : decode cX5_init 133 = .ok (.iconst (-1), 1) := by decide +kernel
theorem dX5_init_134 : decode cX5_init 134 = .ok (.iastore, 1) := by decide +kernel
theorem dX5_init_135 : decode cX5_init 135 = .ok (.iinc 1 1, 3) := by decide +kernel
theorem dX5_init_138 : decode cX5_init 138 = .ok (.goto (-16), 3) := by decide +kernel
theorem dX5_init_141 : decode cX5_init 141 = .ok (.aload_n 0, 1) := by decide +kernel
theorem dX5_init_142 : decode cX5_init 142 = .ok (.getfield 40, 3) := by decide +kernel
theorem dX5_init_145 : decode cX5_init 145 = .ok (.iconst 0, 1) := by decide +kernel
theorem dX5_init_146 : decode cX5_init 146 = .ok (.iconst (-1), 1) := by decide +kernel
theorem dX5_init_147 : decode cX5_init 147 = .ok (.iastore, 1) := by decide +kernel
theorem dX5_init_148 : decode cX5_init 148 = .ok (.aload_n 0, 1) := by decide +kernel
theorem dX5_init_149 : decode cX5_init 149 = .ok (.getfield 40, 3) := by decide +kernel
theorem dX5_init_152 : decode cX5_init 152 = .ok (.iconst 1, 1) := by decide +kernel
theorem dX5_init_153 : decode cX5_init 153 = .ok (.iconst (-1), 1) := by decide +kernel
theorem dX5_init_154 : decode cX5_init 154 = .ok (.iastore, 1) := by decide +kernel
theorem dX5_init_155 : decode cX5_init 155 = .ok (.return_, 1) := by decide +kernel
theorem dX5_in_0 : decode cX5_in 0 = .ok (.lload_n 0, 1) := by decide +kernel
theorem dX5_in_1 : decode cX5_in 1 = .ok (.lload_n 2, 1) := by decide +kernel
theorem dX5_in_2 : decode cX5_in 2 = .ok (.lcmp, 1) := by decide +kernel
theorem dX5_in_3 : decode cX5_in 3 = .ok (.ifCond .lt 14, 3) := by decide +kernel
theorem dX5_in_6 : decode cX5_in 6 = .ok (.lload_n 0, 1) := by decide +kernel
theorem dX5_in_7 : decode cX5_in 7 = .ok (.lload 4, 2) := by decide +kernel
theorem dX5_in_9 : decode cX5_in 9 = .ok (.lcmp, 1) := by decide +kernel
theorem dX5_in_10 : decode cX5_in 10 = .ok (.ifCond .gt 7, 3) := by decide +kernel
theorem dX5_in_13 : decode cX5_in 13 = .ok (.iconst 1, 1) := by decide +kernel
theorem dX5_in_14 : decode cX5_in 14 = .ok (.goto 4, 3) := by decide +kernel
theorem dX5_in_17 : decode cX5_in 17 = .ok (.iconst 0, 1) := by decide +kernel
theorem dX5_in_18 : decode cX5_in 18 = .ok (.ireturn, 1) := by decide +kernel
theorem dX5_isBuilder_0 : decode cX5_isBuilder 0 = .ok (.iload_n 0, 1) := by decide +kernel
theorem dX5_isBuilder_1 : decode cX5_isBuilder 1 = .ok (.i2l, 1) := by decide +kernel
theorem dX5_isBuilder_2 : decode cX5_isBuilder 2 = .ok (.lconst 0, 1) := by decide +kernel
theorem dX5_isBuilder_3 : decode cX5_isBuilder 3 = .ok (.ldc2_w 52, 3) := by decide +kernel
theorem dX5_isBuilder_6 : decode cX5_isBuilder 6 = .ok (.invokestatic 54, 3) := by decide +kernel
theorem dX5_isBuilder_9 : decode cX5_isBuilder 9 = .ok (.ireturn, 1) := by decide +kernel
theorem dX5_isText_0 : decode cX5_isText 0 = .ok (.iload_n 0, 1) := by decide +kernel
theorem dX5_isText_1 : decode cX5_isText 1 = .ok (.i2l, 1) := by decide +kernel
theorem dX5_isText_2 : decode cX5_isText 2 = .ok (.lconst 0, 1) := by decide +kernel
theorem dX5_isText_3 : decode cX5_isText 3 = .ok (.ldc2_w 58, 3) := by decide +kernel
theorem dX5_isText_6 : decode cX5_isText 6 = .ok (.invokestatic 54, 3) := by decide +kernel
theorem dX5_isText_9 : decode cX5_isText 9 = .ok (.ireturn, 1) := by decide +kernel
theorem dX5_isSign_0 : decode cX5_isSign 0 = .ok (.iload_n 0, 1) := by decide +kernel
theorem dX5_isSign_1 : decode cX5_isSign 1 = .ok (.i2l, 1) := by decide +kernel
theorem dX5_isSign_2 : decode cX5_isSign 2 = .ok (.lconst 0, 1) := by decide +kernel
theorem dX5_isSign_3 : decode cX5_isSign 3 = .ok (.ldc2_w 60, 3) := by decide +kernel
theorem dX5_isSign_6 : decode cX5_isSign 6 = .ok (.invokestatic 54, 3) := by decide +kernel
theorem dX5_isSign_9 : decode cX5_isSign 9 = .ok (.ireturn, 1) := by decide +kernel
theorem dX5_layText_0 : decode cX5_layText 0 = .ok (.aload_n 0, 1) := by decide +kernel
theorem dX5_layText_1 : decode cX5_layText 1 = .ok (.getfield 19, 3) := by decide +kernel
theorem dX5_layText_4 : decode cX5_layText 4 = .ok (.iload_n 1, 1) := by decide +kernel
theorem dX5_layText_5 : decode cX5_layText 5 = .ok (.iaload, 1) := by decide +kernel
theorem dX5_layText_6 : decode cX5_layText 6 = .ok (.ifCond .ge 41, 3) := by decide +kernel
theorem dX5_layText_9 : decode cX5_layText 9 = .ok (.aload_n 0, 1) := by decide +kernel
theorem dX5_layText_10 : decode cX5_layText 10 = .ok (.getfield 22, 3) := by decide +kernel
theorem dX5_layText_13 : decode cX5_layText 13 = .ok (.iconst 0, 1) := by decide +kernel
theorem dX5_layText_14 : decode cX5_layText 14 = .ok (.bipush 110, 2) := by decide +kernel
theorem dX5_layText_16 : decode cX5_layText 16 = .ok (.iastore, 1) := by decide +kernel
theorem dX5_layText_17 : decode cX5_layText 17 = .ok (.aload_n 0, 1) := by decide +kernel
theorem dX5_layText_18 : decode cX5_layText 18 = .ok (.getfield 22, 3) := by decide +kernel
theorem dX5_layText_21 : decode cX5_layText 21 = .ok (.iconst 1, 1) := by decide +kernel
theorem dX5_layText_22 : decode cX5_layText 22 = .ok (.bipush 117, 2) := by decide +kernel
theorem dX5_layText_24 : decode cX5_layText 24 = .ok (.iastore, 1) := by decide +kernel
theorem dX5_layText_25 : decode cX5_layText 25 = .ok (.aload_n 0, 1) := by decide +kernel
theorem dX5_layText_26 : decode cX5_layText 26 = .ok (.getfield 22, 3) := by decide +kernel
theorem dX5_layText_29 : decode cX5_layText 29 = .ok (.iconst 2, 1) := by decide +kernel
theorem dX5_layText_30 : decode cX5_layText 30 = .ok (.bipush 108, 2) := by decide +kernel
theorem dX5_layText_32 : decode cX5_layText 32 = .ok (.iastore, 1) := by decide +kernel
theorem dX5_layText_33 : decode cX5_layText 33 = .ok (.aload_n 0, 1) := by decide +kernel
theorem dX5_layText_34 : decode cX5_layText 34 = .ok (.getfield 22, 3) := by decide +kernel
theorem dX5_layText_37 : decode cX5_layText 37 = .ok (.iconst 3, 1) := by decide +kernel
theorem dX5_layText_38 : decode cX5_layText 38 = .ok (.bipush 108, 2) := by decide +kernel
theorem dX5_layText_40 : decode cX5_layText 40 = .ok (.iastore, 1) := by decide +kernel
theorem dX5_layText_41 : decode cX5_layText 41 = .ok (.aload_n 0, 1) := by decide +kernel
theorem dX5_layText_42 : decode cX5_layText 42 = .ok (.iconst 4, 1) := by decide +kernel
theorem dX5_layText_43 : decode cX5_layText 43 = .ok (.putfield 62, 3) := by decide +kernel
theorem dX5_layText_46 : decode cX5_layText 46 = .ok (.return_, 1) := by decide +kernel
theorem dX5_layText_47 : decode cX5_layText 47 = .ok (.aload_n 0, 1) := by decide +kernel
theorem dX5_layText_48 : decode cX5_layText 48 = .ok (.aload_n 0, 1) := by decide +kernel
theorem dX5_layText_49 : decode cX5_layText 49 = .ok (.getfield 19, 3) := by decide +kernel
theorem dX5_layText_52 : decode cX5_layText 52 = .ok (.iload_n 1, 1) := by decide +kernel
theorem dX5_layText_53 : decode cX5_layText 53 = .ok (.iaload, 1) := by decide +kernel
theorem dX5_layText_54 : decode cX5_layText 54 = .ok (.putfield 62, 3) := by decide +kernel
theorem dX5_layText_57 : decode cX5_layText 57 = .ok (.iconst 0, 1) := by decide +kernel
theorem dX5_layText_58 : decode cX5_layText 58 = .ok (.istore_n 2, 1) := by decide +kernel
theorem dX5_layText_59 : decode cX5_layText 59 = .ok (.iload_n 2, 1) := by decide +kernel
theorem dX5_layText_60 : decode cX5_layText 60 = .ok (.aload_n 0, 1) := by decide +kernel
theorem dX5_layText_61 : decode cX5_layText 61 = .ok (.getfield 62, 3) := by decide +kernel
theorem dX5_layText_64 : decode cX5_layText 64 = .ok (.if_icmp .ge 27, 3) := by decide +kernel
theorem dX5_layText_67 : decode cX5_layText 67 = .ok (.aload_n 0, 1) := by decide +kernel
theorem dX5_layText_68 : decode cX5_layText 68 = .ok (.getfield 22, 3) := by decide +kernel
theorem dX5_layText_71 : decode cX5_layText 71 = .ok (.iload_n 2, 1) := by decide +kernel
theorem dX5_layText_72 : decode cX5_layText 72 = .ok (.aload_n 0, 1) := by decide +kernel
theorem dX5_layText_73 : decode cX5_layText 73 = .ok (.getfield 16, 3) := by decide +kernel
theorem dX5_layText_76 : decode cX5_layText 76 = .ok (.sipush 200, 3) := by decide +kernel
theorem dX5_layText_79 : decode cX5_layText 79 = .ok (.iload_n 1, 1) := by decide +kernel
theorem dX5_layText_80 : decode cX5_layText 80 = .ok (.imul, 1) := by decide +kernel
theorem dX5_layText_81 : decode cX5_layText 81 = .ok (.iload_n 2, 1) := by decide +kernel
theorem dX5_layText_82 : decode cX5_layText 82 = .ok (.iadd, 1) := by decide +kernel
theorem dX5_layText_83 : decode cX5_layText 83 = .ok (.iaload, 1) := by decide +kernel
theorem dX5_layText_84 : decode cX5_layText 84 = .ok (.iastore, 1) := by decide +kernel
theorem dX5_layText_85 : decode cX5_layText 85 = .ok (.iinc 2 1, 3) := by decide +kernel
theorem dX5_layText_88 : decode cX5_layText 88 = .ok (.goto (-29), 3) := by decide +kernel
theorem dX5_layText_91 : decode cX5_layText 91 = .ok (.return_, 1) := by decide +kernel
theorem dX5_clip_0 : decode cX5_clip 0 = .ok (.iload_n 1, 1) := by decide +kernel
theorem dX5_clip_1 : decode cX5_clip 1 = .ok (.istore_n 3, 1) := by decide +kernel
theorem dX5_clip_2 : decode cX5_clip 2 = .ok (.iload_n 3, 1) := by decide +kernel
theorem dX5_clip_3 : decode cX5_clip 3 = .ok (.iload_n 2, 1) := by decide +kernel
theorem dX5_clip_4 : decode cX5_clip 4 = .ok (.if_icmp .ge 23, 3) := by decide +kernel
theorem dX5_clip_7 : decode cX5_clip 7 = .ok (.aload_n 0, 1) := by decide +kernel
theorem dX5_clip_8 : decode cX5_clip 8 = .ok (.getfield 22, 3) := by decide +kernel
theorem dX5_clip_11 : decode cX5_clip 11 = .ok (.iload_n 3, 1) := by decide +kernel
theorem dX5_clip_12 : decode cX5_clip 12 = .ok (.iload_n 1, 1) := by decide +kernel
theorem dX5_clip_13 : decode cX5_clip 13 = .ok (.isub, 1) := by decide +kernel
theorem dX5_clip_14 : decode cX5_clip 14 = .ok (.aload_n 0, 1) := by decide +kernel
theorem dX5_clip_15 : decode cX5_clip 15 = .ok (.getfield 22, 3) := by decide +kernel
theorem dX5_clip_18 : decode cX5_clip 18 = .ok (.iload_n 3, 1) := by decide +kernel
theorem dX5_clip_19 : decode cX5_clip 19 = .ok (.iaload, 1) := by decide +kernel
theorem dX5_clip_20 : decode cX5_clip 20 = .ok (.iastore, 1) := by decide +kernel
theorem dX5_clip_21 : decode cX5_clip 21 = .ok (.iinc 3 1, 3) := by decide +kernel
theorem dX5_clip_24 : decode cX5_clip 24 = .ok (.goto (-22), 3) := by decide +kernel
theorem dX5_clip_27 : decode cX5_clip 27 = .ok (.aload_n 0, 1) := by decide +kernel
theorem dX5_clip_28 : decode cX5_clip 28 = .ok (.iload_n 2, 1) := by decide +kernel
theorem dX5_clip_29 : decode cX5_clip 29 = .ok (.iload_n 1, 1) := by decide +kernel
theorem dX5_clip_30 : decode cX5_clip 30 = .ok (.isub, 1) := by decide +kernel
theorem dX5_clip_31 : decode cX5_clip 31 = .ok (.putfield 62, 3) := by decide +kernel
theorem dX5_clip_34 : decode cX5_clip 34 = .ok (.return_, 1) := by decide +kernel
theorem dX5_laySign_0 : decode cX5_laySign 0 = .ok (.aload_n 0, 1) := by decide +kernel
theorem dX5_laySign_1 : decode cX5_laySign 1 = .ok (.getfield 22, 3) := by decide +kernel
theorem dX5_laySign_4 : decode cX5_laySign 4 = .ok (.iconst 0, 1) := by decide +kernel
theorem dX5_laySign_5 : decode cX5_laySign 5 = .ok (.iload_n 1, 1) := by decide +kernel
theorem dX5_laySign_6 : decode cX5_laySign 6 = .ok (.iastore, 1) := by decide +kernel
theorem dX5_laySign_7 : decode cX5_laySign 7 = .ok (.aload_n 0, 1) := by decide +kernel
theorem dX5_laySign_8 : decode cX5_laySign 8 = .ok (.iconst 1, 1) := by decide +kernel
theorem dX5_laySign_9 : decode cX5_laySign 9 = .ok (.putfield 62, 3) := by decide +kernel
theorem dX5_laySign_12 : decode cX5_laySign 12 = .ok (.return_, 1) := by decide +kernel
theorem dX5_become_0 : decode cX5_become 0 = .ok (.aload_n 0, 1) := by decide +kernel
theorem dX5_become_1 : decode cX5_become 1 = .ok (.getfield 19, 3) := by decide +kernel
theorem dX5_become_4 : decode cX5_become 4 = .ok (.iload_n 1, 1) := by decide +kernel
theorem dX5_become_5 : decode cX5_become 5 = .ok (.aload_n 0, 1) := by decide +kernel
theorem dX5_become_6 : decode cX5_become 6 = .ok (.getfield 62, 3) := by decide +kernel
theorem dX5_become_9 : decode cX5_become 9 = .ok (.iastore, 1) := by decide +kernel
theorem dX5_become_10 : decode cX5_become 10 = .ok (.iconst 0, 1) := by decide +kernel
theorem dX5_become_11 : decode cX5_become 11 = .ok (.istore_n 2, 1) := by decide +kernel
theorem dX5_become_12 : decode cX5_become 12 = .ok (.iload_n 2, 1) := by decide +kernel
theorem dX5_become_13 : decode cX5_become 13 = .ok (.aload_n 0, 1) := by decide +kernel
theorem dX5_become_14 : decode cX5_become 14 = .ok (.getfield 62, 3) := by decide +kernel
theorem dX5_become_17 : decode cX5_become 17 = .ok (.if_icmp .ge 27, 3) := by decide +kernel
theorem dX5_become_20 : decode cX5_become 20 = .ok (.aload_n 0, 1) := by decide +kernel
theorem dX5_become_21 : decode cX5_become 21 = .ok (.getfield 16, 3) := by decide +kernel
theorem dX5_become_24 : decode cX5_become 24 = .ok (.sipush 200, 3) := by decide +kernel
theorem dX5_become_27 : decode cX5_become 27 = .ok (.iload_n 1, 1) := by decide +kernel
theorem dX5_become_28 : decode cX5_become 28 = .ok (.imul, 1) := by decide +kernel
theorem dX5_become_29 : decode cX5_become 29 = .ok (.iload_n 2, 1) := by decide +kernel
theorem dX5_become_30 : decode cX5_become 30 = .ok (.iadd, 1) := by decide +kernel
theorem dX5_become_31 : decode cX5_become 31 = .ok (.aload_n 0, 1) := by decide +kernel
theorem dX5_become_32 : decode cX5_become 32 = .ok (.getfield 22, 3) := by decide +kernel
theorem dX5_become_35 : decode cX5_become 35 = .ok (.iload_n 2, 1) := by decide +kernel
theorem dX5_become_36 : decode cX5_become 36 = .ok (.iaload, 1) := by decide +kernel
theorem dX5_become_37 : decode cX5_become 37 = .ok (.iastore, 1) := by decide +kernel
theorem dX5_become_38 : decode cX5_become 38 = .ok (.iinc 2 1, 3) := by decide +kernel
theorem dX5_become_41 : decode cX5_become 41 = .ok (.goto (-29), 3) := by decide +kernel
theorem dX5_become_44 : decode cX5_become 44 = .ok (.aload_n 0, 1) := by decide +kernel
theorem dX5_become_45 : decode cX5_become 45 = .ok (.getfield 62, 3) := by decide +kernel
theorem dX5_become_48 : decode cX5_become 48 = .ok (.ireturn, 1) := by decide +kernel
theorem dX5_edit_0 : decode cX5_edit 0 = .ok (.aload_n 0, 1) := by decide +kernel
theorem dX5_edit_1 : decode cX5_edit 1 = .ok (.getfield 13, 3) := by decide +kernel
theorem dX5_edit_4 : decode cX5_edit 4 = .ok (.iload_n 1, 1) := by decide +kernel
theorem dX5_edit_5 : decode cX5_edit 5 = .ok (.iaload, 1) := by decide +kernel
theorem dX5_edit_6 : decode cX5_edit 6 = .ok (.istore 4, 2) := by decide +kernel
theorem dX5_edit_8 : decode cX5_edit 8 = .ok (.aload_n 0, 1) := by decide +kernel
theorem dX5_edit_9 : decode cX5_edit 9 = .ok (.getfield 62, 3) := by decide +kernel
theorem dX5_edit_12 : decode cX5_edit 12 = .ok (.iload_n 3, 1) := by decide +kernel
theorem dX5_edit_13 : decode cX5_edit 13 = .ok (.iload_n 2, 1) := by decide +kernel
theorem dX5_edit_14 : decode cX5_edit 14 = .ok (.isub, 1) := by decide +kernel
theorem dX5_edit_15 : decode cX5_edit 15 = .ok (.isub, 1) := by decide +kernel
theorem dX5_edit_16 : decode cX5_edit 16 = .ok (.istore 5, 2) := by decide +kernel
theorem dX5_edit_18 : decode cX5_edit 18 = .ok (.iload 4, 2) := by decide +kernel
theorem dX5_edit_20 : decode cX5_edit 20 = .ok (.iload 5, 2) := by decide +kernel
theorem dX5_edit_22 : decode cX5_edit 22 = .ok (.iadd, 1) := by decide +kernel
theorem dX5_edit_23 : decode cX5_edit 23 = .ok (.sipush 200, 3) := by decide +kernel
theorem dX5_edit_26 : decode cX5_edit 26 = .ok (.if_icmp .le 7, 3) := by decide +kernel
theorem dX5_edit_29 : decode cX5_edit 29 = .ok (.sipush (-1007), 3) := by decide +kernel
theorem dX5_edit_32 : decode cX5_edit 32 = .ok (.ireturn, 1) := by decide +kernel
theorem dX5_edit_33 : decode cX5_edit 33 = .ok (.sipush 200, 3) := by decide +kernel
theorem dX5_edit_36 : decode cX5_edit 36 = .ok (.iload_n 1, 1) := by decide +kernel
theorem dX5_edit_37 : decode cX5_edit 37 = .ok (.imul, 1) := by decide +kernel
theorem dX5_edit_38 : decode cX5_edit 38 = .ok (.istore 6, 2) := by decide +kernel
theorem dX5_edit_40 : decode cX5_edit 40 = .ok (.iload 4, 2) := by decide +kernel
theorem dX5_edit_42 : decode cX5_edit 42 = .ok (.iconst 1, 1) := by decide +kernel
theorem dX5_edit_43 : decode cX5_edit 43 = .ok (.isub, 1) := by decide +kernel
theorem dX5_edit_44 : decode cX5_edit 44 = .ok (.istore 7, 2) := by decide +kernel
theorem dX5_edit_46 : decode cX5_edit 46 = .ok (.iload 7, 2) := by decide +kernel
theorem dX5_edit_48 : decode cX5_edit 48 = .ok (.iload_n 3, 1) := by decide +kernel
theorem dX5_edit_49 : decode cX5_edit 49 = .ok (.if_icmp .lt 37, 3) := by decide +kernel
theorem dX5_edit_52 : decode cX5_edit 52 = .ok (.iload 5, 2) := by decide +kernel
theorem dX5_edit_54 : decode cX5_edit 54 = .ok (.ifCond .le 32, 3) := by decide +kernel
theorem dX5_edit_57 : decode cX5_edit 57 = .ok (.aload_n 0, 1) := by decide +kernel
theorem dX5_edit_58 : decode cX5_edit 58 = .ok (.getfield 7, 3) := by decide +kernel
theorem dX5_edit_61 : decode cX5_edit 61 = .ok (.iload 6, 2) := by decide +kernel
theorem dX5_edit_63 : decode cX5_edit 63 = .ok (.iload 7, 2) := by decide +kernel
theorem dX5_edit_65 : decode cX5_edit 65 = .ok (.iadd, 1) := by decide +kernel
theorem dX5_edit_66 : decode cX5_edit 66 = .ok (.iload 5, 2) := by decide +kernel
theorem dX5_edit_68 : decode cX5_edit 68 = .ok (.iadd, 1) := by decide +kernel
theorem dX5_edit_69 : decode cX5_edit 69 = .ok (.aload_n 0, 1) := by decide +kernel
theorem dX5_edit_70 : decode cX5_edit 70 = .ok (.getfield 7, 3) := by decide +kernel
theorem dX5_edit_73 : decode cX5_edit 73 = .ok (.iload 6, 2) := by decide +kernel
theorem dX5_edit_75 : decode cX5_edit 75 = .ok (.iload 7, 2) := by decide +kernel
theorem dX5_edit_77 : decode cX5_edit 77 = .ok (.iadd, 1) := by decide +kernel
theorem dX5_edit_78 : decode cX5_edit 78 = .ok (.iaload, 1) := by decide +kernel
theorem dX5_edit_79 : decode cX5_edit 79 = .ok (.iastore, 1) := by decide +kernel
theorem dX5_edit_80 : decode cX5_edit 80 = .ok (.iinc 7 (-1), 3) := by decide +kernel
theorem dX5_edit_83 : decode cX5_edit 83 = .ok (.goto (-37), 3) := by decide +kernel
theorem dX5_edit_86 : decode cX5_edit 86 = .ok (.iload_n 3, 1) := by decide +kernel
theorem dX5_edit_87 : decode cX5_edit 87 = .ok (.istore 7, 2) := by decide +kernel
theorem dX5_edit_89 : decode cX5_edit 89 = .ok (.iload 7, 2) := by decide +kernel
theorem dX5_edit_91 : decode cX5_edit 91 = .ok (.iload 4, 2) := by decide +kernel
theorem dX5_edit_93 : decode cX5_edit 93 = .ok (.if_icmp .ge 37, 3) := by decide +kernel
theorem dX5_edit_96 : decode cX5_edit 96 = .ok (.iload 5, 2) := by decide +kernel
theorem dX5_edit_98 : decode cX5_edit 98 = .ok (.ifCond .ge 32, 3) := by decide +kernel
theorem dX5_edit_101 : decode cX5_edit 101 = .ok (.aload_n 0, 1) := by decide +kernel
theorem dX5_edit_102 : decode cX5_edit 102 = .ok (.getfield 7, 3) := by decide +kernel
theorem dX5_edit_105 : decode cX5_edit 105 = .ok (.iload 6, 2) := by decide +kernel
theorem dX5_edit_107 : decode cX5_edit 107 = .ok (.iload 7, 2) := by decide +kernel
theorem dX5_edit_109 : decode cX5_edit 109 = .ok (.iadd, 1) := by decide +kernel
theorem dX5_edit_110 : decode cX5_edit 110 = .ok (.iload 5, 2) := by decide +kernel
theorem dX5_edit_112 : decode cX5_edit 112 = .ok (.iadd, 1) := by decide +kernel
theorem dX5_edit_113 : decode cX5_edit 113 = .ok (.aload_n 0, 1) := by decide +kernel
theorem dX5_edit_114 : decode cX5_edit 114 = .ok (.getfield 7, 3) := by decide +kernel
theorem dX5_edit_117 : decode cX5_edit 117 = .ok (.iload 6, 2) := by decide +kernel
theorem dX5_edit_119 : decode cX5_edit 119 = .ok (.iload 7, 2) := by decide +kernel
theorem dX5_edit_121 : decode cX5_edit 121 = .ok (.iadd, 1) := by decide +kernel
theorem dX5_edit_122 : decode cX5_edit 122 = .ok (.iaload, 1) := by decide +kernel
theorem dX5_edit_123 : decode cX5_edit 123 = .ok (.iastore, 1) := by decide +kernel
theorem dX5_edit_124 : decode cX5_edit 124 = .ok (.iinc 7 1, 3) := by decide +kernel
theorem dX5_edit_127 : decode cX5_edit 127 = .ok (.goto (-38), 3) := by decide +kernel
theorem dX5_edit_130 : decode cX5_edit 130 = .ok (.iconst 0, 1) := by decide +kernel
theorem dX5_edit_131 : decode cX5_edit 131 = .ok (.istore 7, 2) := by decide +kernel
theorem dX5_edit_133 : decode cX5_edit 133 = .ok (.iload 7, 2) := by decide +kernel
theorem dX5_edit_135 : decode cX5_edit 135 = .ok (.aload_n 0, 1) := by decide +kernel
theorem dX5_edit_136 : decode cX5_edit 136 = .ok (.getfield 62, 3) := by decide +kernel
theorem dX5_edit_139 : decode cX5_edit 139 = .ok (.if_icmp .ge 28, 3) := by decide +kernel
theorem dX5_edit_142 : decode cX5_edit 142 = .ok (.aload_n 0, 1) := by decide +kernel
theorem dX5_edit_143 : decode cX5_edit 143 = .ok (.getfield 7, 3) := by decide +kernel
theorem dX5_edit_146 : decode cX5_edit 146 = .ok (.iload 6, 2) := by decide +kernel
theorem dX5_edit_148 : decode cX5_edit 148 = .ok (.iload_n 2, 1) := by decide +kernel
theorem dX5_edit_149 : decode cX5_edit 149 = .ok (.iadd, 1) := by decide +kernel
theorem dX5_edit_150 : decode cX5_edit 150 = .ok (.iload 7, 2) := by decide +kernel
theorem dX5_edit_152 : decode cX5_edit 152 = .ok (.iadd, 1) := by decide +kernel
theorem dX5_edit_153 : decode cX5_edit 153 = .ok (.aload_n 0, 1) := by decide +kernel
theorem dX5_edit_154 : decode cX5_edit 154 = .ok (.getfield 22, 3) := by decide +kernel
theorem dX5_edit_157 : decode cX5_edit 157 = .ok (.iload 7, 2) := by decide +kernel
theorem dX5_edit_159 : decode cX5_edit 159 = .ok (.iaload, 1) := by decide +kernel
theorem dX5_edit_160 : decode cX5_edit 160 = .ok (.iastore, 1) := by decide +kernel
theorem dX5_edit_161 : decode cX5_edit 161 = .ok (.iinc 7 1, 3) := by decide +kernel
theorem dX5_edit_164 : decode cX5_edit 164 = .ok (.goto (-31), 3) := by decide +kernel
theorem dX5_edit_167 : decode cX5_edit 167 = .ok (.aload_n 0, 1) := by decide +kernel
theorem dX5_edit_168 : decode cX5_edit 168 = .ok (.getfield 13, 3) := by decide +kernel
theorem dX5_edit_171 : decode cX5_edit 171 = .ok (.iload_n 1, 1) := by decide +kernel
theorem dX5_edit_172 : decode cX5_edit 172 = .ok (.iload 4, 2) := by decide +kernel
theorem dX5_edit_174 : decode cX5_edit 174 = .ok (.iload 5, 2) := by decide +kernel
theorem dX5_edit_176 : decode cX5_edit 176 = .ok (.iadd, 1) := by decide +kernel
theorem dX5_edit_177 : decode cX5_edit 177 = .ok (.iastore, 1) := by decide +kernel
theorem dX5_edit_178 : decode cX5_edit 178 = .ok (.aload_n 0, 1) := by decide +kernel
theorem dX5_edit_179 : decode cX5_edit 179 = .ok (.getfield 13, 3) := by decide +kernel
theorem dX5_edit_182 : decode cX5_edit 182 = .ok (.iload_n 1, 1) := by decide +kernel
theorem dX5_edit_183 : decode cX5_edit 183 = .ok (.iaload, 1) := by decide +kernel
theorem dX5_edit_184 : decode cX5_edit 184 = .ok (.ireturn, 1) := by decide +kernel
theorem dX5_append_0 : decode cX5_append 0 = .ok (.aload_n 0, 1) := by decide +kernel
theorem dX5_append_1 : decode cX5_append 1 = .ok (.iload_n 1, 1) := by decide +kernel
theorem dX5_append_2 : decode cX5_append 2 = .ok (.aload_n 0, 1) := by decide +kernel
theorem dX5_append_3 : decode cX5_append 3 = .ok (.getfield 13, 3) := by decide +kernel
theorem dX5_append_6 : decode cX5_append 6 = .ok (.iload_n 1, 1) := by decide +kernel
theorem dX5_append_7 : decode cX5_append 7 = .ok (.iaload, 1) := by decide +kernel
theorem dX5_append_8 : decode cX5_append 8 = .ok (.aload_n 0, 1) := by decide +kernel
theorem dX5_append_9 : decode cX5_append 9 = .ok (.getfield 13, 3) := by decide +kernel
theorem dX5_append_12 : decode cX5_append 12 = .ok (.iload_n 1, 1) := by decide +kernel
theorem dX5_append_13 : decode cX5_append 13 = .ok (.iaload, 1) := by decide +kernel
theorem dX5_append_14 : decode cX5_append 14 = .ok (.invokevirtual 66, 3) := by decide +kernel
theorem dX5_append_17 : decode cX5_append 17 = .ok (.ireturn, 1) := by decide +kernel
theorem dX5_sign_0 : decode cX5_sign 0 = .ok (.iload_n 1, 1) := by decide +kernel
theorem dX5_sign_1 : decode cX5_sign 1 = .ok (.invokestatic 70, 3) := by decide +kernel
theorem dX5_sign_4 : decode cX5_sign 4 = .ok (.ifCond .ne 7, 3) := by decide +kernel
theorem dX5_sign_7 : decode cX5_sign 7 = .ok (.sipush (-1001), 3) := by decide +kernel
theorem dX5_sign_10 : decode cX5_sign 10 = .ok (.ireturn, 1) := by decide +kernel
theorem dX5_sign_11 : decode cX5_sign 11 = .ok (.iload_n 2, 1) := by decide +kernel
theorem dX5_sign_12 : decode cX5_sign 12 = .ok (.invokestatic 74, 3) := by decide +kernel
theorem dX5_sign_15 : decode cX5_sign 15 = .ok (.ifCond .ne 7, 3) := by decide +kernel
theorem dX5_sign_18 : decode cX5_sign 18 = .ok (.sipush (-1002), 3) := by decide +kernel
theorem dX5_sign_21 : decode cX5_sign 21 = .ok (.ireturn, 1) := by decide +kernel
theorem dX5_sign_22 : decode cX5_sign 22 = .ok (.aload_n 0, 1) := by decide +kernel
theorem dX5_sign_23 : decode cX5_sign 23 = .ok (.iload_n 2, 1) := by decide +kernel
theorem dX5_sign_24 : decode cX5_sign 24 = .ok (.invokevirtual 77, 3) := by decide +kernel
theorem dX5_sign_27 : decode cX5_sign 27 = .ok (.aload_n 0, 1) := by decide +kernel
theorem dX5_sign_28 : decode cX5_sign 28 = .ok (.iload_n 1, 1) := by decide +kernel
theorem dX5_sign_29 : decode cX5_sign 29 = .ok (.invokevirtual 81, 3) := by decide +kernel
theorem dX5_sign_32 : decode cX5_sign 32 = .ok (.ireturn, 1) := by decide +kernel
theorem dX5_signs_0 : decode cX5_signs 0 = .ok (.iload_n 1, 1) := by decide +kernel
theorem dX5_signs_1 : decode cX5_signs 1 = .ok (.invokestatic 70, 3) := by decide +kernel
theorem dX5_signs_4 : decode cX5_signs 4 = .ok (.ifCond .ne 7, 3) := by decide +kernel
theorem dX5_signs_7 : decode cX5_signs 7 = .ok (.sipush (-1001), 3) := by decide +kernel
theorem dX5_signs_10 : decode cX5_signs 10 = .ok (.ireturn, 1) := by decide +kernel
theorem dX5_signs_11 : decode cX5_signs 11 = .ok (.iload_n 2, 1) := by decide +kernel
theorem dX5_signs_12 : decode cX5_signs 12 = .ok (.i2l, 1) := by decide +kernel
theorem dX5_signs_13 : decode cX5_signs 13 = .ok (.lconst 0, 1) := by decide +kernel
theorem dX5_signs_14 : decode cX5_signs 14 = .ok (.ldc2_w 85, 3) := by decide +kernel
theorem dX5_signs_17 : decode cX5_signs 17 = .ok (.invokestatic 54, 3) := by decide +kernel
theorem dX5_signs_20 : decode cX5_signs 20 = .ok (.ifCond .ne 7, 3) := by decide +kernel
theorem dX5_signs_23 : decode cX5_signs 23 = .ok (.sipush (-1002), 3) := by decide +kernel
theorem dX5_signs_26 : decode cX5_signs 26 = .ok (.ireturn, 1) := by decide +kernel
theorem dX5_signs_27 : decode cX5_signs 27 = .ok (.aload_n 0, 1) := by decide +kernel
theorem dX5_signs_28 : decode cX5_signs 28 = .ok (.iload_n 2, 1) := by decide +kernel
theorem dX5_signs_29 : decode cX5_signs 29 = .ok (.putfield 62, 3) := by decide +kernel
theorem dX5_signs_32 : decode cX5_signs 32 = .ok (.iconst 0, 1) := by decide +kernel
theorem dX5_signs_33 : decode cX5_signs 33 = .ok (.istore 5, 2) := by decide +kernel
theorem dX5_signs_35 : decode cX5_signs 35 = .ok (.iload 5, 2) := by decide +kernel
theorem dX5_signs_37 : decode cX5_signs 37 = .ok (.iload_n 2, 1) := by decide +kernel
theorem dX5_signs_38 : decode cX5_signs 38 = .ok (.if_icmp .ge 32, 3) := by decide +kernel
theorem dX5_signs_41 : decode cX5_signs 41 = .ok (.aload_n 0, 1) := by decide +kernel
theorem dX5_signs_42 : decode cX5_signs 42 = .ok (.getfield 22, 3) := by decide +kernel
theorem dX5_signs_45 : decode cX5_signs 45 = .ok (.iload 5, 2) := by decide +kernel
theorem dX5_signs_47 : decode cX5_signs 47 = .ok (.lload_n 3, 1) := by decide +kernel
theorem dX5_signs_48 : decode cX5_signs 48 = .ok (.bipush 8, 2) := by decide +kernel
theorem dX5_signs_50 : decode cX5_signs 50 = .ok (.iload_n 2, 1) := by decide +kernel
theorem dX5_signs_51 : decode cX5_signs 51 = .ok (.iconst 1, 1) := by decide +kernel
theorem dX5_signs_52 : decode cX5_signs 52 = .ok (.isub, 1) := by decide +kernel
theorem dX5_signs_53 : decode cX5_signs 53 = .ok (.iload 5, 2) := by decide +kernel
theorem dX5_signs_55 : decode cX5_signs 55 = .ok (.isub, 1) := by decide +kernel
theorem dX5_signs_56 : decode cX5_signs 56 = .ok (.imul, 1) := by decide +kernel
theorem dX5_signs_57 : decode cX5_signs 57 = .ok (.lshr, 1) := by decide +kernel
theorem dX5_signs_58 : decode cX5_signs 58 = .ok (.ldc2_w 60, 3) := by decide +kernel
theorem dX5_signs_61 : decode cX5_signs 61 = .ok (.land, 1) := by decide +kernel
theorem dX5_signs_62 : decode cX5_signs 62 = .ok (.l2i, 1) := by decide +kernel
theorem dX5_signs_63 : decode cX5_signs 63 = .ok (.iastore, 1) := by decide +kernel
theorem dX5_signs_64 : decode cX5_signs 64 = .ok (.iinc 5 1, 3) := by decide +kernel
theorem dX5_signs_67 : decode cX5_signs 67 = .ok (.goto (-32), 3) := by decide +kernel
theorem dX5_signs_70 : decode cX5_signs 70 = .ok (.aload_n 0, 1) := by decide +kernel
theorem dX5_signs_71 : decode cX5_signs 71 = .ok (.iload_n 1, 1) := by decide +kernel
theorem dX5_signs_72 : decode cX5_signs 72 = .ok (.invokevirtual 81, 3) := by decide +kernel
theorem dX5_signs_75 : decode cX5_signs 75 = .ok (.ireturn, 1) := by decide +kernel
theorem dX5_text_0 : decode cX5_text 0 = .ok (.iload_n 1, 1) := by decide +kernel
theorem dX5_text_1 : decode cX5_text 1 = .ok (.invokestatic 70, 3) := by decide +kernel
theorem dX5_text_4 : decode cX5_text 4 = .ok (.ifCond .eq 10, 3) := by decide +kernel
theorem dX5_text_7 : decode cX5_text 7 = .ok (.iload_n 2, 1) := by decide +kernel
theorem dX5_text_8 : decode cX5_text 8 = .ok (.invokestatic 87, 3) := by decide +kernel
theorem dX5_text_11 : decode cX5_text 11 = .ok (.ifCond .ne 7, 3) := by decide +kernel
theorem dX5_text_14 : decode cX5_text 14 = .ok (.sipush (-1001), 3) := by decide +kernel
theorem dX5_text_17 : decode cX5_text 17 = .ok (.ireturn, 1) := by decide +kernel
theorem dX5_text_18 : decode cX5_text 18 = .ok (.aload_n 0, 1) := by decide +kernel
theorem dX5_text_19 : decode cX5_text 19 = .ok (.iload_n 2, 1) := by decide +kernel
theorem dX5_text_20 : decode cX5_text 20 = .ok (.invokevirtual 90, 3) := by decide +kernel
theorem dX5_text_23 : decode cX5_text 23 = .ok (.aload_n 0, 1) := by decide +kernel
theorem dX5_text_24 : decode cX5_text 24 = .ok (.iload_n 1, 1) := by decide +kernel
theorem dX5_text_25 : decode cX5_text 25 = .ok (.invokevirtual 81, 3) := by decide +kernel
theorem dX5_text_28 : decode cX5_text 28 = .ok (.ireturn, 1) := by decide +kernel
theorem dX5_part_0 : decode cX5_part 0 = .ok (.iload_n 1, 1) := by decide +kernel
theorem dX5_part_1 : decode cX5_part 1 = .ok (.invokestatic 70, 3) := by decide +kernel
theorem dX5_part_4 : decode cX5_part 4 = .ok (.ifCond .eq 10, 3) := by decide +kernel
theorem dX5_part_7 : decode cX5_part 7 = .ok (.iload_n 2, 1) := by decide +kernel
theorem dX5_part_8 : decode cX5_part 8 = .ok (.invokestatic 87, 3) := by decide +kernel
theorem dX5_part_11 : decode cX5_part 11 = .ok (.ifCond .ne 7, 3) := by decide +kernel
theorem dX5_part_14 : decode cX5_part 14 = .ok (.sipush (-1001), 3) := by decide +kernel
theorem dX5_part_17 : decode cX5_part 17 = .ok (.ireturn, 1) := by decide +kernel
theorem dX5_part_18 : decode cX5_part 18 = .ok (.aload_n 0, 1) := by decide +kernel
theorem dX5_part_19 : decode cX5_part 19 = .ok (.iload_n 2, 1) := by decide +kernel
theorem dX5_part_20 : decode cX5_part 20 = .ok (.invokevirtual 90, 3) := by decide +kernel
theorem dX5_part_23 : decode cX5_part 23 = .ok (.iload_n 3, 1) := by decide +kernel
theorem dX5_part_24 : decode cX5_part 24 = .ok (.ifCond .lt 18, 3) := by decide +kernel
theorem dX5_part_27 : decode cX5_part 27 = .ok (.iload 4, 2) := by decide +kernel
theorem dX5_part_29 : decode cX5_part 29 = .ok (.aload_n 0, 1) := by decide +kernel
theorem dX5_part_30 : decode cX5_part 30 = .ok (.getfield 62, 3) := by decide +kernel
theorem dX5_part_33 : decode cX5_part 33 = .ok (.if_icmp .gt 9, 3) := by decide +kernel
theorem dX5_part_36 : decode cX5_part 36 = .ok (.iload_n 3, 1) := by decide +kernel
theorem dX5_part_37 : decode cX5_part 37 = .ok (.iload 4, 2) := by decide +kernel
theorem dX5_part_39 : decode cX5_part 39 = .ok (.if_icmp .le 7, 3) := by decide +kernel
theorem dX5_part_42 : decode cX5_part 42 = .ok (.sipush (-1005), 3) := by decide +kernel
theorem dX5_part_45 : decode cX5_part 45 = .ok (.ireturn, 1) := by decide +kernel
theorem dX5_part_46 : decode cX5_part 46 = .ok (.aload_n 0, 1) := by decide +kernel
theorem dX5_part_47 : decode cX5_part 47 = .ok (.iload_n 3, 1) := by decide +kernel
theorem dX5_part_48 : decode cX5_part 48 = .ok (.iload 4, 2) := by decide +kernel
theorem dX5_part_50 : decode cX5_part 50 = .ok (.invokevirtual 93, 3) := by decide +kernel
theorem dX5_part_53 : decode cX5_part 53 = .ok (.aload_n 0, 1) := by decide +kernel
theorem dX5_part_54 : decode cX5_part 54 = .ok (.iload_n 1, 1) := by decide +kernel
theorem dX5_part_55 : decode cX5_part 55 = .ok (.invokevirtual 81, 3) := by decide +kernel
theorem dX5_part_58 : decode cX5_part 58 = .ok (.ireturn, 1) := by decide +kernel
theorem dX5_number_0 : decode cX5_number 0 = .ok (.iload_n 1, 1) := by decide +kernel
theorem dX5_number_1 : decode cX5_number 1 = .ok (.invokestatic 70, 3) := by decide +kernel
theorem dX5_number_4 : decode cX5_number 4 = .ok (.ifCond .ne 7, 3) := by decide +kernel
theorem dX5_number_7 : decode cX5_number 7 = .ok (.sipush (-1001), 3) := by decide +kernel
theorem dX5_number_10 : decode cX5_number 10 = .ok (.ireturn, 1) := by decide +kernel
theorem dX5_number_11 : decode cX5_number 11 = .ok (.lload_n 2, 1) := by decide +kernel
theorem dX5_number_12 : decode cX5_number 12 = .ok (.lstore 4, 2) := by decide +kernel
theorem dX5_number_14 : decode cX5_number 14 = .ok (.iconst 0, 1) := by decide +kernel
theorem dX5_number_15 : decode cX5_number 15 = .ok (.istore 6, 2) := by decide +kernel
theorem dX5_number_17 : decode cX5_number 17 = .ok (.lload 4, 2) := by decide +kernel
theorem dX5_number_19 : decode cX5_number 19 = .ok (.lconst 0, 1) := by decide +kernel
theorem dX5_number_20 : decode cX5_number 20 = .ok (.lcmp, 1) := by decide +kernel
theorem dX5_number_21 : decode cX5_number 21 = .ok (.ifCond .ne 8, 3) := by decide +kernel
theorem dX5_number_24 : decode cX5_number 24 = .ok (.iload 6, 2) := by decide +kernel
theorem dX5_number_26 : decode cX5_number 26 = .ok (.ifCond .ne 49, 3) := by decide +kernel
theorem dX5_number_29 : decode cX5_number 29 = .ok (.lload 4, 2) := by decide +kernel
theorem dX5_number_31 : decode cX5_number 31 = .ok (.ldc2_w 97, 3) := by decide +kernel
theorem dX5_number_34 : decode cX5_number 34 = .ok (.lrem, 1) := by decide +kernel
theorem dX5_number_35 : decode cX5_number 35 = .ok (.l2i, 1) := by decide +kernel
theorem dX5_number_36 : decode cX5_number 36 = .ok (.istore 7, 2) := by decide +kernel
theorem dX5_number_38 : decode cX5_number 38 = .ok (.aload_n 0, 1) := by decide +kernel
theorem dX5_number_39 : decode cX5_number 39 = .ok (.getfield 25, 3) := by decide +kernel
theorem dX5_number_42 : decode cX5_number 42 = .ok (.iload 6, 2) := by decide +kernel
theorem dX5_number_44 : decode cX5_number 44 = .ok (.bipush 48, 2) := by decide +kernel
theorem dX5_number_46 : decode cX5_number 46 = .ok (.iload 7, 2) := by decide +kernel
theorem dX5_number_48 : decode cX5_number 48 = .ok (.ifCond .ge 9, 3) := by decide +kernel
theorem dX5_number_51 : decode cX5_number 51 = .ok (.iload 7, 2) := by decide +kernel
theorem dX5_number_53 : decode cX5_number 53 = .ok (.ineg, 1) := by decide +kernel
theorem dX5_number_54 : decode cX5_number 54 = .ok (.goto 5, 3) := by decide +kernel
theorem dX5_number_57 : decode cX5_number 57 = .ok (.iload 7, 2) := by decide +kernel
theorem dX5_number_59 : decode cX5_number 59 = .ok (.iadd, 1) := by decide +kernel
theorem dX5_number_60 : decode cX5_number 60 = .ok (.iastore, 1) := by decide +kernel
theorem dX5_number_61 : decode cX5_number 61 = .ok (.lload 4, 2) := by decide +kernel
theorem dX5_number_63 : decode cX5_number 63 = .ok (.ldc2_w 97, 3) := by decide +kernel
theorem dX5_number_66 : decode cX5_number 66 = .ok (.ldiv, 1) := by decide +kernel
theorem dX5_number_67 : decode cX5_number 67 = .ok (.lstore 4, 2) := by decide +kernel
theorem dX5_number_69 : decode cX5_number 69 = .ok (.iinc 6 1, 3) := by decide +kernel
theorem dX5_number_72 : decode cX5_number 72 = .ok (.goto (-55), 3) := by decide +kernel
theorem dX5_number_75 : decode cX5_number 75 = .ok (.aload_n 0, 1) := by decide +kernel
theorem dX5_number_76 : decode cX5_number 76 = .ok (.iconst 0, 1) := by decide +kernel
theorem dX5_number_77 : decode cX5_number 77 = .ok (.putfield 62, 3) := by decide +kernel
theorem dX5_number_80 : decode cX5_number 80 = .ok (.lload_n 2, 1) := by decide +kernel
theorem dX5_number_81 : decode cX5_number 81 = .ok (.lconst 0, 1) := by decide +kernel
theorem dX5_number_82 : decode cX5_number 82 = .ok (.lcmp, 1) := by decide +kernel
theorem dX5_number_83 : decode cX5_number 83 = .ok (.ifCond .ge 9, 3) := by decide +kernel
theorem dX5_number_86 : decode cX5_number 86 = .ok (.aload_n 0, 1) := by decide +kernel
theorem dX5_number_87 : decode cX5_number 87 = .ok (.bipush 45, 2) := by decide +kernel
theorem dX5_number_89 : decode cX5_number 89 = .ok (.invokevirtual 77, 3) := by decide +kernel
theorem dX5_number_92 : decode cX5_number 92 = .ok (.iload 6, 2) := by decide +kernel
theorem dX5_number_94 : decode cX5_number 94 = .ok (.iconst 1, 1) := by decide +kernel
theorem dX5_number_95 : decode cX5_number 95 = .ok (.isub, 1) := by decide +kernel
theorem dX5_number_96 : decode cX5_number 96 = .ok (.istore 7, 2) := by decide +kernel
theorem dX5_number_98 : decode cX5_number 98 = .ok (.iload 7, 2) := by decide +kernel
theorem dX5_number_100 : decode cX5_number 100 = .ok (.ifCond .lt 35, 3) := by decide +kernel
theorem dX5_number_103 : decode cX5_number 103 = .ok (.aload_n 0, 1) := by decide +kernel
theorem dX5_number_104 : decode cX5_number 104 = .ok (.getfield 22, 3) := by decide +kernel
theorem dX5_number_107 : decode cX5_number 107 = .ok (.aload_n 0, 1) := by decide +kernel
theorem dX5_number_108 : decode cX5_number 108 = .ok (.getfield 62, 3) := by decide +kernel
theorem dX5_number_111 : decode cX5_number 111 = .ok (.aload_n 0, 1) := by decide +kernel
theorem dX5_number_112 : decode cX5_number 112 = .ok (.getfield 25, 3) := by decide +kernel
theorem dX5_number_115 : decode cX5_number 115 = .ok (.iload 7, 2) := by decide +kernel
theorem dX5_number_117 : decode cX5_number 117 = .ok (.iaload, 1) := by decide +kernel
theorem dX5_number_118 : decode cX5_number 118 = .ok (.iastore, 1) := by decide +kernel
theorem dX5_number_119 : decode cX5_number 119 = .ok (.aload_n 0, 1) := by decide +kernel
theorem dX5_number_120 : decode cX5_number 120 = .ok (.dup, 1) := by decide +kernel
theorem dX5_number_121 : decode cX5_number 121 = .ok (.getfield 62, 3) := by decide +kernel
theorem dX5_number_124 : decode cX5_number 124 = .ok (.iconst 1, 1) := by decide +kernel
theorem dX5_number_125 : decode cX5_number 125 = .ok (.iadd, 1) := by decide +kernel
theorem dX5_number_126 : decode cX5_number 126 = .ok (.putfield 62, 3) := by decide +kernel
theorem dX5_number_129 : decode cX5_number 129 = .ok (.iinc 7 (-1), 3) := by decide +kernel
theorem dX5_number_132 : decode cX5_number 132 = .ok (.goto (-34), 3) := by decide +kernel
theorem dX5_number_135 : decode cX5_number 135 = .ok (.aload_n 0, 1) := by decide +kernel
theorem dX5_number_136 : decode cX5_number 136 = .ok (.iload_n 1, 1) := by decide +kernel
theorem dX5_number_137 : decode cX5_number 137 = .ok (.invokevirtual 81, 3) := by decide +kernel
theorem dX5_number_140 : decode cX5_number 140 = .ok (.ireturn, 1) := by decide +kernel
theorem dX5_insert_0 : decode cX5_insert 0 = .ok (.iload_n 1, 1) := by decide +kernel
theorem dX5_insert_1 : decode cX5_insert 1 = .ok (.invokestatic 70, 3) := by decide +kernel
theorem dX5_insert_4 : decode cX5_insert 4 = .ok (.ifCond .eq 10, 3) := by decide +kernel
theorem dX5_insert_7 : decode cX5_insert 7 = .ok (.iload_n 3, 1) := by decide +kernel
theorem dX5_insert_8 : decode cX5_insert 8 = .ok (.invokestatic 87, 3) := by decide +kernel
theorem dX5_insert_11 : decode cX5_insert 11 = .ok (.ifCond .ne 7, 3) := by decide +kernel
theorem dX5_insert_14 : decode cX5_insert 14 = .ok (.sipush (-1001), 3) := by decide +kernel
theorem dX5_insert_17 : decode cX5_insert 17 = .ok (.ireturn, 1) := by decide +kernel
theorem dX5_insert_18 : decode cX5_insert 18 = .ok (.iload_n 2, 1) := by decide +kernel
theorem dX5_insert_19 : decode cX5_insert 19 = .ok (.i2l, 1) := by decide +kernel
theorem dX5_insert_20 : decode cX5_insert 20 = .ok (.lconst 0, 1) := by decide +kernel
theorem dX5_insert_21 : decode cX5_insert 21 = .ok (.aload_n 0, 1) := by decide +kernel
theorem dX5_insert_22 : decode cX5_insert 22 = .ok (.getfield 13, 3) := by decide +kernel
theorem dX5_insert_25 : decode cX5_insert 25 = .ok (.iload_n 1, 1) := by decide +kernel
theorem dX5_insert_26 : decode cX5_insert 26 = .ok (.iaload, 1) := by decide +kernel
theorem dX5_insert_27 : decode cX5_insert 27 = .ok (.i2l, 1) := by decide +kernel
theorem dX5_insert_28 : decode cX5_insert 28 = .ok (.invokestatic 54, 3) := by decide +kernel
theorem dX5_insert_31 : decode cX5_insert 31 = .ok (.ifCond .ne 7, 3) := by decide +kernel
theorem dX5_insert_34 : decode cX5_insert 34 = .ok (.sipush (-1005), 3) := by decide +kernel
theorem dX5_insert_37 : decode cX5_insert 37 = .ok (.ireturn, 1) := by decide +kernel
theorem dX5_insert_38 : decode cX5_insert 38 = .ok (.aload_n 0, 1) := by decide +kernel
theorem dX5_insert_39 : decode cX5_insert 39 = .ok (.iload_n 3, 1) := by decide +kernel
theorem dX5_insert_40 : decode cX5_insert 40 = .ok (.invokevirtual 90, 3) := by decide +kernel
theorem dX5_insert_43 : decode cX5_insert 43 = .ok (.aload_n 0, 1) := by decide +kernel
theorem dX5_insert_44 : decode cX5_insert 44 = .ok (.iload_n 1, 1) := by decide +kernel
theorem dX5_insert_45 : decode cX5_insert 45 = .ok (.iload_n 2, 1) := by decide +kernel
theorem dX5_insert_46 : decode cX5_insert 46 = .ok (.iload_n 2, 1) := by decide +kernel
theorem dX5_insert_47 : decode cX5_insert 47 = .ok (.invokevirtual 66, 3) := by decide +kernel
theorem dX5_insert_50 : decode cX5_insert 50 = .ok (.ireturn, 1) := by decide +kernel
theorem dX5_insertPart_0 : decode cX5_insertPart 0 = .ok (.iload_n 1, 1) := by decide +kernel
theorem dX5_insertPart_1 : decode cX5_insertPart 1 = .ok (.invokestatic 70, 3) := by decide +kernel
theorem dX5_insertPart_4 : decode cX5_insertPart 4 = .ok (.ifCond .eq 10, 3) := by decide +kernel
theorem dX5_insertPart_7 : decode cX5_insertPart 7 = .ok (.iload_n 3, 1) := by decide +kernel
theorem dX5_insertPart_8 : decode cX5_insertPart 8 = .ok (.invokestatic 87, 3) := by decide +kernel
theorem dX5_insertPart_11 : decode cX5_insertPart 11 = .ok (.ifCond .ne 7, 3) := by decide +kernel
theorem dX5_insertPart_14 : decode cX5_insertPart 14 = .ok (.sipush (-1001), 3) := by decide +kernel
theorem dX5_insertPart_17 : decode cX5_insertPart 17 = .ok (.ireturn, 1) := by decide +kernel
theorem dX5_insertPart_18 : decode cX5_insertPart 18 = .ok (.aload_n 0, 1) := by decide +kernel
theorem dX5_insertPart_19 : decode cX5_insertPart 19 = .ok (.iload_n 3, 1) := by decide +kernel
theorem dX5_insertPart_20 : decode cX5_insertPart 20 = .ok (.invokevirtual 90, 3) := by decide +kernel
theorem dX5_insertPart_23 : decode cX5_insertPart 23 = .ok (.iload_n 2, 1) := by decide +kernel
theorem dX5_insertPart_24 : decode cX5_insertPart 24 = .ok (.i2l, 1) := by decide +kernel
theorem dX5_insertPart_25 : decode cX5_insertPart 25 = .ok (.lconst 0, 1) := by decide +kernel
theorem dX5_insertPart_26 : decode cX5_insertPart 26 = .ok (.aload_n 0, 1) := by decide +kernel
theorem dX5_insertPart_27 : decode cX5_insertPart 27 = .ok (.getfield 13, 3) := by decide +kernel
theorem dX5_insertPart_30 : decode cX5_insertPart 30 = .ok (.iload_n 1, 1) := by decide +kernel
theorem dX5_insertPart_31 : decode cX5_insertPart 31 = .ok (.iaload, 1) := by decide +kernel
theorem dX5_insertPart_32 : decode cX5_insertPart 32 = .ok (.i2l, 1) := by decide +kernel
theorem dX5_insertPart_33 : decode cX5_insertPart 33 = .ok (.invokestatic 54, 3) := by decide +kernel
theorem dX5_insertPart_36 : decode cX5_insertPart 36 = .ok (.ifCond .eq 24, 3) := by decide +kernel
theorem dX5_insertPart_39 : decode cX5_insertPart 39 = .ok (.iload 4, 2) := by decide +kernel
theorem dX5_insertPart_41 : decode cX5_insertPart 41 = .ok (.ifCond .lt 19, 3) := by decide +kernel
theorem dX5_insertPart_44 : decode cX5_insertPart 44 = .ok (.iload 5, 2) := by decide +kernel
theorem dX5_insertPart_46 : decode cX5_insertPart 46 = .ok (.aload_n 0, 1) := by decide +kernel
theorem dX5_insertPart_47 : decode cX5_insertPart 47 = .ok (.getfield 62, 3) := by decide +kernel
theorem dX5_insertPart_50 : decode cX5_insertPart 50 = .ok (.if_icmp .gt 10, 3) := by decide +kernel
theorem dX5_insertPart_53 : decode cX5_insertPart 53 = .ok (.iload 4, 2) := by decide +kernel
theorem dX5_insertPart_55 : decode cX5_insertPart 55 = .ok (.iload 5, 2) := by decide +kernel
theorem dX5_insertPart_57 : decode cX5_insertPart 57 = .ok (.if_icmp .le 7, 3) := by decide +kernel
theorem dX5_insertPart_60 : decode cX5_insertPart 60 = .ok (.sipush (-1005), 3) := by decide +kernel
theorem dX5_insertPart_63 : decode cX5_insertPart 63 = .ok (.ireturn, 1) := by decide +kernel
theorem dX5_insertPart_64 : decode cX5_insertPart 64 = .ok (.aload_n 0, 1) := by decide +kernel
theorem dX5_insertPart_65 : decode cX5_insertPart 65 = .ok (.iload 4, 2) := by decide +kernel
theorem dX5_insertPart_67 : decode cX5_insertPart 67 = .ok (.iload 5, 2) := by decide +kernel
theorem dX5_insertPart_69 : decode cX5_insertPart 69 = .ok (.invokevirtual 93, 3) := by decide +kernel
theorem dX5_insertPart_72 : decode cX5_insertPart 72 = .ok (.aload_n 0, 1) := by decide +kernel
theorem dX5_insertPart_73 : decode cX5_insertPart 73 = .ok (.iload_n 1, 1) := by decide +kernel
theorem dX5_insertPart_74 : decode cX5_insertPart 74 = .ok (.iload_n 2, 1) := by decide +kernel
theorem dX5_insertPart_75 : decode cX5_insertPart 75 = .ok (.iload_n 2, 1) := by decide +kernel
theorem dX5_insertPart_76 : decode cX5_insertPart 76 = .ok (.invokevirtual 66, 3) := by decide +kernel
theorem dX5_insertPart_79 : decode cX5_insertPart 79 = .ok (.ireturn, 1) := by decide +kernel
theorem dX5_insertSign_0 : decode cX5_insertSign 0 = .ok (.iload_n 1, 1) := by decide +kernel
theorem dX5_insertSign_1 : decode cX5_insertSign 1 = .ok (.invokestatic 70, 3) := by decide +kernel
theorem dX5_insertSign_4 : decode cX5_insertSign 4 = .ok (.ifCond .ne 7, 3) := by decide +kernel
theorem dX5_insertSign_7 : decode cX5_insertSign 7 = .ok (.sipush (-1001), 3) := by decide +kernel
theorem dX5_insertSign_10 : decode cX5_insertSign 10 = .ok (.ireturn, 1) := by decide +kernel
theorem dX5_insertSign_11 : decode cX5_insertSign 11 = .ok (.iload_n 3, 1) := by decide +kernel
theorem dX5_insertSign_12 : decode cX5_insertSign 12 = .ok (.invokestatic 74, 3) := by decide +kernel
theorem dX5_insertSign_15 : decode cX5_insertSign 15 = .ok (.ifCond .ne 7, 3) := by decide +kernel
theorem dX5_insertSign_18 : decode cX5_insertSign 18 = .ok (.sipush (-1002), 3) := by decide +kernel
theorem dX5_insertSign_21 : decode cX5_insertSign 21 = .ok (.ireturn, 1) := by decide +kernel
theorem dX5_insertSign_22 : decode cX5_insertSign 22 = .ok (.iload_n 2, 1) := by decide +kernel
theorem dX5_insertSign_23 : decode cX5_insertSign 23 = .ok (.i2l, 1) := by decide +kernel
theorem dX5_insertSign_24 : decode cX5_insertSign 24 = .ok (.lconst 0, 1) := by decide +kernel
theorem dX5_insertSign_25 : decode cX5_insertSign 25 = .ok (.aload_n 0, 1) := by decide +kernel
theorem dX5_insertSign_26 : decode cX5_insertSign 26 = .ok (.getfield 13, 3) := by decide +kernel
theorem dX5_insertSign_29 : decode cX5_insertSign 29 = .ok (.iload_n 1, 1) := by decide +kernel
theorem dX5_insertSign_30 : decode cX5_insertSign 30 = .ok (.iaload, 1) := by decide +kernel
theorem dX5_insertSign_31 : decode cX5_insertSign 31 = .ok (.i2l, 1) := by decide +kernel
theorem dX5_insertSign_32 : decode cX5_insertSign 32 = .ok (.invokestatic 54, 3) := by decide +kernel
theorem dX5_insertSign_35 : decode cX5_insertSign 35 = .ok (.ifCond .ne 7, 3) := by decide +kernel
theorem dX5_insertSign_38 : decode cX5_insertSign 38 = .ok (.sipush (-1005), 3) := by decide +kernel
theorem dX5_insertSign_41 : decode cX5_insertSign 41 = .ok (.ireturn, 1) := by decide +kernel
theorem dX5_insertSign_42 : decode cX5_insertSign 42 = .ok (.aload_n 0, 1) := by decide +kernel
theorem dX5_insertSign_43 : decode cX5_insertSign 43 = .ok (.iload_n 3, 1) := by decide +kernel
theorem dX5_insertSign_44 : decode cX5_insertSign 44 = .ok (.invokevirtual 77, 3) := by decide +kernel
theorem dX5_insertSign_47 : decode cX5_insertSign 47 = .ok (.aload_n 0, 1) := by decide +kernel
theorem dX5_insertSign_48 : decode cX5_insertSign 48 = .ok (.iload_n 1, 1) := by decide +kernel
theorem dX5_insertSign_49 : decode cX5_insertSign 49 = .ok (.iload_n 2, 1) := by decide +kernel
theorem dX5_insertSign_50 : decode cX5_insertSign 50 = .ok (.iload_n 2, 1) := by decide +kernel
theorem dX5_insertSign_51 : decode cX5_insertSign 51 = .ok (.invokevirtual 66, 3) := by decide +kernel
theorem dX5_insertSign_54 : decode cX5_insertSign 54 = .ok (.ireturn, 1) := by decide +kernel
theorem dX5_canDrop_0 : decode cX5_canDrop 0 = .ok (.iload_n 2, 1) := by decide +kernel
theorem dX5_canDrop_1 : decode cX5_canDrop 1 = .ok (.i2l, 1) := by decide +kernel
theorem dX5_canDrop_2 : decode cX5_canDrop 2 = .ok (.lconst 0, 1) := by decide +kernel
theorem dX5_canDrop_3 : decode cX5_canDrop 3 = .ok (.aload_n 0, 1) := by decide +kernel
theorem dX5_canDrop_4 : decode cX5_canDrop 4 = .ok (.getfield 13, 3) := by decide +kernel
theorem dX5_canDrop_7 : decode cX5_canDrop 7 = .ok (.iload_n 1, 1) := by decide +kernel
theorem dX5_canDrop_8 : decode cX5_canDrop 8 = .ok (.iaload, 1) := by decide +kernel
theorem dX5_canDrop_9 : decode cX5_canDrop 9 = .ok (.i2l, 1) := by decide +kernel
theorem dX5_canDrop_10 : decode cX5_canDrop 10 = .ok (.invokestatic 54, 3) := by decide +kernel
theorem dX5_canDrop_13 : decode cX5_canDrop 13 = .ok (.ifCond .eq 12, 3) := by decide +kernel
theorem dX5_canDrop_16 : decode cX5_canDrop 16 = .ok (.iload_n 2, 1) := by decide +kernel
theorem dX5_canDrop_17 : decode cX5_canDrop 17 = .ok (.iload_n 3, 1) := by decide +kernel
theorem dX5_canDrop_18 : decode cX5_canDrop 18 = .ok (.if_icmp .gt 7, 3) := by decide +kernel
theorem dX5_canDrop_21 : decode cX5_canDrop 21 = .ok (.iconst 1, 1) := by decide +kernel
theorem dX5_canDrop_22 : decode cX5_canDrop 22 = .ok (.goto 4, 3) := by decide +kernel
theorem dX5_canDrop_25 : decode cX5_canDrop 25 = .ok (.iconst 0, 1) := by decide +kernel
theorem dX5_canDrop_26 : decode cX5_canDrop 26 = .ok (.ireturn, 1) := by decide +kernel
theorem dX5_endOf_0 : decode cX5_endOf 0 = .ok (.iload_n 2, 1) := by decide +kernel
theorem dX5_endOf_1 : decode cX5_endOf 1 = .ok (.aload_n 0, 1) := by decide +kernel
theorem dX5_endOf_2 : decode cX5_endOf 2 = .ok (.getfield 13, 3) := by decide +kernel
theorem dX5_endOf_5 : decode cX5_endOf 5 = .ok (.iload_n 1, 1) := by decide +kernel
theorem dX5_endOf_6 : decode cX5_endOf 6 = .ok (.iaload, 1) := by decide +kernel
theorem dX5_endOf_7 : decode cX5_endOf 7 = .ok (.if_icmp .le 12, 3) := by decide +kernel
theorem dX5_endOf_10 : decode cX5_endOf 10 = .ok (.aload_n 0, 1) := by decide +kernel
theorem dX5_endOf_11 : decode cX5_endOf 11 = .ok (.getfield 13, 3) := by decide +kernel
theorem dX5_endOf_14 : decode cX5_endOf 14 = .ok (.iload_n 1, 1) := by decide +kernel
theorem dX5_endOf_15 : decode cX5_endOf 15 = .ok (.iaload, 1) := by decide +kernel
theorem dX5_endOf_16 : decode cX5_endOf 16 = .ok (.goto 4, 3) := by decide +kernel
theorem dX5_endOf_19 : decode cX5_endOf 19 = .ok (.iload_n 2, 1) := by decide +kernel
theorem dX5_endOf_20 : decode cX5_endOf 20 = .ok (.ireturn, 1) := by decide +kernel
theorem dX5_delete_0 : decode cX5_delete 0 = .ok (.iload_n 1, 1) := by decide +kernel
theorem dX5_delete_1 : decode cX5_delete 1 = .ok (.invokestatic 70, 3) := by decide +kernel
theorem dX5_delete_4 : decode cX5_delete 4 = .ok (.ifCond .ne 7, 3) := by decide +kernel
theorem dX5_delete_7 : decode cX5_delete 7 = .ok (.sipush (-1001), 3) := by decide +kernel
theorem dX5_delete_10 : decode cX5_delete 10 = .ok (.ireturn, 1) := by decide +kernel
theorem dX5_delete_11 : decode cX5_delete 11 = .ok (.aload_n 0, 1) := by decide +kernel
theorem dX5_delete_12 : decode cX5_delete 12 = .ok (.iload_n 1, 1) := by decide +kernel
theorem dX5_delete_13 : decode cX5_delete 13 = .ok (.iload_n 2, 1) := by decide +kernel
theorem dX5_delete_14 : decode cX5_delete 14 = .ok (.iload_n 3, 1) := by decide +kernel
theorem dX5_delete_15 : decode cX5_delete 15 = .ok (.invokevirtual 99, 3) := by decide +kernel
theorem dX5_delete_18 : decode cX5_delete 18 = .ok (.ifCond .ne 7, 3) := by decide +kernel
theorem dX5_delete_21 : decode cX5_delete 21 = .ok (.sipush (-1005), 3) := by decide +kernel
theorem dX5_delete_24 : decode cX5_delete 24 = .ok (.ireturn, 1) := by decide +kernel
theorem dX5_delete_25 : decode cX5_delete 25 = .ok (.aload_n 0, 1) := by decide +kernel
theorem dX5_delete_26 : decode cX5_delete 26 = .ok (.iconst 0, 1) := by decide +kernel
theorem dX5_delete_27 : decode cX5_delete 27 = .ok (.putfield 62, 3) := by decide +kernel
theorem dX5_delete_30 : decode cX5_delete 30 = .ok (.aload_n 0, 1) := by decide +kernel
theorem dX5_delete_31 : decode cX5_delete 31 = .ok (.iload_n 1, 1) := by decide +kernel
theorem dX5_delete_32 : decode cX5_delete 32 = .ok (.iload_n 2, 1) := by decide +kernel
theorem dX5_delete_33 : decode cX5_delete 33 = .ok (.aload_n 0, 1) := by decide +kernel
theorem dX5_delete_34 : decode cX5_delete 34 = .ok (.iload_n 1, 1) := by decide +kernel
theorem dX5_delete_35 : decode cX5_delete 35 = .ok (.iload_n 3, 1) := by decide +kernel
theorem dX5_delete_36 : decode cX5_delete 36 = .ok (.invokevirtual 103, 3) := by decide +kernel
theorem dX5_delete_39 : decode cX5_delete 39 = .ok (.invokevirtual 66, 3) := by decide +kernel
theorem dX5_delete_42 : decode cX5_delete 42 = .ok (.ireturn, 1) := by decide +kernel
theorem dX5_deleteAt_0 : decode cX5_deleteAt 0 = .ok (.iload_n 1, 1) := by decide +kernel
theorem dX5_deleteAt_1 : decode cX5_deleteAt 1 = .ok (.invokestatic 70, 3) := by decide +kernel
theorem dX5_deleteAt_4 : decode cX5_deleteAt 4 = .ok (.ifCond .ne 7, 3) := by decide +kernel
theorem dX5_deleteAt_7 : decode cX5_deleteAt 7 = .ok (.sipush (-1001), 3) := by decide +kernel
theorem dX5_deleteAt_10 : decode cX5_deleteAt 10 = .ok (.ireturn, 1) := by decide +kernel
theorem dX5_deleteAt_11 : decode cX5_deleteAt 11 = .ok (.iload_n 2, 1) := by decide +kernel
theorem dX5_deleteAt_12 : decode cX5_deleteAt 12 = .ok (.i2l, 1) := by decide +kernel
theorem dX5_deleteAt_13 : decode cX5_deleteAt 13 = .ok (.lconst 0, 1) := by decide +kernel
theorem dX5_deleteAt_14 : decode cX5_deleteAt 14 = .ok (.aload_n 0, 1) := by decide +kernel
theorem dX5_deleteAt_15 : decode cX5_deleteAt 15 = .ok (.getfield 13, 3) := by decide +kernel
theorem dX5_deleteAt_18 : decode cX5_deleteAt 18 = .ok (.iload_n 1, 1) := by decide +kernel
theorem dX5_deleteAt_19 : decode cX5_deleteAt 19 = .ok (.iaload, 1) := by decide +kernel
theorem dX5_deleteAt_20 : decode cX5_deleteAt 20 = .ok (.iconst 1, 1) := by decide +kernel
theorem dX5_deleteAt_21 : decode cX5_deleteAt 21 = .ok (.isub, 1) := by decide +kernel
theorem dX5_deleteAt_22 : decode cX5_deleteAt 22 = .ok (.i2l, 1) := by decide +kernel
theorem dX5_deleteAt_23 : decode cX5_deleteAt 23 = .ok (.invokestatic 54, 3) := by decide +kernel
theorem dX5_deleteAt_26 : decode cX5_deleteAt 26 = .ok (.ifCond .ne 7, 3) := by decide +kernel
theorem dX5_deleteAt_29 : decode cX5_deleteAt 29 = .ok (.sipush (-1005), 3) := by decide +kernel
theorem dX5_deleteAt_32 : decode cX5_deleteAt 32 = .ok (.ireturn, 1) := by decide +kernel
theorem dX5_deleteAt_33 : decode cX5_deleteAt 33 = .ok (.aload_n 0, 1) := by decide +kernel
theorem dX5_deleteAt_34 : decode cX5_deleteAt 34 = .ok (.iconst 0, 1) := by decide +kernel
theorem dX5_deleteAt_35 : decode cX5_deleteAt 35 = .ok (.putfield 62, 3) := by decide +kernel
theorem dX5_deleteAt_38 : decode cX5_deleteAt 38 = .ok (.aload_n 0, 1) := by decide +kernel
theorem dX5_deleteAt_39 : decode cX5_deleteAt 39 = .ok (.iload_n 1, 1) := by decide +kernel
theorem dX5_deleteAt_40 : decode cX5_deleteAt 40 = .ok (.iload_n 2, 1) := by decide +kernel
theorem dX5_deleteAt_41 : decode cX5_deleteAt 41 = .ok (.iload_n 2, 1) := by decide +kernel
theorem dX5_deleteAt_42 : decode cX5_deleteAt 42 = .ok (.iconst 1, 1) := by decide +kernel
theorem dX5_deleteAt_43 : decode cX5_deleteAt 43 = .ok (.iadd, 1) := by decide +kernel
theorem dX5_deleteAt_44 : decode cX5_deleteAt 44 = .ok (.invokevirtual 66, 3) := by decide +kernel
theorem dX5_deleteAt_47 : decode cX5_deleteAt 47 = .ok (.ireturn, 1) := by decide +kernel
theorem dX5_replace_0 : decode cX5_replace 0 = .ok (.iload_n 1, 1) := by decide +kernel
theorem dX5_replace_1 : decode cX5_replace 1 = .ok (.invokestatic 70, 3) := by decide +kernel
theorem dX5_replace_4 : decode cX5_replace 4 = .ok (.ifCond .eq 11, 3) := by decide +kernel
theorem dX5_replace_7 : decode cX5_replace 7 = .ok (.iload 4, 2) := by decide +kernel
theorem dX5_replace_9 : decode cX5_replace 9 = .ok (.invokestatic 87, 3) := by decide +kernel
theorem dX5_replace_12 : decode cX5_replace 12 = .ok (.ifCond .ne 7, 3) := by decide +kernel
theorem dX5_replace_15 : decode cX5_replace 15 = .ok (.sipush (-1001), 3) := by decide +kernel
theorem dX5_replace_18 : decode cX5_replace 18 = .ok (.ireturn, 1) := by decide +kernel
theorem dX5_replace_19 : decode cX5_replace 19 = .ok (.aload_n 0, 1) := by decide +kernel
theorem dX5_replace_20 : decode cX5_replace 20 = .ok (.getfield 19, 3) := by decide +kernel
theorem dX5_replace_23 : decode cX5_replace 23 = .ok (.iload 4, 2) := by decide +kernel
theorem dX5_replace_25 : decode cX5_replace 25 = .ok (.iaload, 1) := by decide +kernel
theorem dX5_replace_26 : decode cX5_replace 26 = .ok (.ifCond .ge 7, 3) := by decide +kernel
theorem dX5_replace_29 : decode cX5_replace 29 = .ok (.sipush (-1003), 3) := by decide +kernel
theorem dX5_replace_32 : decode cX5_replace 32 = .ok (.ireturn, 1) := by decide +kernel
theorem dX5_replace_33 : decode cX5_replace 33 = .ok (.aload_n 0, 1) := by decide +kernel
theorem dX5_replace_34 : decode cX5_replace 34 = .ok (.iload_n 1, 1) := by decide +kernel
theorem dX5_replace_35 : decode cX5_replace 35 = .ok (.iload_n 2, 1) := by decide +kernel
theorem dX5_replace_36 : decode cX5_replace 36 = .ok (.iload_n 3, 1) := by decide +kernel
theorem dX5_replace_37 : decode cX5_replace 37 = .ok (.invokevirtual 99, 3) := by decide +kernel
theorem dX5_replace_40 : decode cX5_replace 40 = .ok (.ifCond .ne 7, 3) := by decide +kernel
theorem dX5_replace_43 : decode cX5_replace 43 = .ok (.sipush (-1005), 3) := by decide +kernel
theorem dX5_replace_46 : decode cX5_replace 46 = .ok (.ireturn, 1) := by decide +kernel
theorem dX5_replace_47 : decode cX5_replace 47 = .ok (.aload_n 0, 1) := by decide +kernel
theorem dX5_replace_48 : decode cX5_replace 48 = .ok (.iload 4, 2) := by decide +kernel
theorem dX5_replace_50 : decode cX5_replace 50 = .ok (.invokevirtual 90, 3) := by decide +kernel
theorem dX5_replace_53 : decode cX5_replace 53 = .ok (.aload_n 0, 1) := by decide +kernel
theorem dX5_replace_54 : decode cX5_replace 54 = .ok (.iload_n 1, 1) := by decide +kernel
theorem dX5_replace_55 : decode cX5_replace 55 = .ok (.iload_n 2, 1) := by decide +kernel
theorem dX5_replace_56 : decode cX5_replace 56 = .ok (.aload_n 0, 1) := by decide +kernel
theorem dX5_replace_57 : decode cX5_replace 57 = .ok (.iload_n 1, 1) := by decide +kernel
theorem dX5_replace_58 : decode cX5_replace 58 = .ok (.iload_n 3, 1) := by decide +kernel
theorem dX5_replace_59 : decode cX5_replace 59 = .ok (.invokevirtual 103, 3) := by decide +kernel
theorem dX5_replace_62 : decode cX5_replace 62 = .ok (.invokevirtual 66, 3) := by decide +kernel
theorem dX5_replace_65 : decode cX5_replace 65 = .ok (.ireturn, 1) := by decide +kernel
theorem dX5_reverse_0 : decode cX5_reverse 0 = .ok (.iload_n 1, 1) := by decide +kernel
theorem dX5_reverse_1 : decode cX5_reverse 1 = .ok (.invokestatic 70, 3) := by decide +kernel
theorem dX5_reverse_4 : decode cX5_reverse 4 = .ok (.ifCond .ne 7, 3) := by decide +kernel
theorem dX5_reverse_7 : decode cX5_reverse 7 = .ok (.sipush (-1001), 3) := by decide +kernel
theorem dX5_reverse_10 : decode cX5_reverse 10 = .ok (.ireturn, 1) := by decide +kernel
theorem dX5_reverse_11 : decode cX5_reverse 11 = .ok (.aload_n 0, 1) := by decide +kernel
theorem dX5_reverse_12 : decode cX5_reverse 12 = .ok (.getfield 13, 3) := by decide +kernel
theorem dX5_reverse_15 : decode cX5_reverse 15 = .ok (.iload_n 1, 1) := by decide +kernel
theorem dX5_reverse_16 : decode cX5_reverse 16 = .ok (.iaload, 1) := by decide +kernel
theorem dX5_reverse_17 : decode cX5_reverse 17 = .ok (.istore_n 2, 1) := by decide +kernel
theorem dX5_reverse_18 : decode cX5_reverse 18 = .ok (.iconst 0, 1) := by decide +kernel
theorem dX5_reverse_19 : decode cX5_reverse 19 = .ok (.istore_n 3, 1) := by decide +kernel
theorem dX5_reverse_20 : decode cX5_reverse 20 = .ok (.iload_n 3, 1) := by decide +kernel
theorem dX5_reverse_21 : decode cX5_reverse 21 = .ok (.iload_n 2, 1) := by decide +kernel
theorem dX5_reverse_22 : decode cX5_reverse 22 = .ok (.if_icmp .ge 31, 3) := by decide +kernel
theorem dX5_reverse_25 : decode cX5_reverse 25 = .ok (.aload_n 0, 1) := by decide +kernel
theorem dX5_reverse_26 : decode cX5_reverse 26 = .ok (.getfield 22, 3) := by decide +kernel
theorem dX5_reverse_29 : decode cX5_reverse 29 = .ok (.iload_n 3, 1) := by decide +kernel
theorem dX5_reverse_30 : decode cX5_reverse 30 = .ok (.aload_n 0, 1) := by decide +kernel
theorem dX5_reverse_31 : decode cX5_reverse 31 = .ok (.getfield 7, 3) := by decide +kernel
theorem dX5_reverse_34 : decode cX5_reverse 34 = .ok (.sipush 200, 3) := by decide +kernel
theorem dX5_reverse_37 : decode cX5_reverse 37 = .ok (.iload_n 1, 1) := by decide +kernel
theorem dX5_reverse_38 : decode cX5_reverse 38 = .ok (.imul, 1) := by decide +kernel
theorem dX5_reverse_39 : decode cX5_reverse 39 = .ok (.iload_n 2, 1) := by decide +kernel
theorem dX5_reverse_40 : decode cX5_reverse 40 = .ok (.iadd, 1) := by decide +kernel
theorem dX5_reverse_41 : decode cX5_reverse 41 = .ok (.iconst 1, 1) := by decide +kernel
theorem dX5_reverse_42 : decode cX5_reverse 42 = .ok (.isub, 1) := by decide +kernel
theorem dX5_reverse_43 : decode cX5_reverse 43 = .ok (.iload_n 3, 1) := by decide +kernel
theorem dX5_reverse_44 : decode cX5_reverse 44 = .ok (.isub, 1) := by decide +kernel
theorem dX5_reverse_45 : decode cX5_reverse 45 = .ok (.iaload, 1) := by decide +kernel
theorem dX5_reverse_46 : decode cX5_reverse 46 = .ok (.iastore, 1) := by decide +kernel
theorem dX5_reverse_47 : decode cX5_reverse 47 = .ok (.iinc 3 1, 3) := by decide +kernel
theorem dX5_reverse_50 : decode cX5_reverse 50 = .ok (.goto (-30), 3) := by decide +kernel
theorem dX5_reverse_53 : decode cX5_reverse 53 = .ok (.iconst 0, 1) := by decide +kernel
theorem dX5_reverse_54 : decode cX5_reverse 54 = .ok (.istore_n 3, 1) := by decide +kernel
theorem dX5_reverse_55 : decode cX5_reverse 55 = .ok (.iload_n 3, 1) := by decide +kernel
theorem dX5_reverse_56 : decode cX5_reverse 56 = .ok (.iload_n 2, 1) := by decide +kernel
theorem dX5_reverse_57 : decode cX5_reverse 57 = .ok (.if_icmp .ge 27, 3) := by decide +kernel
theorem dX5_reverse_60 : decode cX5_reverse 60 = .ok (.aload_n 0, 1) := by decide +kernel
theorem dX5_reverse_61 : decode cX5_reverse 61 = .ok (.getfield 7, 3) := by decide +kernel
theorem dX5_reverse_64 : decode cX5_reverse 64 = .ok (.sipush 200, 3) := by decide +kernel
theorem dX5_reverse_67 : decode cX5_reverse 67 = .ok (.iload_n 1, 1) := by decide +kernel
theorem dX5_reverse_68 : decode cX5_reverse 68 = .ok (.imul, 1) := by decide +kernel
theorem dX5_reverse_69 : decode cX5_reverse 69 = .ok (.iload_n 3, 1) := by decide +kernel
theorem dX5_reverse_70 : decode cX5_reverse 70 = .ok (.iadd, 1) := by decide +kernel
theorem dX5_reverse_71 : decode cX5_reverse 71 = .ok (.aload_n 0, 1) := by decide +kernel
theorem dX5_reverse_72 : decode cX5_reverse 72 = .ok (.getfield 22, 3) := by decide +kernel
theorem dX5_reverse_75 : decode cX5_reverse 75 = .ok (.iload_n 3, 1) := by decide +kernel
theorem dX5_reverse_76 : decode cX5_reverse 76 = .ok (.iaload, 1) := by decide +kernel
theorem dX5_reverse_77 : decode cX5_reverse 77 = .ok (.iastore, 1) := by decide +kernel
theorem dX5_reverse_78 : decode cX5_reverse 78 = .ok (.iinc 3 1, 3) := by decide +kernel
theorem dX5_reverse_81 : decode cX5_reverse 81 = .ok (.goto (-26), 3) := by decide +kernel
theorem dX5_reverse_84 : decode cX5_reverse 84 = .ok (.iload_n 2, 1) := by decide +kernel
theorem dX5_reverse_85 : decode cX5_reverse 85 = .ok (.ireturn, 1) := by decide +kernel
theorem dX5_put_0 : decode cX5_put 0 = .ok (.iload_n 1, 1) := by decide +kernel
theorem dX5_put_1 : decode cX5_put 1 = .ok (.invokestatic 70, 3) := by decide +kernel
theorem dX5_put_4 : decode cX5_put 4 = .ok (.ifCond .ne 7, 3) := by decide +kernel
theorem dX5_put_7 : decode cX5_put 7 = .ok (.sipush (-1001), 3) := by decide +kernel
theorem dX5_put_10 : decode cX5_put 10 = .ok (.ireturn, 1) := by decide +kernel
theorem dX5_put_11 : decode cX5_put 11 = .ok (.iload_n 3, 1) := by decide +kernel
theorem dX5_put_12 : decode cX5_put 12 = .ok (.invokestatic 74, 3) := by decide +kernel
theorem dX5_put_15 : decode cX5_put 15 = .ok (.ifCond .ne 7, 3) := by decide +kernel
theorem dX5_put_18 : decode cX5_put 18 = .ok (.sipush (-1002), 3) := by decide +kernel
theorem dX5_put_21 : decode cX5_put 21 = .ok (.ireturn, 1) := by decide +kernel
theorem dX5_put_22 : decode cX5_put 22 = .ok (.iload_n 2, 1) := by decide +kernel
theorem dX5_put_23 : decode cX5_put 23 = .ok (.i2l, 1) := by decide +kernel
theorem dX5_put_24 : decode cX5_put 24 = .ok (.lconst 0, 1) := by decide +kernel
theorem dX5_put_25 : decode cX5_put 25 = .ok (.aload_n 0, 1) := by decide +kernel
theorem dX5_put_26 : decode cX5_put 26 = .ok (.getfield 13, 3) := by decide +kernel
theorem dX5_put_29 : decode cX5_put 29 = .ok (.iload_n 1, 1) := by decide +kernel
theorem dX5_put_30 : decode cX5_put 30 = .ok (.iaload, 1) := by decide +kernel
theorem dX5_put_31 : decode cX5_put 31 = .ok (.iconst 1, 1) := by decide +kernel
theorem dX5_put_32 : decode cX5_put 32 = .ok (.isub, 1) := by decide +kernel
theorem dX5_put_33 : decode cX5_put 33 = .ok (.i2l, 1) := by decide +kernel
theorem dX5_put_34 : decode cX5_put 34 = .ok (.invokestatic 54, 3) := by decide +kernel
theorem dX5_put_37 : decode cX5_put 37 = .ok (.ifCond .ne 7, 3) := by decide +kernel
theorem dX5_put_40 : decode cX5_put 40 = .ok (.sipush (-1005), 3) := by decide +kernel
theorem dX5_put_43 : decode cX5_put 43 = .ok (.ireturn, 1) := by decide +kernel
theorem dX5_put_44 : decode cX5_put 44 = .ok (.aload_n 0, 1) := by decide +kernel
theorem dX5_put_45 : decode cX5_put 45 = .ok (.getfield 7, 3) := by decide +kernel
theorem dX5_put_48 : decode cX5_put 48 = .ok (.sipush 200, 3) := by decide +kernel
theorem dX5_put_51 : decode cX5_put 51 = .ok (.iload_n 1, 1) := by decide +kernel
theorem dX5_put_52 : decode cX5_put 52 = .ok (.imul, 1) := by decide +kernel
theorem dX5_put_53 : decode cX5_put 53 = .ok (.iload_n 2, 1) := by decide +kernel
theorem dX5_put_54 : decode cX5_put 54 = .ok (.iadd, 1) := by decide +kernel
theorem dX5_put_55 : decode cX5_put 55 = .ok (.iaload, 1) := by decide +kernel
theorem dX5_put_56 : decode cX5_put 56 = .ok (.istore 4, 2) := by decide +kernel
theorem dX5_put_58 : decode cX5_put 58 = .ok (.aload_n 0, 1) := by decide +kernel
theorem dX5_put_59 : decode cX5_put 59 = .ok (.getfield 7, 3) := by decide +kernel
theorem dX5_put_62 : decode cX5_put 62 = .ok (.sipush 200, 3) := by decide +kernel
theorem dX5_put_65 : decode cX5_put 65 = .ok (.iload_n 1, 1) := by decide +kernel
theorem dX5_put_66 : decode cX5_put 66 = .ok (.imul, 1) := by decide +kernel
theorem dX5_put_67 : decode cX5_put 67 = .ok (.iload_n 2, 1) := by decide +kernel
theorem dX5_put_68 : decode cX5_put 68 = .ok (.iadd, 1) := by decide +kernel
theorem dX5_put_69 : decode cX5_put 69 = .ok (.iload_n 3, 1) := by decide +kernel
theorem dX5_put_70 : decode cX5_put 70 = .ok (.iastore, 1) := by decide +kernel
theorem dX5_put_71 : decode cX5_put 71 = .ok (.iload 4, 2) := by decide +kernel
theorem dX5_put_73 : decode cX5_put 73 = .ok (.ireturn, 1) := by decide +kernel
theorem dX5_length_0 : decode cX5_length 0 = .ok (.iload_n 1, 1) := by decide +kernel
theorem dX5_length_1 : decode cX5_length 1 = .ok (.invokestatic 70, 3) := by decide +kernel
theorem dX5_length_4 : decode cX5_length 4 = .ok (.ifCond .ne 7, 3) := by decide +kernel
theorem dX5_length_7 : decode cX5_length 7 = .ok (.sipush (-1001), 3) := by decide +kernel
theorem dX5_length_10 : decode cX5_length 10 = .ok (.ireturn, 1) := by decide +kernel
theorem dX5_length_11 : decode cX5_length 11 = .ok (.iload_n 2, 1) := by decide +kernel
theorem dX5_length_12 : decode cX5_length 12 = .ok (.ifCond .ge 7, 3) := by decide +kernel
theorem dX5_length_15 : decode cX5_length 15 = .ok (.sipush (-1004), 3) := by decide +kernel
theorem dX5_length_18 : decode cX5_length 18 = .ok (.ireturn, 1) := by decide +kernel
theorem dX5_length_19 : decode cX5_length 19 = .ok (.iload_n 2, 1) := by decide +kernel
theorem dX5_length_20 : decode cX5_length 20 = .ok (.sipush 200, 3) := by decide +kernel
theorem dX5_length_23 : decode cX5_length 23 = .ok (.if_icmp .le 7, 3) := by decide +kernel
theorem dX5_length_26 : decode cX5_length 26 = .ok (.sipush (-1007), 3) := by decide +kernel
theorem dX5_length_29 : decode cX5_length 29 = .ok (.ireturn, 1) := by decide +kernel
theorem dX5_length_30 : decode cX5_length 30 = .ok (.aload_n 0, 1) := by decide +kernel
theorem dX5_length_31 : decode cX5_length 31 = .ok (.getfield 13, 3) := by decide +kernel
theorem dX5_length_34 : decode cX5_length 34 = .ok (.iload_n 1, 1) := by decide +kernel
theorem dX5_length_35 : decode cX5_length 35 = .ok (.iaload, 1) := by decide +kernel
theorem dX5_length_36 : decode cX5_length 36 = .ok (.istore_n 3, 1) := by decide +kernel
theorem dX5_length_37 : decode cX5_length 37 = .ok (.iload_n 3, 1) := by decide +kernel
theorem dX5_length_38 : decode cX5_length 38 = .ok (.istore 4, 2) := by decide +kernel
theorem dX5_length_40 : decode cX5_length 40 = .ok (.iload 4, 2) := by decide +kernel
theorem dX5_length_42 : decode cX5_length 42 = .ok (.iload_n 2, 1) := by decide +kernel
theorem dX5_length_43 : decode cX5_length 43 = .ok (.if_icmp .ge 23, 3) := by decide +kernel
theorem dX5_length_46 : decode cX5_length 46 = .ok (.aload_n 0, 1) := by decide +kernel
theorem dX5_length_47 : decode cX5_length 47 = .ok (.getfield 7, 3) := by decide +kernel
theorem dX5_length_50 : decode cX5_length 50 = .ok (.sipush 200, 3) := by decide +kernel
theorem dX5_length_53 : decode cX5_length 53 = .ok (.iload_n 1, 1) := by decide +kernel
theorem dX5_length_54 : decode cX5_length 54 = .ok (.imul, 1) := by decide +kernel
theorem dX5_length_55 : decode cX5_length 55 = .ok (.iload 4, 2) := by decide +kernel
theorem dX5_length_57 : decode cX5_length 57 = .ok (.iadd, 1) := by decide +kernel
theorem dX5_length_58 : decode cX5_length 58 = .ok (.iconst 0, 1) := by decide +kernel
theorem dX5_length_59 : decode cX5_length 59 = .ok (.iastore, 1) := by decide +kernel
theorem dX5_length_60 : decode cX5_length 60 = .ok (.iinc 4 1, 3) := by decide +kernel
theorem dX5_length_63 : decode cX5_length 63 = .ok (.goto (-23), 3) := by decide +kernel
theorem dX5_length_66 : decode cX5_length 66 = .ok (.aload_n 0, 1) := by decide +kernel
theorem dX5_length_67 : decode cX5_length 67 = .ok (.getfield 13, 3) := by decide +kernel
theorem dX5_length_70 : decode cX5_length 70 = .ok (.iload_n 1, 1) := by decide +kernel
theorem dX5_length_71 : decode cX5_length 71 = .ok (.iload_n 2, 1) := by decide +kernel
theorem dX5_length_72 : decode cX5_length 72 = .ok (.iastore, 1) := by decide +kernel
theorem dX5_length_73 : decode cX5_length 73 = .ok (.iload_n 3, 1) := by decide +kernel
theorem dX5_length_74 : decode cX5_length 74 = .ok (.ireturn, 1) := by decide +kernel
theorem dX5_at_0 : decode cX5_at 0 = .ok (.iload_n 1, 1) := by decide +kernel
theorem dX5_at_1 : decode cX5_at 1 = .ok (.invokestatic 70, 3) := by decide +kernel
theorem dX5_at_4 : decode cX5_at 4 = .ok (.ifCond .ne 7, 3) := by decide +kernel
theorem dX5_at_7 : decode cX5_at 7 = .ok (.sipush (-1001), 3) := by decide +kernel
theorem dX5_at_10 : decode cX5_at 10 = .ok (.ireturn, 1) := by decide +kernel
theorem dX5_at_11 : decode cX5_at 11 = .ok (.iload_n 2, 1) := by decide +kernel
theorem dX5_at_12 : decode cX5_at 12 = .ok (.i2l, 1) := by decide +kernel
theorem dX5_at_13 : decode cX5_at 13 = .ok (.lconst 0, 1) := by decide +kernel
theorem dX5_at_14 : decode cX5_at 14 = .ok (.aload_n 0, 1) := by decide +kernel
theorem dX5_at_15 : decode cX5_at 15 = .ok (.getfield 13, 3) := by decide +kernel
theorem dX5_at_18 : decode cX5_at 18 = .ok (.iload_n 1, 1) := by decide +kernel
theorem dX5_at_19 : decode cX5_at 19 = .ok (.iaload, 1) := by decide +kernel
theorem dX5_at_20 : decode cX5_at 20 = .ok (.iconst 1, 1) := by decide +kernel
theorem dX5_at_21 : decode cX5_at 21 = .ok (.isub, 1) := by decide +kernel
theorem dX5_at_22 : decode cX5_at 22 = .ok (.i2l, 1) := by decide +kernel
theorem dX5_at_23 : decode cX5_at 23 = .ok (.invokestatic 54, 3) := by decide +kernel
theorem dX5_at_26 : decode cX5_at 26 = .ok (.ifCond .eq 18, 3) := by decide +kernel
theorem dX5_at_29 : decode cX5_at 29 = .ok (.aload_n 0, 1) := by decide +kernel
theorem dX5_at_30 : decode cX5_at 30 = .ok (.getfield 7, 3) := by decide +kernel
theorem dX5_at_33 : decode cX5_at 33 = .ok (.sipush 200, 3) := by decide +kernel
theorem dX5_at_36 : decode cX5_at 36 = .ok (.iload_n 1, 1) := by decide +kernel
theorem dX5_at_37 : decode cX5_at 37 = .ok (.imul, 1) := by decide +kernel
theorem dX5_at_38 : decode cX5_at 38 = .ok (.iload_n 2, 1) := by decide +kernel
theorem dX5_at_39 : decode cX5_at 39 = .ok (.iadd, 1) := by decide +kernel
theorem dX5_at_40 : decode cX5_at 40 = .ok (.iaload, 1) := by decide +kernel
theorem dX5_at_41 : decode cX5_at 41 = .ok (.goto 6, 3) := by decide +kernel
theorem dX5_at_44 : decode cX5_at 44 = .ok (.sipush (-1005), 3) := by decide +kernel
theorem dX5_at_47 : decode cX5_at 47 = .ok (.ireturn, 1) := by decide +kernel
theorem dX5_size_0 : decode cX5_size 0 = .ok (.iload_n 1, 1) := by decide +kernel
theorem dX5_size_1 : decode cX5_size 1 = .ok (.invokestatic 70, 3) := by decide +kernel
theorem dX5_size_4 : decode cX5_size 4 = .ok (.ifCond .eq 12, 3) := by decide +kernel
theorem dX5_size_7 : decode cX5_size 7 = .ok (.aload_n 0, 1) := by decide +kernel
theorem dX5_size_8 : decode cX5_size 8 = .ok (.getfield 13, 3) := by decide +kernel
theorem dX5_size_11 : decode cX5_size 11 = .ok (.iload_n 1, 1) := by decide +kernel
theorem dX5_size_12 : decode cX5_size 12 = .ok (.iaload, 1) := by decide +kernel
theorem dX5_size_13 : decode cX5_size 13 = .ok (.goto 6, 3) := by decide +kernel
theorem dX5_size_16 : decode cX5_size 16 = .ok (.sipush (-1001), 3) := by decide +kernel
theorem dX5_size_19 : decode cX5_size 19 = .ok (.ireturn, 1) := by decide +kernel
theorem dX5_stands_0 : decode cX5_stands 0 = .ok (.iload 4, 2) := by decide +kernel
theorem dX5_stands_2 : decode cX5_stands 2 = .ok (.i2l, 1) := by decide +kernel
theorem dX5_stands_3 : decode cX5_stands 3 = .ok (.lconst 0, 1) := by decide +kernel
theorem dX5_stands_4 : decode cX5_stands 4 = .ok (.iload_n 3, 1) := by decide +kernel
theorem dX5_stands_5 : decode cX5_stands 5 = .ok (.aload_n 0, 1) := by decide +kernel
theorem dX5_stands_6 : decode cX5_stands 6 = .ok (.getfield 62, 3) := by decide +kernel
theorem dX5_stands_9 : decode cX5_stands 9 = .ok (.isub, 1) := by decide +kernel
theorem dX5_stands_10 : decode cX5_stands 10 = .ok (.i2l, 1) := by decide +kernel
theorem dX5_stands_11 : decode cX5_stands 11 = .ok (.invokestatic 54, 3) := by decide +kernel
theorem dX5_stands_14 : decode cX5_stands 14 = .ok (.istore 5, 2) := by decide +kernel
theorem dX5_stands_16 : decode cX5_stands 16 = .ok (.iconst 0, 1) := by decide +kernel
theorem dX5_stands_17 : decode cX5_stands 17 = .ok (.istore 6, 2) := by decide +kernel
theorem dX5_stands_19 : decode cX5_stands 19 = .ok (.iload 6, 2) := by decide +kernel
theorem dX5_stands_21 : decode cX5_stands 21 = .ok (.aload_n 0, 1) := by decide +kernel
theorem dX5_stands_22 : decode cX5_stands 22 = .ok (.getfield 62, 3) := by decide +kernel
theorem dX5_stands_25 : decode cX5_stands 25 = .ok (.if_icmp .ge 40, 3) := by decide +kernel
theorem dX5_stands_28 : decode cX5_stands 28 = .ok (.iload 5, 2) := by decide +kernel
theorem dX5_stands_30 : decode cX5_stands 30 = .ok (.ifCond .eq 35, 3) := by decide +kernel
theorem dX5_stands_33 : decode cX5_stands 33 = .ok (.aload_n 1, 1) := by decide +kernel
theorem dX5_stands_34 : decode cX5_stands 34 = .ok (.iload_n 2, 1) := by decide +kernel
theorem dX5_stands_35 : decode cX5_stands 35 = .ok (.iload 4, 2) := by decide +kernel
theorem dX5_stands_37 : decode cX5_stands 37 = .ok (.iadd, 1) := by decide +kernel
theorem dX5_stands_38 : decode cX5_stands 38 = .ok (.iload 6, 2) := by decide +kernel
theorem dX5_stands_40 : decode cX5_stands 40 = .ok (.iadd, 1) := by decide +kernel
theorem dX5_stands_41 : decode cX5_stands 41 = .ok (.iaload, 1) := by decide +kernel
theorem dX5_stands_42 : decode cX5_stands 42 = .ok (.aload_n 0, 1) := by decide +kernel
theorem dX5_stands_43 : decode cX5_stands 43 = .ok (.getfield 22, 3) := by decide +kernel
theorem dX5_stands_46 : decode cX5_stands 46 = .ok (.iload 6, 2) := by decide +kernel
theorem dX5_stands_48 : decode cX5_stands 48 = .ok (.iaload, 1) := by decide +kernel
theorem dX5_stands_49 : decode cX5_stands 49 = .ok (.if_icmp .ne 7, 3) := by decide +kernel
theorem dX5_stands_52 : decode cX5_stands 52 = .ok (.iconst 1, 1) := by decide +kernel
theorem dX5_stands_53 : decode cX5_stands 53 = .ok (.goto 4, 3) := by decide +kernel
theorem dX5_stands_56 : decode cX5_stands 56 = .ok (.iconst 0, 1) := by decide +kernel
theorem dX5_stands_57 : decode cX5_stands 57 = .ok (.istore 5, 2) := by decide +kernel
theorem dX5_stands_59 : decode cX5_stands 59 = .ok (.iinc 6 1, 3) := by decide +kernel
theorem dX5_stands_62 : decode cX5_stands 62 = .ok (.goto (-43), 3) := by decide +kernel
theorem dX5_stands_65 : decode cX5_stands 65 = .ok (.iload 5, 2) := by decide +kernel
theorem dX5_stands_67 : decode cX5_stands 67 = .ok (.ireturn, 1) := by decide +kernel
theorem dX5_firstOf_0 : decode cX5_firstOf 0 = .ok (.iload 4, 2) := by decide +kernel
theorem dX5_firstOf_2 : decode cX5_firstOf 2 = .ok (.ifCond .ge 7, 3) := by decide +kernel
theorem dX5_firstOf_5 : decode cX5_firstOf 5 = .ok (.iconst 0, 1) := by decide +kernel
theorem dX5_firstOf_6 : decode cX5_firstOf 6 = .ok (.goto 15, 3) := by decide +kernel
theorem dX5_firstOf_9 : decode cX5_firstOf 9 = .ok (.iload 4, 2) := by decide +kernel
theorem dX5_firstOf_11 : decode cX5_firstOf 11 = .ok (.iload_n 3, 1) := by decide +kernel
theorem dX5_firstOf_12 : decode cX5_firstOf 12 = .ok (.if_icmp .le 7, 3) := by decide +kernel
theorem dX5_firstOf_15 : decode cX5_firstOf 15 = .ok (.iload_n 3, 1) := by decide +kernel
theorem dX5_firstOf_16 : decode cX5_firstOf 16 = .ok (.goto 5, 3) := by decide +kernel
theorem dX5_firstOf_19 : decode cX5_firstOf 19 = .ok (.iload 4, 2) := by decide +kernel
theorem dX5_firstOf_21 : decode cX5_firstOf 21 = .ok (.istore 5, 2) := by decide +kernel
theorem dX5_firstOf_23 : decode cX5_firstOf 23 = .ok (.iload 5, 2) := by decide +kernel
theorem dX5_firstOf_25 : decode cX5_firstOf 25 = .ok (.istore 6, 2) := by decide +kernel
theorem dX5_firstOf_27 : decode cX5_firstOf 27 = .ok (.iload 6, 2) := by decide +kernel
theorem dX5_firstOf_29 : decode cX5_firstOf 29 = .ok (.iload_n 3, 1) := by decide +kernel
theorem dX5_firstOf_30 : decode cX5_firstOf 30 = .ok (.if_icmp .gt 24, 3) := by decide +kernel
theorem dX5_firstOf_33 : decode cX5_firstOf 33 = .ok (.aload_n 0, 1) := by decide +kernel
theorem dX5_firstOf_34 : decode cX5_firstOf 34 = .ok (.aload_n 1, 1) := by decide +kernel
theorem dX5_firstOf_35 : decode cX5_firstOf 35 = .ok (.iload_n 2, 1) := by decide +kernel
theorem dX5_firstOf_36 : decode cX5_firstOf 36 = .ok (.iload_n 3, 1) := by decide +kernel
theorem dX5_firstOf_37 : decode cX5_firstOf 37 = .ok (.iload 6, 2) := by decide +kernel
theorem dX5_firstOf_39 : decode cX5_firstOf 39 = .ok (.invokevirtual 107, 3) := by decide +kernel
theorem dX5_firstOf_42 : decode cX5_firstOf 42 = .ok (.ifCond .eq 6, 3) := by decide +kernel
theorem dX5_firstOf_45 : decode cX5_firstOf 45 = .ok (.iload 6, 2) := by decide +kernel
theorem dX5_firstOf_47 : decode cX5_firstOf 47 = .ok (.ireturn, 1) := by decide +kernel
theorem dX5_firstOf_48 : decode cX5_firstOf 48 = .ok (.iinc 6 1, 3) := by decide +kernel
theorem dX5_firstOf_51 : decode cX5_firstOf 51 = .ok (.goto (-24), 3) := by decide +kernel
theorem dX5_firstOf_54 : decode cX5_firstOf 54 = .ok (.iconst (-1), 1) := by decide +kernel
theorem dX5_firstOf_55 : decode cX5_firstOf 55 = .ok (.ireturn, 1) := by decide +kernel
theorem dX5_lastOf_0 : decode cX5_lastOf 0 = .ok (.iload 4, 2) := by decide +kernel
theorem dX5_lastOf_2 : decode cX5_lastOf 2 = .ok (.iload_n 3, 1) := by decide +kernel
theorem dX5_lastOf_3 : decode cX5_lastOf 3 = .ok (.if_icmp .le 7, 3) := by decide +kernel
theorem dX5_lastOf_6 : decode cX5_lastOf 6 = .ok (.iload_n 3, 1) := by decide +kernel
theorem dX5_lastOf_7 : decode cX5_lastOf 7 = .ok (.goto 5, 3) := by decide +kernel
theorem dX5_lastOf_10 : decode cX5_lastOf 10 = .ok (.iload 4, 2) := by decide +kernel
theorem dX5_lastOf_12 : decode cX5_lastOf 12 = .ok (.istore 5, 2) := by decide +kernel
theorem dX5_lastOf_14 : decode cX5_lastOf 14 = .ok (.iload 5, 2) := by decide +kernel
theorem dX5_lastOf_16 : decode cX5_lastOf 16 = .ok (.ifCond .lt 24, 3) := by decide +kernel
theorem dX5_lastOf_19 : decode cX5_lastOf 19 = .ok (.aload_n 0, 1) := by decide +kernel
theorem dX5_lastOf_20 : decode cX5_lastOf 20 = .ok (.aload_n 1, 1) := by decide +kernel
theorem dX5_lastOf_21 : decode cX5_lastOf 21 = .ok (.iload_n 2, 1) := by decide +kernel
theorem dX5_lastOf_22 : decode cX5_lastOf 22 = .ok (.iload_n 3, 1) := by decide +kernel
theorem dX5_lastOf_23 : decode cX5_lastOf 23 = .ok (.iload 5, 2) := by decide +kernel
theorem dX5_lastOf_25 : decode cX5_lastOf 25 = .ok (.invokevirtual 107, 3) := by decide +kernel
theorem dX5_lastOf_28 : decode cX5_lastOf 28 = .ok (.ifCond .eq 6, 3) := by decide +kernel
theorem dX5_lastOf_31 : decode cX5_lastOf 31 = .ok (.iload 5, 2) := by decide +kernel
theorem dX5_lastOf_33 : decode cX5_lastOf 33 = .ok (.ireturn, 1) := by decide +kernel
theorem dX5_lastOf_34 : decode cX5_lastOf 34 = .ok (.iinc 5 (-1), 3) := by decide +kernel
theorem dX5_lastOf_37 : decode cX5_lastOf 37 = .ok (.goto (-23), 3) := by decide +kernel
theorem dX5_lastOf_40 : decode cX5_lastOf 40 = .ok (.iconst (-1), 1) := by decide +kernel
theorem dX5_lastOf_41 : decode cX5_lastOf 41 = .ok (.ireturn, 1) := by decide +kernel
theorem dX5_orderOf_0 : decode cX5_orderOf 0 = .ok (.iconst 0, 1) := by decide +kernel
theorem dX5_orderOf_1 : decode cX5_orderOf 1 = .ok (.istore 5, 2) := by decide +kernel
theorem dX5_orderOf_3 : decode cX5_orderOf 3 = .ok (.iload 5, 2) := by decide +kernel
theorem dX5_orderOf_5 : decode cX5_orderOf 5 = .ok (.iload_n 2, 1) := by decide +kernel
theorem dX5_orderOf_6 : decode cX5_orderOf 6 = .ok (.if_icmp .ge 45, 3) := by decide +kernel
theorem dX5_orderOf_9 : decode cX5_orderOf 9 = .ok (.iload 5, 2) := by decide +kernel
theorem dX5_orderOf_11 : decode cX5_orderOf 11 = .ok (.iload 4, 2) := by decide +kernel
theorem dX5_orderOf_13 : decode cX5_orderOf 13 = .ok (.if_icmp .ge 38, 3) := by decide +kernel
theorem dX5_orderOf_16 : decode cX5_orderOf 16 = .ok (.aload_n 0, 1) := by decide +kernel
theorem dX5_orderOf_17 : decode cX5_orderOf 17 = .ok (.iload_n 1, 1) := by decide +kernel
theorem dX5_orderOf_18 : decode cX5_orderOf 18 = .ok (.iload 5, 2) := by decide +kernel
theorem dX5_orderOf_20 : decode cX5_orderOf 20 = .ok (.iadd, 1) := by decide +kernel
theorem dX5_orderOf_21 : decode cX5_orderOf 21 = .ok (.iaload, 1) := by decide +kernel
theorem dX5_orderOf_22 : decode cX5_orderOf 22 = .ok (.aload_n 0, 1) := by decide +kernel
theorem dX5_orderOf_23 : decode cX5_orderOf 23 = .ok (.iload_n 3, 1) := by decide +kernel
theorem dX5_orderOf_24 : decode cX5_orderOf 24 = .ok (.iload 5, 2) := by decide +kernel
theorem dX5_orderOf_26 : decode cX5_orderOf 26 = .ok (.iadd, 1) := by decide +kernel
theorem dX5_orderOf_27 : decode cX5_orderOf 27 = .ok (.iaload, 1) := by decide +kernel
theorem dX5_orderOf_28 : decode cX5_orderOf 28 = .ok (.if_icmp .eq 17, 3) := by decide +kernel
theorem dX5_orderOf_31 : decode cX5_orderOf 31 = .ok (.aload_n 0, 1) := by decide +kernel
theorem dX5_orderOf_32 : decode cX5_orderOf 32 = .ok (.iload_n 1, 1) := by decide +kernel
theorem dX5_orderOf_33 : decode cX5_orderOf 33 = .ok (.iload 5, 2) := by decide +kernel
theorem dX5_orderOf_35 : decode cX5_orderOf 35 = .ok (.iadd, 1) := by decide +kernel
theorem dX5_orderOf_36 : decode cX5_orderOf 36 = .ok (.iaload, 1) := by decide +kernel
theorem dX5_orderOf_37 : decode cX5_orderOf 37 = .ok (.aload_n 0, 1) := by decide +kernel
theorem dX5_orderOf_38 : decode cX5_orderOf 38 = .ok (.iload_n 3, 1) := by decide +kernel
theorem dX5_orderOf_39 : decode cX5_orderOf 39 = .ok (.iload 5, 2) := by decide +kernel
theorem dX5_orderOf_41 : decode cX5_orderOf 41 = .ok (.iadd, 1) := by decide +kernel
theorem dX5_orderOf_42 : decode cX5_orderOf 42 = .ok (.iaload, 1) := by decide +kernel
theorem dX5_orderOf_43 : decode cX5_orderOf 43 = .ok (.isub, 1) := by decide +kernel
theorem dX5_orderOf_44 : decode cX5_orderOf 44 = .ok (.ireturn, 1) := by decide +kernel
theorem dX5_orderOf_45 : decode cX5_orderOf 45 = .ok (.iinc 5 1, 3) := by decide +kernel
theorem dX5_orderOf_48 : decode cX5_orderOf 48 = .ok (.goto (-45), 3) := by decide +kernel
theorem dX5_orderOf_51 : decode cX5_orderOf 51 = .ok (.iload_n 2, 1) := by decide +kernel
theorem dX5_orderOf_52 : decode cX5_orderOf 52 = .ok (.iload 4, 2) := by decide +kernel
theorem dX5_orderOf_54 : decode cX5_orderOf 54 = .ok (.isub, 1) := by decide +kernel
theorem dX5_orderOf_55 : decode cX5_orderOf 55 = .ok (.ireturn, 1) := by decide +kernel
theorem dX5_first_0 : decode cX5_first 0 = .ok (.iload_n 1, 1) := by decide +kernel
theorem dX5_first_1 : decode cX5_first 1 = .ok (.invokestatic 70, 3) := by decide +kernel
theorem dX5_first_4 : decode cX5_first 4 = .ok (.ifCond .eq 10, 3) := by decide +kernel
theorem dX5_first_7 : decode cX5_first 7 = .ok (.iload_n 2, 1) := by decide +kernel
theorem dX5_first_8 : decode cX5_first 8 = .ok (.invokestatic 87, 3) := by decide +kernel
theorem dX5_first_11 : decode cX5_first 11 = .ok (.ifCond .ne 7, 3) := by decide +kernel
theorem dX5_first_14 : decode cX5_first 14 = .ok (.sipush (-1001), 3) := by decide +kernel
theorem dX5_first_17 : decode cX5_first 17 = .ok (.ireturn, 1) := by decide +kernel
theorem dX5_first_18 : decode cX5_first 18 = .ok (.aload_n 0, 1) := by decide +kernel
theorem dX5_first_19 : decode cX5_first 19 = .ok (.getfield 19, 3) := by decide +kernel
theorem dX5_first_22 : decode cX5_first 22 = .ok (.iload_n 2, 1) := by decide +kernel
theorem dX5_first_23 : decode cX5_first 23 = .ok (.iaload, 1) := by decide +kernel
theorem dX5_first_24 : decode cX5_first 24 = .ok (.ifCond .ge 7, 3) := by decide +kernel
theorem dX5_first_27 : decode cX5_first 27 = .ok (.sipush (-1003), 3) := by decide +kernel
theorem dX5_first_30 : decode cX5_first 30 = .ok (.ireturn, 1) := by decide +kernel
theorem dX5_first_31 : decode cX5_first 31 = .ok (.aload_n 0, 1) := by decide +kernel
theorem dX5_first_32 : decode cX5_first 32 = .ok (.iload_n 2, 1) := by decide +kernel
theorem dX5_first_33 : decode cX5_first 33 = .ok (.invokevirtual 90, 3) := by decide +kernel
theorem dX5_first_36 : decode cX5_first 36 = .ok (.aload_n 0, 1) := by decide +kernel
theorem dX5_first_37 : decode cX5_first 37 = .ok (.aload_n 0, 1) := by decide +kernel
theorem dX5_first_38 : decode cX5_first 38 = .ok (.getfield 7, 3) := by decide +kernel
theorem dX5_first_41 : decode cX5_first 41 = .ok (.sipush 200, 3) := by decide +kernel
theorem dX5_first_44 : decode cX5_first 44 = .ok (.iload_n 1, 1) := by decide +kernel
theorem dX5_first_45 : decode cX5_first 45 = .ok (.imul, 1) := by decide +kernel
theorem dX5_first_46 : decode cX5_first 46 = .ok (.aload_n 0, 1) := by decide +kernel
theorem dX5_first_47 : decode cX5_first 47 = .ok (.getfield 13, 3) := by decide +kernel
theorem dX5_first_50 : decode cX5_first 50 = .ok (.iload_n 1, 1) := by decide +kernel
theorem dX5_first_51 : decode cX5_first 51 = .ok (.iaload, 1) := by decide +kernel
theorem dX5_first_52 : decode cX5_first 52 = .ok (.iload_n 3, 1) := by decide +kernel
theorem dX5_first_53 : decode cX5_first 53 = .ok (.invokevirtual 111, 3) := by decide +kernel
theorem dX5_first_56 : decode cX5_first 56 = .ok (.ireturn, 1) := by decide +kernel
theorem dX5_last_0 : decode cX5_last 0 = .ok (.iload_n 1, 1) := by decide +kernel
theorem dX5_last_1 : decode cX5_last 1 = .ok (.invokestatic 70, 3) := by decide +kernel
theorem dX5_last_4 : decode cX5_last 4 = .ok (.ifCond .eq 10, 3) := by decide +kernel
theorem dX5_last_7 : decode cX5_last 7 = .ok (.iload_n 2, 1) := by decide +kernel
theorem dX5_last_8 : decode cX5_last 8 = .ok (.invokestatic 87, 3) := by decide +kernel
theorem dX5_last_11 : decode cX5_last 11 = .ok (.ifCond .ne 7, 3) := by decide +kernel
theorem dX5_last_14 : decode cX5_last 14 = .ok (.sipush (-1001), 3) := by decide +kernel
theorem dX5_last_17 : decode cX5_last 17 = .ok (.ireturn, 1) := by decide +kernel
theorem dX5_last_18 : decode cX5_last 18 = .ok (.aload_n 0, 1) := by decide +kernel
theorem dX5_last_19 : decode cX5_last 19 = .ok (.getfield 19, 3) := by decide +kernel
theorem dX5_last_22 : decode cX5_last 22 = .ok (.iload_n 2, 1) := by decide +kernel
theorem dX5_last_23 : decode cX5_last 23 = .ok (.iaload, 1) := by decide +kernel
theorem dX5_last_24 : decode cX5_last 24 = .ok (.ifCond .ge 7, 3) := by decide +kernel
theorem dX5_last_27 : decode cX5_last 27 = .ok (.sipush (-1003), 3) := by decide +kernel
theorem dX5_last_30 : decode cX5_last 30 = .ok (.ireturn, 1) := by decide +kernel
theorem dX5_last_31 : decode cX5_last 31 = .ok (.aload_n 0, 1) := by decide +kernel
theorem dX5_last_32 : decode cX5_last 32 = .ok (.iload_n 2, 1) := by decide +kernel
theorem dX5_last_33 : decode cX5_last 33 = .ok (.invokevirtual 90, 3) := by decide +kernel
theorem dX5_last_36 : decode cX5_last 36 = .ok (.aload_n 0, 1) := by decide +kernel
theorem dX5_last_37 : decode cX5_last 37 = .ok (.aload_n 0, 1) := by decide +kernel
theorem dX5_last_38 : decode cX5_last 38 = .ok (.getfield 7, 3) := by decide +kernel
theorem dX5_last_41 : decode cX5_last 41 = .ok (.sipush 200, 3) := by decide +kernel
theorem dX5_last_44 : decode cX5_last 44 = .ok (.iload_n 1, 1) := by decide +kernel
theorem dX5_last_45 : decode cX5_last 45 = .ok (.imul, 1) := by decide +kernel
theorem dX5_last_46 : decode cX5_last 46 = .ok (.aload_n 0, 1) := by decide +kernel
theorem dX5_last_47 : decode cX5_last 47 = .ok (.getfield 13, 3) := by decide +kernel
theorem dX5_last_50 : decode cX5_last 50 = .ok (.iload_n 1, 1) := by decide +kernel
theorem dX5_last_51 : decode cX5_last 51 = .ok (.iaload, 1) := by decide +kernel
theorem dX5_last_52 : decode cX5_last 52 = .ok (.iload_n 3, 1) := by decide +kernel
theorem dX5_last_53 : decode cX5_last 53 = .ok (.invokevirtual 115, 3) := by decide +kernel
theorem dX5_last_56 : decode cX5_last 56 = .ok (.ireturn, 1) := by decide +kernel
theorem dX5_take_0 : decode cX5_take 0 = .ok (.iload_n 1, 1) := by decide +kernel
theorem dX5_take_1 : decode cX5_take 1 = .ok (.invokestatic 70, 3) := by decide +kernel
theorem dX5_take_4 : decode cX5_take 4 = .ok (.ifCond .eq 11, 3) := by decide +kernel
theorem dX5_take_7 : decode cX5_take 7 = .ok (.iload 4, 2) := by decide +kernel
theorem dX5_take_9 : decode cX5_take 9 = .ok (.invokestatic 87, 3) := by decide +kernel
theorem dX5_take_12 : decode cX5_take 12 = .ok (.ifCond .ne 7, 3) := by decide +kernel
theorem dX5_take_15 : decode cX5_take 15 = .ok (.sipush (-1001), 3) := by decide +kernel
theorem dX5_take_18 : decode cX5_take 18 = .ok (.ireturn, 1) := by decide +kernel
theorem dX5_take_19 : decode cX5_take 19 = .ok (.iload_n 2, 1) := by decide +kernel
theorem dX5_take_20 : decode cX5_take 20 = .ok (.ifCond .lt 18, 3) := by decide +kernel
theorem dX5_take_23 : decode cX5_take 23 = .ok (.iload_n 3, 1) := by decide +kernel
theorem dX5_take_24 : decode cX5_take 24 = .ok (.aload_n 0, 1) := by decide +kernel
theorem dX5_take_25 : decode cX5_take 25 = .ok (.getfield 13, 3) := by decide +kernel
theorem dX5_take_28 : decode cX5_take 28 = .ok (.iload_n 1, 1) := by decide +kernel
theorem dX5_take_29 : decode cX5_take 29 = .ok (.iaload, 1) := by decide +kernel
theorem dX5_take_30 : decode cX5_take 30 = .ok (.if_icmp .gt 8, 3) := by decide +kernel
theorem dX5_take_33 : decode cX5_take 33 = .ok (.iload_n 2, 1) := by decide +kernel
theorem dX5_take_34 : decode cX5_take 34 = .ok (.iload_n 3, 1) := by decide +kernel
theorem dX5_take_35 : decode cX5_take 35 = .ok (.if_icmp .le 7, 3) := by decide +kernel
theorem dX5_take_38 : decode cX5_take 38 = .ok (.sipush (-1005), 3) := by decide +kernel
theorem dX5_take_41 : decode cX5_take 41 = .ok (.ireturn, 1) := by decide +kernel
theorem dX5_take_42 : decode cX5_take 42 = .ok (.aload_n 0, 1) := by decide +kernel
theorem dX5_take_43 : decode cX5_take 43 = .ok (.iload_n 3, 1) := by decide +kernel
theorem dX5_take_44 : decode cX5_take 44 = .ok (.iload_n 2, 1) := by decide +kernel
theorem dX5_take_45 : decode cX5_take 45 = .ok (.isub, 1) := by decide +kernel
theorem dX5_take_46 : decode cX5_take 46 = .ok (.putfield 62, 3) := by decide +kernel
theorem dX5_take_49 : decode cX5_take 49 = .ok (.iload_n 2, 1) := by decide +kernel
theorem dX5_take_50 : decode cX5_take 50 = .ok (.istore 5, 2) := by decide +kernel
theorem dX5_take_52 : decode cX5_take 52 = .ok (.iload 5, 2) := by decide +kernel
theorem dX5_take_54 : decode cX5_take 54 = .ok (.iload_n 3, 1) := by decide +kernel
theorem dX5_take_55 : decode cX5_take 55 = .ok (.if_icmp .ge 31, 3) := by decide +kernel
theorem dX5_take_58 : decode cX5_take 58 = .ok (.aload_n 0, 1) := by decide +kernel
theorem dX5_take_59 : decode cX5_take 59 = .ok (.getfield 22, 3) := by decide +kernel
theorem dX5_take_62 : decode cX5_take 62 = .ok (.iload 5, 2) := by decide +kernel
theorem dX5_take_64 : decode cX5_take 64 = .ok (.iload_n 2, 1) := by decide +kernel
theorem dX5_take_65 : decode cX5_take 65 = .ok (.isub, 1) := by decide +kernel
theorem dX5_take_66 : decode cX5_take 66 = .ok (.aload_n 0, 1) := by decide +kernel
theorem dX5_take_67 : decode cX5_take 67 = .ok (.getfield 7, 3) := by decide +kernel
theorem dX5_take_70 : decode cX5_take 70 = .ok (.sipush 200, 3) := by decide +kernel
theorem dX5_take_73 : decode cX5_take 73 = .ok (.iload_n 1, 1) := by decide +kernel
theorem dX5_take_74 : decode cX5_take 74 = .ok (.imul, 1) := by decide +kernel
theorem dX5_take_75 : decode cX5_take 75 = .ok (.iload 5, 2) := by decide +kernel
theorem dX5_take_77 : decode cX5_take 77 = .ok (.iadd, 1) := by decide +kernel
theorem dX5_take_78 : decode cX5_take 78 = .ok (.iaload, 1) := by decide +kernel
theorem dX5_take_79 : decode cX5_take 79 = .ok (.iastore, 1) := by decide +kernel
theorem dX5_take_80 : decode cX5_take 80 = .ok (.iinc 5 1, 3) := by decide +kernel
theorem dX5_take_83 : decode cX5_take 83 = .ok (.goto (-31), 3) := by decide +kernel
theorem dX5_take_86 : decode cX5_take 86 = .ok (.aload_n 0, 1) := by decide +kernel
theorem dX5_take_87 : decode cX5_take 87 = .ok (.iload 4, 2) := by decide +kernel
theorem dX5_take_89 : decode cX5_take 89 = .ok (.invokevirtual 118, 3) := by decide +kernel
theorem dX5_take_92 : decode cX5_take 92 = .ok (.ireturn, 1) := by decide +kernel
theorem dX5_ahead_0 : decode cX5_ahead 0 = .ok (.iload_n 1, 1) := by decide +kernel
theorem dX5_ahead_1 : decode cX5_ahead 1 = .ok (.invokestatic 70, 3) := by decide +kernel
theorem dX5_ahead_4 : decode cX5_ahead 4 = .ok (.ifCond .eq 10, 3) := by decide +kernel
theorem dX5_ahead_7 : decode cX5_ahead 7 = .ok (.iload_n 2, 1) := by decide +kernel
theorem dX5_ahead_8 : decode cX5_ahead 8 = .ok (.invokestatic 70, 3) := by decide +kernel
theorem dX5_ahead_11 : decode cX5_ahead 11 = .ok (.ifCond .ne 7, 3) := by decide +kernel
theorem dX5_ahead_14 : decode cX5_ahead 14 = .ok (.sipush (-1001), 3) := by decide +kernel
theorem dX5_ahead_17 : decode cX5_ahead 17 = .ok (.ireturn, 1) := by decide +kernel
theorem dX5_ahead_18 : decode cX5_ahead 18 = .ok (.aload_n 0, 1) := by decide +kernel
theorem dX5_ahead_19 : decode cX5_ahead 19 = .ok (.getfield 7, 3) := by decide +kernel
theorem dX5_ahead_22 : decode cX5_ahead 22 = .ok (.sipush 200, 3) := by decide +kernel
theorem dX5_ahead_25 : decode cX5_ahead 25 = .ok (.iload_n 1, 1) := by decide +kernel
theorem dX5_ahead_26 : decode cX5_ahead 26 = .ok (.imul, 1) := by decide +kernel
theorem dX5_ahead_27 : decode cX5_ahead 27 = .ok (.aload_n 0, 1) := by decide +kernel
theorem dX5_ahead_28 : decode cX5_ahead 28 = .ok (.getfield 13, 3) := by decide +kernel
theorem dX5_ahead_31 : decode cX5_ahead 31 = .ok (.iload_n 1, 1) := by decide +kernel
theorem dX5_ahead_32 : decode cX5_ahead 32 = .ok (.iaload, 1) := by decide +kernel
theorem dX5_ahead_33 : decode cX5_ahead 33 = .ok (.sipush 200, 3) := by decide +kernel
theorem dX5_ahead_36 : decode cX5_ahead 36 = .ok (.iload_n 2, 1) := by decide +kernel
theorem dX5_ahead_37 : decode cX5_ahead 37 = .ok (.imul, 1) := by decide +kernel
theorem dX5_ahead_38 : decode cX5_ahead 38 = .ok (.aload_n 0, 1) := by decide +kernel
theorem dX5_ahead_39 : decode cX5_ahead 39 = .ok (.getfield 13, 3) := by decide +kernel
theorem dX5_ahead_42 : decode cX5_ahead 42 = .ok (.iload_n 2, 1) := by decide +kernel
theorem dX5_ahead_43 : decode cX5_ahead 43 = .ok (.iaload, 1) := by decide +kernel
theorem dX5_ahead_44 : decode cX5_ahead 44 = .ok (.invokestatic 121, 3) := by decide +kernel
theorem dX5_ahead_47 : decode cX5_ahead 47 = .ok (.istore_n 3, 1) := by decide +kernel
theorem dX5_ahead_48 : decode cX5_ahead 48 = .ok (.iload_n 3, 1) := by decide +kernel
theorem dX5_ahead_49 : decode cX5_ahead 49 = .ok (.ifCond .le 7, 3) := by decide +kernel
theorem dX5_ahead_52 : decode cX5_ahead 52 = .ok (.iconst 1, 1) := by decide +kernel
theorem dX5_ahead_53 : decode cX5_ahead 53 = .ok (.goto 12, 3) := by decide +kernel
theorem dX5_ahead_56 : decode cX5_ahead 56 = .ok (.iload_n 3, 1) := by decide +kernel
theorem dX5_ahead_57 : decode cX5_ahead 57 = .ok (.ifCond .ge 7, 3) := by decide +kernel
theorem dX5_ahead_60 : decode cX5_ahead 60 = .ok (.iconst (-1), 1) := by decide +kernel
theorem dX5_ahead_61 : decode cX5_ahead 61 = .ok (.goto 4, 3) := by decide +kernel
theorem dX5_ahead_64 : decode cX5_ahead 64 = .ok (.iconst 0, 1) := by decide +kernel
theorem dX5_ahead_65 : decode cX5_ahead 65 = .ok (.ireturn, 1) := by decide +kernel
theorem dX5_forget_0 : decode cX5_forget 0 = .ok (.iload_n 1, 1) := by decide +kernel
theorem dX5_forget_1 : decode cX5_forget 1 = .ok (.invokestatic 87, 3) := by decide +kernel
theorem dX5_forget_4 : decode cX5_forget 4 = .ok (.ifCond .ne 7, 3) := by decide +kernel
theorem dX5_forget_7 : decode cX5_forget 7 = .ok (.sipush (-1001), 3) := by decide +kernel
theorem dX5_forget_10 : decode cX5_forget 10 = .ok (.ireturn, 1) := by decide +kernel
theorem dX5_forget_11 : decode cX5_forget 11 = .ok (.aload_n 0, 1) := by decide +kernel
theorem dX5_forget_12 : decode cX5_forget 12 = .ok (.getfield 19, 3) := by decide +kernel
theorem dX5_forget_15 : decode cX5_forget 15 = .ok (.iload_n 1, 1) := by decide +kernel
theorem dX5_forget_16 : decode cX5_forget 16 = .ok (.iaload, 1) := by decide +kernel
theorem dX5_forget_17 : decode cX5_forget 17 = .ok (.ifCond .lt 7, 3) := by decide +kernel
theorem dX5_forget_20 : decode cX5_forget 20 = .ok (.iconst 1, 1) := by decide +kernel
theorem dX5_forget_21 : decode cX5_forget 21 = .ok (.goto 4, 3) := by decide +kernel
theorem dX5_forget_24 : decode cX5_forget 24 = .ok (.iconst 0, 1) := by decide +kernel
theorem dX5_forget_25 : decode cX5_forget 25 = .ok (.istore_n 2, 1) := by decide +kernel
theorem dX5_forget_26 : decode cX5_forget 26 = .ok (.aload_n 0, 1) := by decide +kernel
theorem dX5_forget_27 : decode cX5_forget 27 = .ok (.getfield 19, 3) := by decide +kernel
theorem dX5_forget_30 : decode cX5_forget 30 = .ok (.iload_n 1, 1) := by decide +kernel
theorem dX5_forget_31 : decode cX5_forget 31 = .ok (.iconst (-1), 1) := by decide +kernel
theorem dX5_forget_32 : decode cX5_forget 32 = .ok (.iastore, 1) := by decide +kernel
theorem dX5_forget_33 : decode cX5_forget 33 = .ok (.iload_n 2, 1) := by decide +kernel
theorem dX5_forget_34 : decode cX5_forget 34 = .ok (.ifCond .eq 7, 3) := by decide +kernel
theorem dX5_forget_37 : decode cX5_forget 37 = .ok (.iconst 1, 1) := by decide +kernel
theorem dX5_forget_38 : decode cX5_forget 38 = .ok (.goto 4, 3) := by decide +kernel
theorem dX5_forget_41 : decode cX5_forget 41 = .ok (.iconst 0, 1) := by decide +kernel
theorem dX5_forget_42 : decode cX5_forget 42 = .ok (.ireturn, 1) := by decide +kernel
theorem dX5_textSize_0 : decode cX5_textSize 0 = .ok (.iload_n 1, 1) := by decide +kernel
theorem dX5_textSize_1 : decode cX5_textSize 1 = .ok (.invokestatic 87, 3) := by decide +kernel
theorem dX5_textSize_4 : decode cX5_textSize 4 = .ok (.ifCond .eq 12, 3) := by decide +kernel
theorem dX5_textSize_7 : decode cX5_textSize 7 = .ok (.aload_n 0, 1) := by decide +kernel
theorem dX5_textSize_8 : decode cX5_textSize 8 = .ok (.getfield 19, 3) := by decide +kernel
theorem dX5_textSize_11 : decode cX5_textSize 11 = .ok (.iload_n 1, 1) := by decide +kernel
theorem dX5_textSize_12 : decode cX5_textSize 12 = .ok (.iaload, 1) := by decide +kernel
theorem dX5_textSize_13 : decode cX5_textSize 13 = .ok (.goto 6, 3) := by decide +kernel
theorem dX5_textSize_16 : decode cX5_textSize 16 = .ok (.sipush (-1001), 3) := by decide +kernel
theorem dX5_textSize_19 : decode cX5_textSize 19 = .ok (.ireturn, 1) := by decide +kernel
theorem dX5_signAt_0 : decode cX5_signAt 0 = .ok (.iload_n 1, 1) := by decide +kernel
theorem dX5_signAt_1 : decode cX5_signAt 1 = .ok (.invokestatic 87, 3) := by decide +kernel
theorem dX5_signAt_4 : decode cX5_signAt 4 = .ok (.ifCond .ne 7, 3) := by decide +kernel
theorem dX5_signAt_7 : decode cX5_signAt 7 = .ok (.sipush (-1001), 3) := by decide +kernel
theorem dX5_signAt_10 : decode cX5_signAt 10 = .ok (.ireturn, 1) := by decide +kernel
theorem dX5_signAt_11 : decode cX5_signAt 11 = .ok (.aload_n 0, 1) := by decide +kernel
theorem dX5_signAt_12 : decode cX5_signAt 12 = .ok (.getfield 19, 3) := by decide +kernel
theorem dX5_signAt_15 : decode cX5_signAt 15 = .ok (.iload_n 1, 1) := by decide +kernel
theorem dX5_signAt_16 : decode cX5_signAt 16 = .ok (.iaload, 1) := by decide +kernel
theorem dX5_signAt_17 : decode cX5_signAt 17 = .ok (.ifCond .ge 7, 3) := by decide +kernel
theorem dX5_signAt_20 : decode cX5_signAt 20 = .ok (.sipush (-1003), 3) := by decide +kernel
theorem dX5_signAt_23 : decode cX5_signAt 23 = .ok (.ireturn, 1) := by decide +kernel
theorem dX5_signAt_24 : decode cX5_signAt 24 = .ok (.iload_n 2, 1) := by decide +kernel
theorem dX5_signAt_25 : decode cX5_signAt 25 = .ok (.i2l, 1) := by decide +kernel
theorem dX5_signAt_26 : decode cX5_signAt 26 = .ok (.lconst 0, 1) := by decide +kernel
theorem dX5_signAt_27 : decode cX5_signAt 27 = .ok (.aload_n 0, 1) := by decide +kernel
theorem dX5_signAt_28 : decode cX5_signAt 28 = .ok (.getfield 19, 3) := by decide +kernel
theorem dX5_signAt_31 : decode cX5_signAt 31 = .ok (.iload_n 1, 1) := by decide +kernel
theorem dX5_signAt_32 : decode cX5_signAt 32 = .ok (.iaload, 1) := by decide +kernel
theorem dX5_signAt_33 : decode cX5_signAt 33 = .ok (.iconst 1, 1) := by decide +kernel
theorem dX5_signAt_34 : decode cX5_signAt 34 = .ok (.isub, 1) := by decide +kernel
theorem dX5_signAt_35 : decode cX5_signAt 35 = .ok (.i2l, 1) := by decide +kernel
theorem dX5_signAt_36 : decode cX5_signAt 36 = .ok (.invokestatic 54, 3) := by decide +kernel
theorem dX5_signAt_39 : decode cX5_signAt 39 = .ok (.ifCond .eq 18, 3) := by decide +kernel
theorem dX5_signAt_42 : decode cX5_signAt 42 = .ok (.aload_n 0, 1) := by decide +kernel
theorem dX5_signAt_43 : decode cX5_signAt 43 = .ok (.getfield 16, 3) := by decide +kernel
theorem dX5_signAt_46 : decode cX5_signAt 46 = .ok (.sipush 200, 3) := by decide +kernel
theorem dX5_signAt_49 : decode cX5_signAt 49 = .ok (.iload_n 1, 1) := by decide +kernel
theorem dX5_signAt_50 : decode cX5_signAt 50 = .ok (.imul, 1) := by decide +kernel
theorem dX5_signAt_51 : decode cX5_signAt 51 = .ok (.iload_n 2, 1) := by decide +kernel
theorem dX5_signAt_52 : decode cX5_signAt 52 = .ok (.iadd, 1) := by decide +kernel
theorem dX5_signAt_53 : decode cX5_signAt 53 = .ok (.iaload, 1) := by decide +kernel
theorem dX5_signAt_54 : decode cX5_signAt 54 = .ok (.goto 6, 3) := by decide +kernel
theorem dX5_signAt_57 : decode cX5_signAt 57 = .ok (.sipush (-1005), 3) := by decide +kernel
theorem dX5_signAt_60 : decode cX5_signAt 60 = .ok (.ireturn, 1) := by decide +kernel
theorem dX5_bars_0 : decode cX5_bars 0 = .ok (.iload_n 1, 1) := by decide +kernel
theorem dX5_bars_1 : decode cX5_bars 1 = .ok (.invokestatic 87, 3) := by decide +kernel
theorem dX5_bars_4 : decode cX5_bars 4 = .ok (.ifCond .ne 9, 3) := by decide +kernel
theorem dX5_bars_7 : decode cX5_bars 7 = .ok (.sipush (-1001), 3) := by decide +kernel
theorem dX5_bars_10 : decode cX5_bars 10 = .ok (.goto 32, 3) := by decide +kernel
theorem dX5_bars_13 : decode cX5_bars 13 = .ok (.iload_n 2, 1) := by decide +kernel
theorem dX5_bars_14 : decode cX5_bars 14 = .ok (.invokestatic 74, 3) := by decide +kernel
theorem dX5_bars_17 : decode cX5_bars 17 = .ok (.ifCond .ne 9, 3) := by decide +kernel
theorem dX5_bars_20 : decode cX5_bars 20 = .ok (.sipush (-1002), 3) := by decide +kernel
theorem dX5_bars_23 : decode cX5_bars 23 = .ok (.goto 19, 3) := by decide +kernel
theorem dX5_bars_26 : decode cX5_bars 26 = .ok (.aload_n 0, 1) := by decide +kernel
theorem dX5_bars_27 : decode cX5_bars 27 = .ok (.getfield 19, 3) := by decide +kernel
theorem dX5_bars_30 : decode cX5_bars 30 = .ok (.iload_n 1, 1) := by decide +kernel
theorem dX5_bars_31 : decode cX5_bars 31 = .ok (.iaload, 1) := by decide +kernel
theorem dX5_bars_32 : decode cX5_bars 32 = .ok (.ifCond .ge 9, 3) := by decide +kernel
theorem dX5_bars_35 : decode cX5_bars 35 = .ok (.sipush (-1003), 3) := by decide +kernel
theorem dX5_bars_38 : decode cX5_bars 38 = .ok (.goto 4, 3) := by decide +kernel
theorem dX5_bars_41 : decode cX5_bars 41 = .ok (.iconst 0, 1) := by decide +kernel
theorem dX5_bars_42 : decode cX5_bars 42 = .ok (.ireturn, 1) := by decide +kernel
theorem dX5_firstSign_0 : decode cX5_firstSign 0 = .ok (.aload_n 0, 1) := by decide +kernel
theorem dX5_firstSign_1 : decode cX5_firstSign 1 = .ok (.iload_n 1, 1) := by decide +kernel
theorem dX5_firstSign_2 : decode cX5_firstSign 2 = .ok (.iload_n 2, 1) := by decide +kernel
theorem dX5_firstSign_3 : decode cX5_firstSign 3 = .ok (.invokevirtual 125, 3) := by decide +kernel
theorem dX5_firstSign_6 : decode cX5_firstSign 6 = .ok (.istore 4, 2) := by decide +kernel
theorem dX5_firstSign_8 : decode cX5_firstSign 8 = .ok (.iload 4, 2) := by decide +kernel
theorem dX5_firstSign_10 : decode cX5_firstSign 10 = .ok (.ifCond .ge 6, 3) := by decide +kernel
theorem dX5_firstSign_13 : decode cX5_firstSign 13 = .ok (.iload 4, 2) := by decide +kernel
theorem dX5_firstSign_15 : decode cX5_firstSign 15 = .ok (.ireturn, 1) := by decide +kernel
theorem dX5_firstSign_16 : decode cX5_firstSign 16 = .ok (.aload_n 0, 1) := by decide +kernel
theorem dX5_firstSign_17 : decode cX5_firstSign 17 = .ok (.iload_n 2, 1) := by decide +kernel
theorem dX5_firstSign_18 : decode cX5_firstSign 18 = .ok (.invokevirtual 77, 3) := by decide +kernel
theorem dX5_firstSign_21 : decode cX5_firstSign 21 = .ok (.aload_n 0, 1) := by decide +kernel
theorem dX5_firstSign_22 : decode cX5_firstSign 22 = .ok (.aload_n 0, 1) := by decide +kernel
theorem dX5_firstSign_23 : decode cX5_firstSign 23 = .ok (.getfield 16, 3) := by decide +kernel
theorem dX5_firstSign_26 : decode cX5_firstSign 26 = .ok (.sipush 200, 3) := by decide +kernel
theorem dX5_firstSign_29 : decode cX5_firstSign 29 = .ok (.iload_n 1, 1) := by decide +kernel
theorem dX5_firstSign_30 : decode cX5_firstSign 30 = .ok (.imul, 1) := by decide +kernel
theorem dX5_firstSign_31 : decode cX5_firstSign 31 = .ok (.aload_n 0, 1) := by decide +kernel
theorem dX5_firstSign_32 : decode cX5_firstSign 32 = .ok (.getfield 19, 3) := by decide +kernel
theorem dX5_firstSign_35 : decode cX5_firstSign 35 = .ok (.iload_n 1, 1) := by decide +kernel
theorem dX5_firstSign_36 : decode cX5_firstSign 36 = .ok (.iaload, 1) := by decide +kernel
theorem dX5_firstSign_37 : decode cX5_firstSign 37 = .ok (.iload_n 3, 1) := by decide +kernel
theorem dX5_firstSign_38 : decode cX5_firstSign 38 = .ok (.invokevirtual 111, 3) := by decide +kernel
theorem dX5_firstSign_41 : decode cX5_firstSign 41 = .ok (.ireturn, 1) := by decide +kernel
theorem dX5_lastSign_0 : decode cX5_lastSign 0 = .ok (.aload_n 0, 1) := by decide +kernel
theorem dX5_lastSign_1 : decode cX5_lastSign 1 = .ok (.iload_n 1, 1) := by decide +kernel
theorem dX5_lastSign_2 : decode cX5_lastSign 2 = .ok (.iload_n 2, 1) := by decide +kernel
theorem dX5_lastSign_3 : decode cX5_lastSign 3 = .ok (.invokevirtual 125, 3) := by decide +kernel
theorem dX5_lastSign_6 : decode cX5_lastSign 6 = .ok (.istore 4, 2) := by decide +kernel
theorem dX5_lastSign_8 : decode cX5_lastSign 8 = .ok (.iload 4, 2) := by decide +kernel
theorem dX5_lastSign_10 : decode cX5_lastSign 10 = .ok (.ifCond .ge 6, 3) := by decide +kernel
theorem dX5_lastSign_13 : decode cX5_lastSign 13 = .ok (.iload 4, 2) := by decide +kernel
theorem dX5_lastSign_15 : decode cX5_lastSign 15 = .ok (.ireturn, 1) := by decide +kernel
theorem dX5_lastSign_16 : decode cX5_lastSign 16 = .ok (.aload_n 0, 1) := by decide +kernel
theorem dX5_lastSign_17 : decode cX5_lastSign 17 = .ok (.iload_n 2, 1) := by decide +kernel
theorem dX5_lastSign_18 : decode cX5_lastSign 18 = .ok (.invokevirtual 77, 3) := by decide +kernel
theorem dX5_lastSign_21 : decode cX5_lastSign 21 = .ok (.aload_n 0, 1) := by decide +kernel
theorem dX5_lastSign_22 : decode cX5_lastSign 22 = .ok (.aload_n 0, 1) := by decide +kernel
theorem dX5_lastSign_23 : decode cX5_lastSign 23 = .ok (.getfield 16, 3) := by decide +kernel
theorem dX5_lastSign_26 : decode cX5_lastSign 26 = .ok (.sipush 200, 3) := by decide +kernel
theorem dX5_lastSign_29 : decode cX5_lastSign 29 = .ok (.iload_n 1, 1) := by decide +kernel
theorem dX5_lastSign_30 : decode cX5_lastSign 30 = .ok (.imul, 1) := by decide +kernel
theorem dX5_lastSign_31 : decode cX5_lastSign 31 = .ok (.aload_n 0, 1) := by decide +kernel
theorem dX5_lastSign_32 : decode cX5_lastSign 32 = .ok (.getfield 19, 3) := by decide +kernel
theorem dX5_lastSign_35 : decode cX5_lastSign 35 = .ok (.iload_n 1, 1) := by decide +kernel
theorem dX5_lastSign_36 : decode cX5_lastSign 36 = .ok (.iaload, 1) := by decide +kernel
theorem dX5_lastSign_37 : decode cX5_lastSign 37 = .ok (.iload_n 3, 1) := by decide +kernel
theorem dX5_lastSign_38 : decode cX5_lastSign 38 = .ok (.invokevirtual 115, 3) := by decide +kernel
theorem dX5_lastSign_41 : decode cX5_lastSign 41 = .ok (.ireturn, 1) := by decide +kernel
theorem dX5_barsTwo_0 : decode cX5_barsTwo 0 = .ok (.iload_n 1, 1) := by decide +kernel
theorem dX5_barsTwo_1 : decode cX5_barsTwo 1 = .ok (.invokestatic 87, 3) := by decide +kernel
theorem dX5_barsTwo_4 : decode cX5_barsTwo 4 = .ok (.ifCond .eq 10, 3) := by decide +kernel
theorem dX5_barsTwo_7 : decode cX5_barsTwo 7 = .ok (.iload_n 2, 1) := by decide +kernel
theorem dX5_barsTwo_8 : decode cX5_barsTwo 8 = .ok (.invokestatic 87, 3) := by decide +kernel
theorem dX5_barsTwo_11 : decode cX5_barsTwo 11 = .ok (.ifCond .ne 9, 3) := by decide +kernel
theorem dX5_barsTwo_14 : decode cX5_barsTwo 14 = .ok (.sipush (-1001), 3) := by decide +kernel
theorem dX5_barsTwo_17 : decode cX5_barsTwo 17 = .ok (.goto 28, 3) := by decide +kernel
theorem dX5_barsTwo_20 : decode cX5_barsTwo 20 = .ok (.aload_n 0, 1) := by decide +kernel
theorem dX5_barsTwo_21 : decode cX5_barsTwo 21 = .ok (.getfield 19, 3) := by decide +kernel
theorem dX5_barsTwo_24 : decode cX5_barsTwo 24 = .ok (.iload_n 1, 1) := by decide +kernel
theorem dX5_barsTwo_25 : decode cX5_barsTwo 25 = .ok (.iaload, 1) := by decide +kernel
theorem dX5_barsTwo_26 : decode cX5_barsTwo 26 = .ok (.ifCond .lt 12, 3) := by decide +kernel
theorem dX5_barsTwo_29 : decode cX5_barsTwo 29 = .ok (.aload_n 0, 1) := by decide +kernel
theorem dX5_barsTwo_30 : decode cX5_barsTwo 30 = .ok (.getfield 19, 3) := by decide +kernel
theorem dX5_barsTwo_33 : decode cX5_barsTwo 33 = .ok (.iload_n 2, 1) := by decide +kernel
theorem dX5_barsTwo_34 : decode cX5_barsTwo 34 = .ok (.iaload, 1) := by decide +kernel
theorem dX5_barsTwo_35 : decode cX5_barsTwo 35 = .ok (.ifCond .ge 9, 3) := by decide +kernel
theorem dX5_barsTwo_38 : decode cX5_barsTwo 38 = .ok (.sipush (-1003), 3) := by decide +kernel
theorem dX5_barsTwo_41 : decode cX5_barsTwo 41 = .ok (.goto 4, 3) := by decide +kernel
theorem dX5_barsTwo_44 : decode cX5_barsTwo 44 = .ok (.iconst 0, 1) := by decide +kernel
theorem dX5_barsTwo_45 : decode cX5_barsTwo 45 = .ok (.ireturn, 1) := by decide +kernel
theorem dX5_firstText_0 : decode cX5_firstText 0 = .ok (.aload_n 0, 1) := by decide +kernel
theorem dX5_firstText_1 : decode cX5_firstText 1 = .ok (.iload_n 1, 1) := by decide +kernel
theorem dX5_firstText_2 : decode cX5_firstText 2 = .ok (.iload_n 2, 1) := by decide +kernel
theorem dX5_firstText_3 : decode cX5_firstText 3 = .ok (.invokevirtual 128, 3) := by decide +kernel
theorem dX5_firstText_6 : decode cX5_firstText 6 = .ok (.istore 4, 2) := by decide +kernel
theorem dX5_firstText_8 : decode cX5_firstText 8 = .ok (.iload 4, 2) := by decide +kernel
theorem dX5_firstText_10 : decode cX5_firstText 10 = .ok (.ifCond .ge 6, 3) := by decide +kernel
theorem dX5_firstText_13 : decode cX5_firstText 13 = .ok (.iload 4, 2) := by decide +kernel
theorem dX5_firstText_15 : decode cX5_firstText 15 = .ok (.ireturn, 1) := by decide +kernel
theorem dX5_firstText_16 : decode cX5_firstText 16 = .ok (.aload_n 0, 1) := by decide +kernel
theorem dX5_firstText_17 : decode cX5_firstText 17 = .ok (.iload_n 2, 1) := by decide +kernel
theorem dX5_firstText_18 : decode cX5_firstText 18 = .ok (.invokevirtual 90, 3) := by decide +kernel
theorem dX5_firstText_21 : decode cX5_firstText 21 = .ok (.aload_n 0, 1) := by decide +kernel
theorem dX5_firstText_22 : decode cX5_firstText 22 = .ok (.aload_n 0, 1) := by decide +kernel
theorem dX5_firstText_23 : decode cX5_firstText 23 = .ok (.getfield 16, 3) := by decide +kernel
theorem dX5_firstText_26 : decode cX5_firstText 26 = .ok (.sipush 200, 3) := by decide +kernel
theorem dX5_firstText_29 : decode cX5_firstText 29 = .ok (.iload_n 1, 1) := by decide +kernel
theorem dX5_firstText_30 : decode cX5_firstText 30 = .ok (.imul, 1) := by decide +kernel
theorem dX5_firstText_31 : decode cX5_firstText 31 = .ok (.aload_n 0, 1) := by decide +kernel
theorem dX5_firstText_32 : decode cX5_firstText 32 = .ok (.getfield 19, 3) := by decide +kernel
theorem dX5_firstText_35 : decode cX5_firstText 35 = .ok (.iload_n 1, 1) := by decide +kernel
theorem dX5_firstText_36 : decode cX5_firstText 36 = .ok (.iaload, 1) := by decide +kernel
theorem dX5_firstText_37 : decode cX5_firstText 37 = .ok (.iload_n 3, 1) := by decide +kernel
theorem dX5_firstText_38 : decode cX5_firstText 38 = .ok (.invokevirtual 111, 3) := by decide +kernel
theorem dX5_firstText_41 : decode cX5_firstText 41 = .ok (.ireturn, 1) := by decide +kernel
theorem dX5_lastText_0 : decode cX5_lastText 0 = .ok (.aload_n 0, 1) := by decide +kernel
theorem dX5_lastText_1 : decode cX5_lastText 1 = .ok (.iload_n 1, 1) := by decide +kernel
theorem dX5_lastText_2 : decode cX5_lastText 2 = .ok (.iload_n 2, 1) := by decide +kernel
theorem dX5_lastText_3 : decode cX5_lastText 3 = .ok (.invokevirtual 128, 3) := by decide +kernel
theorem dX5_lastText_6 : decode cX5_lastText 6 = .ok (.istore 4, 2) := by decide +kernel
theorem dX5_lastText_8 : decode cX5_lastText 8 = .ok (.iload 4, 2) := by decide +kernel
theorem dX5_lastText_10 : decode cX5_lastText 10 = .ok (.ifCond .ge 6, 3) := by decide +kernel
theorem dX5_lastText_13 : decode cX5_lastText 13 = .ok (.iload 4, 2) := by decide +kernel
theorem dX5_lastText_15 : decode cX5_lastText 15 = .ok (.ireturn, 1) := by decide +kernel
theorem dX5_lastText_16 : decode cX5_lastText 16 = .ok (.aload_n 0, 1) := by decide +kernel
theorem dX5_lastText_17 : decode cX5_lastText 17 = .ok (.iload_n 2, 1) := by decide +kernel
theorem dX5_lastText_18 : decode cX5_lastText 18 = .ok (.invokevirtual 90, 3) := by decide +kernel
theorem dX5_lastText_21 : decode cX5_lastText 21 = .ok (.aload_n 0, 1) := by decide +kernel
theorem dX5_lastText_22 : decode cX5_lastText 22 = .ok (.aload_n 0, 1) := by decide +kernel
theorem dX5_lastText_23 : decode cX5_lastText 23 = .ok (.getfield 16, 3) := by decide +kernel
theorem dX5_lastText_26 : decode cX5_lastText 26 = .ok (.sipush 200, 3) := by decide +kernel
theorem dX5_lastText_29 : decode cX5_lastText 29 = .ok (.iload_n 1, 1) := by decide +kernel
theorem dX5_lastText_30 : decode cX5_lastText 30 = .ok (.imul, 1) := by decide +kernel
theorem dX5_lastText_31 : decode cX5_lastText 31 = .ok (.aload_n 0, 1) := by decide +kernel
theorem dX5_lastText_32 : decode cX5_lastText 32 = .ok (.getfield 19, 3) := by decide +kernel
theorem dX5_lastText_35 : decode cX5_lastText 35 = .ok (.iload_n 1, 1) := by decide +kernel
theorem dX5_lastText_36 : decode cX5_lastText 36 = .ok (.iaload, 1) := by decide +kernel
theorem dX5_lastText_37 : decode cX5_lastText 37 = .ok (.iload_n 3, 1) := by decide +kernel
theorem dX5_lastText_38 : decode cX5_lastText 38 = .ok (.invokevirtual 115, 3) := by decide +kernel
theorem dX5_lastText_41 : decode cX5_lastText 41 = .ok (.ireturn, 1) := by decide +kernel
theorem dX5_region_0 : decode cX5_region 0 = .ok (.aload_n 0, 1) := by decide +kernel
theorem dX5_region_1 : decode cX5_region 1 = .ok (.iload_n 1, 1) := by decide +kernel
theorem dX5_region_2 : decode cX5_region 2 = .ok (.iload_n 3, 1) := by decide +kernel
theorem dX5_region_3 : decode cX5_region 3 = .ok (.invokevirtual 128, 3) := by decide +kernel
theorem dX5_region_6 : decode cX5_region 6 = .ok (.istore 6, 2) := by decide +kernel
theorem dX5_region_8 : decode cX5_region 8 = .ok (.iload 6, 2) := by decide +kernel
theorem dX5_region_10 : decode cX5_region 10 = .ok (.ifCond .ge 6, 3) := by decide +kernel
theorem dX5_region_13 : decode cX5_region 13 = .ok (.iload 6, 2) := by decide +kernel
theorem dX5_region_15 : decode cX5_region 15 = .ok (.ireturn, 1) := by decide +kernel
theorem dX5_region_16 : decode cX5_region 16 = .ok (.iload_n 2, 1) := by decide +kernel
theorem dX5_region_17 : decode cX5_region 17 = .ok (.ifCond .lt 47, 3) := by decide +kernel
theorem dX5_region_20 : decode cX5_region 20 = .ok (.iload 4, 2) := by decide +kernel
theorem dX5_region_22 : decode cX5_region 22 = .ok (.ifCond .lt 42, 3) := by decide +kernel
theorem dX5_region_25 : decode cX5_region 25 = .ok (.iload_n 2, 1) := by decide +kernel
theorem dX5_region_26 : decode cX5_region 26 = .ok (.i2l, 1) := by decide +kernel
theorem dX5_region_27 : decode cX5_region 27 = .ok (.iload 5, 2) := by decide +kernel
theorem dX5_region_29 : decode cX5_region 29 = .ok (.i2l, 1) := by decide +kernel
theorem dX5_region_30 : decode cX5_region 30 = .ok (.ladd, 1) := by decide +kernel
theorem dX5_region_31 : decode cX5_region 31 = .ok (.aload_n 0, 1) := by decide +kernel
theorem dX5_region_32 : decode cX5_region 32 = .ok (.getfield 19, 3) := by decide +kernel
theorem dX5_region_35 : decode cX5_region 35 = .ok (.iload_n 1, 1) := by decide +kernel
theorem dX5_region_36 : decode cX5_region 36 = .ok (.iaload, 1) := by decide +kernel
theorem dX5_region_37 : decode cX5_region 37 = .ok (.i2l, 1) := by decide +kernel
theorem dX5_region_38 : decode cX5_region 38 = .ok (.lcmp, 1) := by decide +kernel
theorem dX5_region_39 : decode cX5_region 39 = .ok (.ifCond .gt 25, 3) := by decide +kernel
theorem dX5_region_42 : decode cX5_region 42 = .ok (.iload 4, 2) := by decide +kernel
theorem dX5_region_44 : decode cX5_region 44 = .ok (.i2l, 1) := by decide +kernel
theorem dX5_region_45 : decode cX5_region 45 = .ok (.iload 5, 2) := by decide +kernel
theorem dX5_region_47 : decode cX5_region 47 = .ok (.i2l, 1) := by decide +kernel
theorem dX5_region_48 : decode cX5_region 48 = .ok (.ladd, 1) := by decide +kernel
theorem dX5_region_49 : decode cX5_region 49 = .ok (.aload_n 0, 1) := by decide +kernel
theorem dX5_region_50 : decode cX5_region 50 = .ok (.getfield 19, 3) := by decide +kernel
theorem dX5_region_53 : decode cX5_region 53 = .ok (.iload_n 3, 1) := by decide +kernel
theorem dX5_region_54 : decode cX5_region 54 = .ok (.iaload, 1) := by decide +kernel
theorem dX5_region_55 : decode cX5_region 55 = .ok (.i2l, 1) := by decide +kernel
theorem dX5_region_56 : decode cX5_region 56 = .ok (.lcmp, 1) := by decide +kernel
theorem dX5_region_57 : decode cX5_region 57 = .ok (.ifCond .gt 7, 3) := by decide +kernel
theorem dX5_region_60 : decode cX5_region 60 = .ok (.iconst 1, 1) := by decide +kernel
theorem dX5_region_61 : decode cX5_region 61 = .ok (.goto 4, 3) := by decide +kernel
theorem dX5_region_64 : decode cX5_region 64 = .ok (.iconst 0, 1) := by decide +kernel
theorem dX5_region_65 : decode cX5_region 65 = .ok (.istore 7, 2) := by decide +kernel
theorem dX5_region_67 : decode cX5_region 67 = .ok (.iconst 0, 1) := by decide +kernel
theorem dX5_region_68 : decode cX5_region 68 = .ok (.istore 8, 2) := by decide +kernel
theorem dX5_region_70 : decode cX5_region 70 = .ok (.iload 8, 2) := by decide +kernel
theorem dX5_region_72 : decode cX5_region 72 = .ok (.iload 5, 2) := by decide +kernel
theorem dX5_region_74 : decode cX5_region 74 = .ok (.if_icmp .ge 55, 3) := by decide +kernel
theorem dX5_region_77 : decode cX5_region 77 = .ok (.iload 7, 2) := by decide +kernel
theorem dX5_region_79 : decode cX5_region 79 = .ok (.ifCond .eq 50, 3) := by decide +kernel
theorem dX5_region_82 : decode cX5_region 82 = .ok (.aload_n 0, 1) := by decide +kernel
theorem dX5_region_83 : decode cX5_region 83 = .ok (.getfield 16, 3) := by decide +kernel
theorem dX5_region_86 : decode cX5_region 86 = .ok (.sipush 200, 3) := by decide +kernel
theorem dX5_region_89 : decode cX5_region 89 = .ok (.iload_n 1, 1) := by decide +kernel
theorem dX5_region_90 : decode cX5_region 90 = .ok (.imul, 1) := by decide +kernel
theorem dX5_region_91 : decode cX5_region 91 = .ok (.iload_n 2, 1) := by decide +kernel
theorem dX5_region_92 : decode cX5_region 92 = .ok (.iadd, 1) := by decide +kernel
theorem dX5_region_93 : decode cX5_region 93 = .ok (.iload 8, 2) := by decide +kernel
theorem dX5_region_95 : decode cX5_region 95 = .ok (.iadd, 1) := by decide +kernel
theorem dX5_region_96 : decode cX5_region 96 = .ok (.iaload, 1) := by decide +kernel
theorem dX5_region_97 : decode cX5_region 97 = .ok (.aload_n 0, 1) := by decide +kernel
theorem dX5_region_98 : decode cX5_region 98 = .ok (.getfield 16, 3) := by decide +kernel
theorem dX5_region_101 : decode cX5_region 101 = .ok (.sipush 200, 3) := by decide +kernel
theorem dX5_region_104 : decode cX5_region 104 = .ok (.iload_n 3, 1) := by decide +kernel
theorem dX5_region_105 : decode cX5_region 105 = .ok (.imul, 1) := by decide +kernel
theorem dX5_region_106 : decode cX5_region 106 = .ok (.iload 4, 2) := by decide +kernel
theorem dX5_region_108 : decode cX5_region 108 = .ok (.iadd, 1) := by decide +kernel
theorem dX5_region_109 : decode cX5_region 109 = .ok (.iload 8, 2) := by decide +kernel
theorem dX5_region_111 : decode cX5_region 111 = .ok (.iadd, 1) := by decide +kernel
theorem dX5_region_112 : decode cX5_region 112 = .ok (.iaload, 1) := by decide +kernel
theorem dX5_region_113 : decode cX5_region 113 = .ok (.if_icmp .ne 7, 3) := by decide +kernel
theorem dX5_region_116 : decode cX5_region 116 = .ok (.iconst 1, 1) := by decide +kernel
theorem dX5_region_117 : decode cX5_region 117 = .ok (.goto 4, 3) := by decide +kernel
theorem dX5_region_120 : decode cX5_region 120 = .ok (.iconst 0, 1) := by decide +kernel
theorem dX5_region_121 : decode cX5_region 121 = .ok (.istore 7, 2) := by decide +kernel
theorem dX5_region_123 : decode cX5_region 123 = .ok (.iinc 8 1, 3) := by decide +kernel
theorem dX5_region_126 : decode cX5_region 126 = .ok (.goto (-56), 3) := by decide +kernel
theorem dX5_region_129 : decode cX5_region 129 = .ok (.iload 7, 2) := by decide +kernel
theorem dX5_region_131 : decode cX5_region 131 = .ok (.ifCond .eq 7, 3) := by decide +kernel
theorem dX5_region_134 : decode cX5_region 134 = .ok (.iconst 1, 1) := by decide +kernel
theorem dX5_region_135 : decode cX5_region 135 = .ok (.goto 4, 3) := by decide +kernel
theorem dX5_region_138 : decode cX5_region 138 = .ok (.iconst 0, 1) := by decide +kernel
theorem dX5_region_139 : decode cX5_region 139 = .ok (.ireturn, 1) := by decide +kernel
theorem dX5_order_0 : decode cX5_order 0 = .ok (.aload_n 0, 1) := by decide +kernel
theorem dX5_order_1 : decode cX5_order 1 = .ok (.iload_n 1, 1) := by decide +kernel
theorem dX5_order_2 : decode cX5_order 2 = .ok (.iload_n 2, 1) := by decide +kernel
theorem dX5_order_3 : decode cX5_order 3 = .ok (.invokevirtual 128, 3) := by decide +kernel
theorem dX5_order_6 : decode cX5_order 6 = .ok (.istore_n 3, 1) := by decide +kernel
theorem dX5_order_7 : decode cX5_order 7 = .ok (.iload_n 3, 1) := by decide +kernel
theorem dX5_order_8 : decode cX5_order 8 = .ok (.ifCond .ge 7, 3) := by decide +kernel
theorem dX5_order_11 : decode cX5_order 11 = .ok (.iload_n 3, 1) := by decide +kernel
theorem dX5_order_12 : decode cX5_order 12 = .ok (.goto 32, 3) := by decide +kernel
theorem dX5_order_15 : decode cX5_order 15 = .ok (.aload_n 0, 1) := by decide +kernel
theorem dX5_order_16 : decode cX5_order 16 = .ok (.getfield 16, 3) := by decide +kernel
theorem dX5_order_19 : decode cX5_order 19 = .ok (.sipush 200, 3) := by decide +kernel
theorem dX5_order_22 : decode cX5_order 22 = .ok (.iload_n 1, 1) := by decide +kernel
theorem dX5_order_23 : decode cX5_order 23 = .ok (.imul, 1) := by decide +kernel
theorem dX5_order_24 : decode cX5_order 24 = .ok (.aload_n 0, 1) := by decide +kernel
theorem dX5_order_25 : decode cX5_order 25 = .ok (.getfield 19, 3) := by decide +kernel
theorem dX5_order_28 : decode cX5_order 28 = .ok (.iload_n 1, 1) := by decide +kernel
theorem dX5_order_29 : decode cX5_order 29 = .ok (.iaload, 1) := by decide +kernel
theorem dX5_order_30 : decode cX5_order 30 = .ok (.sipush 200, 3) := by decide +kernel
theorem dX5_order_33 : decode cX5_order 33 = .ok (.iload_n 2, 1) := by decide +kernel
theorem dX5_order_34 : decode cX5_order 34 = .ok (.imul, 1) := by decide +kernel
theorem dX5_order_35 : decode cX5_order 35 = .ok (.aload_n 0, 1) := by decide +kernel
theorem dX5_order_36 : decode cX5_order 36 = .ok (.getfield 19, 3) := by decide +kernel
theorem dX5_order_39 : decode cX5_order 39 = .ok (.iload_n 2, 1) := by decide +kernel
theorem dX5_order_40 : decode cX5_order 40 = .ok (.iaload, 1) := by decide +kernel
theorem dX5_order_41 : decode cX5_order 41 = .ok (.invokestatic 121, 3) := by decide +kernel
theorem dX5_order_44 : decode cX5_order 44 = .ok (.ireturn, 1) := by decide +kernel
theorem dX5_begins_0 : decode cX5_begins 0 = .ok (.aload_n 0, 1) := by decide +kernel
theorem dX5_begins_1 : decode cX5_begins 1 = .ok (.iload_n 1, 1) := by decide +kernel
theorem dX5_begins_2 : decode cX5_begins 2 = .ok (.iload_n 2, 1) := by decide +kernel
theorem dX5_begins_3 : decode cX5_begins 3 = .ok (.invokevirtual 128, 3) := by decide +kernel
theorem dX5_begins_6 : decode cX5_begins 6 = .ok (.istore 4, 2) := by decide +kernel
theorem dX5_begins_8 : decode cX5_begins 8 = .ok (.iload 4, 2) := by decide +kernel
theorem dX5_begins_10 : decode cX5_begins 10 = .ok (.ifCond .ge 6, 3) := by decide +kernel
theorem dX5_begins_13 : decode cX5_begins 13 = .ok (.iload 4, 2) := by decide +kernel
theorem dX5_begins_15 : decode cX5_begins 15 = .ok (.ireturn, 1) := by decide +kernel
theorem dX5_begins_16 : decode cX5_begins 16 = .ok (.aload_n 0, 1) := by decide +kernel
theorem dX5_begins_17 : decode cX5_begins 17 = .ok (.iload_n 2, 1) := by decide +kernel
theorem dX5_begins_18 : decode cX5_begins 18 = .ok (.invokevirtual 90, 3) := by decide +kernel
theorem dX5_begins_21 : decode cX5_begins 21 = .ok (.aload_n 0, 1) := by decide +kernel
theorem dX5_begins_22 : decode cX5_begins 22 = .ok (.aload_n 0, 1) := by decide +kernel
theorem dX5_begins_23 : decode cX5_begins 23 = .ok (.getfield 16, 3) := by decide +kernel
theorem dX5_begins_26 : decode cX5_begins 26 = .ok (.sipush 200, 3) := by decide +kernel
theorem dX5_begins_29 : decode cX5_begins 29 = .ok (.iload_n 1, 1) := by decide +kernel
theorem dX5_begins_30 : decode cX5_begins 30 = .ok (.imul, 1) := by decide +kernel
theorem dX5_begins_31 : decode cX5_begins 31 = .ok (.aload_n 0, 1) := by decide +kernel
theorem dX5_begins_32 : decode cX5_begins 32 = .ok (.getfield 19, 3) := by decide +kernel
theorem dX5_begins_35 : decode cX5_begins 35 = .ok (.iload_n 1, 1) := by decide +kernel
theorem dX5_begins_36 : decode cX5_begins 36 = .ok (.iaload, 1) := by decide +kernel
theorem dX5_begins_37 : decode cX5_begins 37 = .ok (.iload_n 3, 1) := by decide +kernel
theorem dX5_begins_38 : decode cX5_begins 38 = .ok (.invokevirtual 107, 3) := by decide +kernel
theorem dX5_begins_41 : decode cX5_begins 41 = .ok (.ifCond .eq 7, 3) := by decide +kernel
theorem dX5_begins_44 : decode cX5_begins 44 = .ok (.iconst 1, 1) := by decide +kernel
theorem dX5_begins_45 : decode cX5_begins 45 = .ok (.goto 4, 3) := by decide +kernel
theorem dX5_begins_48 : decode cX5_begins 48 = .ok (.iconst 0, 1) := by decide +kernel
theorem dX5_begins_49 : decode cX5_begins 49 = .ok (.ireturn, 1) := by decide +kernel
theorem dX5_barsOne_0 : decode cX5_barsOne 0 = .ok (.iload_n 1, 1) := by decide +kernel
theorem dX5_barsOne_1 : decode cX5_barsOne 1 = .ok (.invokestatic 87, 3) := by decide +kernel
theorem dX5_barsOne_4 : decode cX5_barsOne 4 = .ok (.ifCond .eq 10, 3) := by decide +kernel
theorem dX5_barsOne_7 : decode cX5_barsOne 7 = .ok (.iload_n 2, 1) := by decide +kernel
theorem dX5_barsOne_8 : decode cX5_barsOne 8 = .ok (.invokestatic 87, 3) := by decide +kernel
theorem dX5_barsOne_11 : decode cX5_barsOne 11 = .ok (.ifCond .ne 9, 3) := by decide +kernel
theorem dX5_barsOne_14 : decode cX5_barsOne 14 = .ok (.sipush (-1001), 3) := by decide +kernel
theorem dX5_barsOne_17 : decode cX5_barsOne 17 = .ok (.goto 19, 3) := by decide +kernel
theorem dX5_barsOne_20 : decode cX5_barsOne 20 = .ok (.aload_n 0, 1) := by decide +kernel
theorem dX5_barsOne_21 : decode cX5_barsOne 21 = .ok (.getfield 19, 3) := by decide +kernel
theorem dX5_barsOne_24 : decode cX5_barsOne 24 = .ok (.iload_n 1, 1) := by decide +kernel
theorem dX5_barsOne_25 : decode cX5_barsOne 25 = .ok (.iaload, 1) := by decide +kernel
theorem dX5_barsOne_26 : decode cX5_barsOne 26 = .ok (.ifCond .ge 9, 3) := by decide +kernel
theorem dX5_barsOne_29 : decode cX5_barsOne 29 = .ok (.sipush (-1003), 3) := by decide +kernel
theorem dX5_barsOne_32 : decode cX5_barsOne 32 = .ok (.goto 4, 3) := by decide +kernel
theorem dX5_barsOne_35 : decode cX5_barsOne 35 = .ok (.iconst 0, 1) := by decide +kernel
theorem dX5_barsOne_36 : decode cX5_barsOne 36 = .ok (.ireturn, 1) := by decide +kernel
theorem dX5_swap_0 : decode cX5_swap 0 = .ok (.iload_n 1, 1) := by decide +kernel
theorem dX5_swap_1 : decode cX5_swap 1 = .ok (.invokestatic 87, 3) := by decide +kernel
theorem dX5_swap_4 : decode cX5_swap 4 = .ok (.ifCond .eq 11, 3) := by decide +kernel
theorem dX5_swap_7 : decode cX5_swap 7 = .ok (.iload 4, 2) := by decide +kernel
theorem dX5_swap_9 : decode cX5_swap 9 = .ok (.invokestatic 87, 3) := by decide +kernel
theorem dX5_swap_12 : decode cX5_swap 12 = .ok (.ifCond .ne 7, 3) := by decide +kernel
theorem dX5_swap_15 : decode cX5_swap 15 = .ok (.sipush (-1001), 3) := by decide +kernel
theorem dX5_swap_18 : decode cX5_swap 18 = .ok (.ireturn, 1) := by decide +kernel
theorem dX5_swap_19 : decode cX5_swap 19 = .ok (.iload_n 2, 1) := by decide +kernel
theorem dX5_swap_20 : decode cX5_swap 20 = .ok (.invokestatic 74, 3) := by decide +kernel
theorem dX5_swap_23 : decode cX5_swap 23 = .ok (.ifCond .eq 10, 3) := by decide +kernel
theorem dX5_swap_26 : decode cX5_swap 26 = .ok (.iload_n 3, 1) := by decide +kernel
theorem dX5_swap_27 : decode cX5_swap 27 = .ok (.invokestatic 74, 3) := by decide +kernel
theorem dX5_swap_30 : decode cX5_swap 30 = .ok (.ifCond .ne 7, 3) := by decide +kernel
theorem dX5_swap_33 : decode cX5_swap 33 = .ok (.sipush (-1002), 3) := by decide +kernel
theorem dX5_swap_36 : decode cX5_swap 36 = .ok (.ireturn, 1) := by decide +kernel
theorem dX5_swap_37 : decode cX5_swap 37 = .ok (.aload_n 0, 1) := by decide +kernel
theorem dX5_swap_38 : decode cX5_swap 38 = .ok (.getfield 19, 3) := by decide +kernel
theorem dX5_swap_41 : decode cX5_swap 41 = .ok (.iload_n 1, 1) := by decide +kernel
theorem dX5_swap_42 : decode cX5_swap 42 = .ok (.iaload, 1) := by decide +kernel
theorem dX5_swap_43 : decode cX5_swap 43 = .ok (.ifCond .ge 7, 3) := by decide +kernel
theorem dX5_swap_46 : decode cX5_swap 46 = .ok (.sipush (-1003), 3) := by decide +kernel
theorem dX5_swap_49 : decode cX5_swap 49 = .ok (.ireturn, 1) := by decide +kernel
theorem dX5_swap_50 : decode cX5_swap 50 = .ok (.aload_n 0, 1) := by decide +kernel
theorem dX5_swap_51 : decode cX5_swap 51 = .ok (.iload_n 1, 1) := by decide +kernel
theorem dX5_swap_52 : decode cX5_swap 52 = .ok (.invokevirtual 90, 3) := by decide +kernel
theorem dX5_swap_55 : decode cX5_swap 55 = .ok (.iconst 0, 1) := by decide +kernel
theorem dX5_swap_56 : decode cX5_swap 56 = .ok (.istore 5, 2) := by decide +kernel
theorem dX5_swap_58 : decode cX5_swap 58 = .ok (.iload 5, 2) := by decide +kernel
theorem dX5_swap_60 : decode cX5_swap 60 = .ok (.aload_n 0, 1) := by decide +kernel
theorem dX5_swap_61 : decode cX5_swap 61 = .ok (.getfield 62, 3) := by decide +kernel
theorem dX5_swap_64 : decode cX5_swap 64 = .ok (.if_icmp .ge 38, 3) := by decide +kernel
theorem dX5_swap_67 : decode cX5_swap 67 = .ok (.aload_n 0, 1) := by decide +kernel
theorem dX5_swap_68 : decode cX5_swap 68 = .ok (.getfield 22, 3) := by decide +kernel
theorem dX5_swap_71 : decode cX5_swap 71 = .ok (.iload 5, 2) := by decide +kernel
theorem dX5_swap_73 : decode cX5_swap 73 = .ok (.aload_n 0, 1) := by decide +kernel
theorem dX5_swap_74 : decode cX5_swap 74 = .ok (.getfield 22, 3) := by decide +kernel
theorem dX5_swap_77 : decode cX5_swap 77 = .ok (.iload 5, 2) := by decide +kernel
theorem dX5_swap_79 : decode cX5_swap 79 = .ok (.iaload, 1) := by decide +kernel
theorem dX5_swap_80 : decode cX5_swap 80 = .ok (.iload_n 2, 1) := by decide +kernel
theorem dX5_swap_81 : decode cX5_swap 81 = .ok (.if_icmp .ne 7, 3) := by decide +kernel
theorem dX5_swap_84 : decode cX5_swap 84 = .ok (.iload_n 3, 1) := by decide +kernel
theorem dX5_swap_85 : decode cX5_swap 85 = .ok (.goto 10, 3) := by decide +kernel
theorem dX5_swap_88 : decode cX5_swap 88 = .ok (.aload_n 0, 1) := by decide +kernel
theorem dX5_swap_89 : decode cX5_swap 89 = .ok (.getfield 22, 3) := by decide +kernel
theorem dX5_swap_92 : decode cX5_swap 92 = .ok (.iload 5, 2) := by decide +kernel
theorem dX5_swap_94 : decode cX5_swap 94 = .ok (.iaload, 1) := by decide +kernel
theorem dX5_swap_95 : decode cX5_swap 95 = .ok (.iastore, 1) := by decide +kernel
theorem dX5_swap_96 : decode cX5_swap 96 = .ok (.iinc 5 1, 3) := by decide +kernel
theorem dX5_swap_99 : decode cX5_swap 99 = .ok (.goto (-41), 3) := by decide +kernel
theorem dX5_swap_102 : decode cX5_swap 102 = .ok (.aload_n 0, 1) := by decide +kernel
theorem dX5_swap_103 : decode cX5_swap 103 = .ok (.iload 4, 2) := by decide +kernel
theorem dX5_swap_105 : decode cX5_swap 105 = .ok (.invokevirtual 118, 3) := by decide +kernel
theorem dX5_swap_108 : decode cX5_swap 108 = .ok (.ireturn, 1) := by decide +kernel
theorem dX5_sub_0 : decode cX5_sub 0 = .ok (.aload_n 0, 1) := by decide +kernel
theorem dX5_sub_1 : decode cX5_sub 1 = .ok (.iload_n 1, 1) := by decide +kernel
theorem dX5_sub_2 : decode cX5_sub 2 = .ok (.iload 4, 2) := by decide +kernel
theorem dX5_sub_4 : decode cX5_sub 4 = .ok (.invokevirtual 131, 3) := by decide +kernel
theorem dX5_sub_7 : decode cX5_sub 7 = .ok (.istore 5, 2) := by decide +kernel
theorem dX5_sub_9 : decode cX5_sub 9 = .ok (.iload 5, 2) := by decide +kernel
theorem dX5_sub_11 : decode cX5_sub 11 = .ok (.ifCond .ge 6, 3) := by decide +kernel
theorem dX5_sub_14 : decode cX5_sub 14 = .ok (.iload 5, 2) := by decide +kernel
theorem dX5_sub_16 : decode cX5_sub 16 = .ok (.ireturn, 1) := by decide +kernel
theorem dX5_sub_17 : decode cX5_sub 17 = .ok (.aload_n 0, 1) := by decide +kernel
theorem dX5_sub_18 : decode cX5_sub 18 = .ok (.iload_n 1, 1) := by decide +kernel
theorem dX5_sub_19 : decode cX5_sub 19 = .ok (.invokevirtual 90, 3) := by decide +kernel
theorem dX5_sub_22 : decode cX5_sub 22 = .ok (.iload_n 2, 1) := by decide +kernel
theorem dX5_sub_23 : decode cX5_sub 23 = .ok (.ifCond .lt 16, 3) := by decide +kernel
theorem dX5_sub_26 : decode cX5_sub 26 = .ok (.iload_n 3, 1) := by decide +kernel
theorem dX5_sub_27 : decode cX5_sub 27 = .ok (.aload_n 0, 1) := by decide +kernel
theorem dX5_sub_28 : decode cX5_sub 28 = .ok (.getfield 62, 3) := by decide +kernel
theorem dX5_sub_31 : decode cX5_sub 31 = .ok (.if_icmp .gt 8, 3) := by decide +kernel
theorem dX5_sub_34 : decode cX5_sub 34 = .ok (.iload_n 2, 1) := by decide +kernel
theorem dX5_sub_35 : decode cX5_sub 35 = .ok (.iload_n 3, 1) := by decide +kernel
theorem dX5_sub_36 : decode cX5_sub 36 = .ok (.if_icmp .le 7, 3) := by decide +kernel
theorem dX5_sub_39 : decode cX5_sub 39 = .ok (.sipush (-1005), 3) := by decide +kernel
theorem dX5_sub_42 : decode cX5_sub 42 = .ok (.ireturn, 1) := by decide +kernel
theorem dX5_sub_43 : decode cX5_sub 43 = .ok (.aload_n 0, 1) := by decide +kernel
theorem dX5_sub_44 : decode cX5_sub 44 = .ok (.iload_n 2, 1) := by decide +kernel
theorem dX5_sub_45 : decode cX5_sub 45 = .ok (.iload_n 3, 1) := by decide +kernel
theorem dX5_sub_46 : decode cX5_sub 46 = .ok (.invokevirtual 93, 3) := by decide +kernel
theorem dX5_sub_49 : decode cX5_sub 49 = .ok (.aload_n 0, 1) := by decide +kernel
theorem dX5_sub_50 : decode cX5_sub 50 = .ok (.iload 4, 2) := by decide +kernel
theorem dX5_sub_52 : decode cX5_sub 52 = .ok (.invokevirtual 118, 3) := by decide +kernel
theorem dX5_sub_55 : decode cX5_sub 55 = .ok (.ireturn, 1) := by decide +kernel
theorem dX5_trim_0 : decode cX5_trim 0 = .ok (.aload_n 0, 1) := by decide +kernel
theorem dX5_trim_1 : decode cX5_trim 1 = .ok (.iload_n 1, 1) := by decide +kernel
theorem dX5_trim_2 : decode cX5_trim 2 = .ok (.iload_n 2, 1) := by decide +kernel
theorem dX5_trim_3 : decode cX5_trim 3 = .ok (.invokevirtual 131, 3) := by decide +kernel
theorem dX5_trim_6 : decode cX5_trim 6 = .ok (.istore_n 3, 1) := by decide +kernel
theorem dX5_trim_7 : decode cX5_trim 7 = .ok (.iload_n 3, 1) := by decide +kernel
theorem dX5_trim_8 : decode cX5_trim 8 = .ok (.ifCond .ge 5, 3) := by decide +kernel
theorem dX5_trim_11 : decode cX5_trim 11 = .ok (.iload_n 3, 1) := by decide +kernel
theorem dX5_trim_12 : decode cX5_trim 12 = .ok (.ireturn, 1) := by decide +kernel
theorem dX5_trim_13 : decode cX5_trim 13 = .ok (.aload_n 0, 1) := by decide +kernel
theorem dX5_trim_14 : decode cX5_trim 14 = .ok (.iload_n 1, 1) := by decide +kernel
theorem dX5_trim_15 : decode cX5_trim 15 = .ok (.invokevirtual 90, 3) := by decide +kernel
theorem dX5_trim_18 : decode cX5_trim 18 = .ok (.iconst 0, 1) := by decide +kernel
theorem dX5_trim_19 : decode cX5_trim 19 = .ok (.istore 4, 2) := by decide +kernel
theorem dX5_trim_21 : decode cX5_trim 21 = .ok (.aload_n 0, 1) := by decide +kernel
theorem dX5_trim_22 : decode cX5_trim 22 = .ok (.getfield 62, 3) := by decide +kernel
theorem dX5_trim_25 : decode cX5_trim 25 = .ok (.istore 5, 2) := by decide +kernel
theorem dX5_trim_27 : decode cX5_trim 27 = .ok (.iload 4, 2) := by decide +kernel
theorem dX5_trim_29 : decode cX5_trim 29 = .ok (.iload 5, 2) := by decide +kernel
theorem dX5_trim_31 : decode cX5_trim 31 = .ok (.if_icmp .ge 21, 3) := by decide +kernel
theorem dX5_trim_34 : decode cX5_trim 34 = .ok (.aload_n 0, 1) := by decide +kernel
theorem dX5_trim_35 : decode cX5_trim 35 = .ok (.getfield 22, 3) := by decide +kernel
theorem dX5_trim_38 : decode cX5_trim 38 = .ok (.iload 4, 2) := by decide +kernel
theorem dX5_trim_40 : decode cX5_trim 40 = .ok (.iaload, 1) := by decide +kernel
theorem dX5_trim_41 : decode cX5_trim 41 = .ok (.bipush 32, 2) := by decide +kernel
theorem dX5_trim_43 : decode cX5_trim 43 = .ok (.if_icmp .gt 9, 3) := by decide +kernel
theorem dX5_trim_46 : decode cX5_trim 46 = .ok (.iinc 4 1, 3) := by decide +kernel
theorem dX5_trim_49 : decode cX5_trim 49 = .ok (.goto (-22), 3) := by decide +kernel
theorem dX5_trim_52 : decode cX5_trim 52 = .ok (.iload 5, 2) := by decide +kernel
theorem dX5_trim_54 : decode cX5_trim 54 = .ok (.iload 4, 2) := by decide +kernel
theorem dX5_trim_56 : decode cX5_trim 56 = .ok (.if_icmp .le 23, 3) := by decide +kernel
theorem dX5_trim_59 : decode cX5_trim 59 = .ok (.aload_n 0, 1) := by decide +kernel
theorem dX5_trim_60 : decode cX5_trim 60 = .ok (.getfield 22, 3) := by decide +kernel
theorem dX5_trim_63 : decode cX5_trim 63 = .ok (.iload 5, 2) := by decide +kernel
theorem dX5_trim_65 : decode cX5_trim 65 = .ok (.iconst 1, 1) := by decide +kernel
theorem dX5_trim_66 : decode cX5_trim 66 = .ok (.isub, 1) := by decide +kernel
theorem dX5_trim_67 : decode cX5_trim 67 = .ok (.iaload, 1) := by decide +kernel
theorem dX5_trim_68 : decode cX5_trim 68 = .ok (.bipush 32, 2) := by decide +kernel
theorem dX5_trim_70 : decode cX5_trim 70 = .ok (.if_icmp .gt 9, 3) := by decide +kernel
theorem dX5_trim_73 : decode cX5_trim 73 = .ok (.iinc 5 (-1), 3) := by decide +kernel
theorem dX5_trim_76 : decode cX5_trim 76 = .ok (.goto (-24), 3) := by decide +kernel
theorem dX5_trim_79 : decode cX5_trim 79 = .ok (.aload_n 0, 1) := by decide +kernel
theorem dX5_trim_80 : decode cX5_trim 80 = .ok (.iload 4, 2) := by decide +kernel
theorem dX5_trim_82 : decode cX5_trim 82 = .ok (.iload 5, 2) := by decide +kernel
theorem dX5_trim_84 : decode cX5_trim 84 = .ok (.invokevirtual 93, 3) := by decide +kernel
theorem dX5_trim_87 : decode cX5_trim 87 = .ok (.aload_n 0, 1) := by decide +kernel
theorem dX5_trim_88 : decode cX5_trim 88 = .ok (.iload_n 2, 1) := by decide +kernel
theorem dX5_trim_89 : decode cX5_trim 89 = .ok (.invokevirtual 118, 3) := by decide +kernel
theorem dX5_trim_92 : decode cX5_trim 92 = .ok (.ireturn, 1) := by decide +kernel
theorem dX5_repeat_0 : decode cX5_repeat 0 = .ok (.aload_n 0, 1) := by decide +kernel
theorem dX5_repeat_1 : decode cX5_repeat 1 = .ok (.iload_n 1, 1) := by decide +kernel
theorem dX5_repeat_2 : decode cX5_repeat 2 = .ok (.iload_n 3, 1) := by decide +kernel
theorem dX5_repeat_3 : decode cX5_repeat 3 = .ok (.invokevirtual 131, 3) := by decide +kernel
theorem dX5_repeat_6 : decode cX5_repeat 6 = .ok (.istore 4, 2) := by decide +kernel
theorem dX5_repeat_8 : decode cX5_repeat 8 = .ok (.iload 4, 2) := by decide +kernel
theorem dX5_repeat_10 : decode cX5_repeat 10 = .ok (.ifCond .ge 6, 3) := by decide +kernel
theorem dX5_repeat_13 : decode cX5_repeat 13 = .ok (.iload 4, 2) := by decide +kernel
theorem dX5_repeat_15 : decode cX5_repeat 15 = .ok (.ireturn, 1) := by decide +kernel
theorem dX5_repeat_16 : decode cX5_repeat 16 = .ok (.iload_n 2, 1) := by decide +kernel
theorem dX5_repeat_17 : decode cX5_repeat 17 = .ok (.ifCond .ge 7, 3) := by decide +kernel
theorem dX5_repeat_20 : decode cX5_repeat 20 = .ok (.sipush (-1004), 3) := by decide +kernel
theorem dX5_repeat_23 : decode cX5_repeat 23 = .ok (.ireturn, 1) := by decide +kernel
theorem dX5_repeat_24 : decode cX5_repeat 24 = .ok (.aload_n 0, 1) := by decide +kernel
theorem dX5_repeat_25 : decode cX5_repeat 25 = .ok (.iload_n 1, 1) := by decide +kernel
theorem dX5_repeat_26 : decode cX5_repeat 26 = .ok (.invokevirtual 90, 3) := by decide +kernel
theorem dX5_repeat_29 : decode cX5_repeat 29 = .ok (.aload_n 0, 1) := by decide +kernel
theorem dX5_repeat_30 : decode cX5_repeat 30 = .ok (.getfield 62, 3) := by decide +kernel
theorem dX5_repeat_33 : decode cX5_repeat 33 = .ok (.istore 5, 2) := by decide +kernel
theorem dX5_repeat_35 : decode cX5_repeat 35 = .ok (.iload_n 2, 1) := by decide +kernel
theorem dX5_repeat_36 : decode cX5_repeat 36 = .ok (.i2l, 1) := by decide +kernel
theorem dX5_repeat_37 : decode cX5_repeat 37 = .ok (.iload 5, 2) := by decide +kernel
theorem dX5_repeat_39 : decode cX5_repeat 39 = .ok (.i2l, 1) := by decide +kernel
theorem dX5_repeat_40 : decode cX5_repeat 40 = .ok (.lmul, 1) := by decide +kernel
theorem dX5_repeat_41 : decode cX5_repeat 41 = .ok (.ldc2_w 134, 3) := by decide +kernel
theorem dX5_repeat_44 : decode cX5_repeat 44 = .ok (.lcmp, 1) := by decide +kernel
theorem dX5_repeat_45 : decode cX5_repeat 45 = .ok (.ifCond .le 7, 3) := by decide +kernel
theorem dX5_repeat_48 : decode cX5_repeat 48 = .ok (.sipush (-1007), 3) := by decide +kernel
theorem dX5_repeat_51 : decode cX5_repeat 51 = .ok (.ireturn, 1) := by decide +kernel
theorem dX5_repeat_52 : decode cX5_repeat 52 = .ok (.aload_n 0, 1) := by decide +kernel
theorem dX5_repeat_53 : decode cX5_repeat 53 = .ok (.iload_n 2, 1) := by decide +kernel
theorem dX5_repeat_54 : decode cX5_repeat 54 = .ok (.iload 5, 2) := by decide +kernel
theorem dX5_repeat_56 : decode cX5_repeat 56 = .ok (.imul, 1) := by decide +kernel
theorem dX5_repeat_57 : decode cX5_repeat 57 = .ok (.putfield 62, 3) := by decide +kernel
theorem dX5_repeat_60 : decode cX5_repeat 60 = .ok (.iload 5, 2) := by decide +kernel
theorem dX5_repeat_62 : decode cX5_repeat 62 = .ok (.istore 6, 2) := by decide +kernel
theorem dX5_repeat_64 : decode cX5_repeat 64 = .ok (.iload 6, 2) := by decide +kernel
theorem dX5_repeat_66 : decode cX5_repeat 66 = .ok (.aload_n 0, 1) := by decide +kernel
theorem dX5_repeat_67 : decode cX5_repeat 67 = .ok (.getfield 62, 3) := by decide +kernel
theorem dX5_repeat_70 : decode cX5_repeat 70 = .ok (.if_icmp .ge 26, 3) := by decide +kernel
theorem dX5_repeat_73 : decode cX5_repeat 73 = .ok (.aload_n 0, 1) := by decide +kernel
theorem dX5_repeat_74 : decode cX5_repeat 74 = .ok (.getfield 22, 3) := by decide +kernel
theorem dX5_repeat_77 : decode cX5_repeat 77 = .ok (.iload 6, 2) := by decide +kernel
theorem dX5_repeat_79 : decode cX5_repeat 79 = .ok (.aload_n 0, 1) := by decide +kernel
theorem dX5_repeat_80 : decode cX5_repeat 80 = .ok (.getfield 22, 3) := by decide +kernel
theorem dX5_repeat_83 : decode cX5_repeat 83 = .ok (.iload 6, 2) := by decide +kernel
theorem dX5_repeat_85 : decode cX5_repeat 85 = .ok (.iload 5, 2) := by decide +kernel
theorem dX5_repeat_87 : decode cX5_repeat 87 = .ok (.isub, 1) := by decide +kernel
theorem dX5_repeat_88 : decode cX5_repeat 88 = .ok (.iaload, 1) := by decide +kernel
theorem dX5_repeat_89 : decode cX5_repeat 89 = .ok (.iastore, 1) := by decide +kernel
theorem dX5_repeat_90 : decode cX5_repeat 90 = .ok (.iinc 6 1, 3) := by decide +kernel
theorem dX5_repeat_93 : decode cX5_repeat 93 = .ok (.goto (-29), 3) := by decide +kernel
theorem dX5_repeat_96 : decode cX5_repeat 96 = .ok (.aload_n 0, 1) := by decide +kernel
theorem dX5_repeat_97 : decode cX5_repeat 97 = .ok (.iload_n 3, 1) := by decide +kernel
theorem dX5_repeat_98 : decode cX5_repeat 98 = .ok (.invokevirtual 118, 3) := by decide +kernel
theorem dX5_repeat_101 : decode cX5_repeat 101 = .ok (.ireturn, 1) := by decide +kernel
theorem dX5_join_0 : decode cX5_join 0 = .ok (.iload_n 1, 1) := by decide +kernel
theorem dX5_join_1 : decode cX5_join 1 = .ok (.invokestatic 87, 3) := by decide +kernel
theorem dX5_join_4 : decode cX5_join 4 = .ok (.ifCond .eq 17, 3) := by decide +kernel
theorem dX5_join_7 : decode cX5_join 7 = .ok (.iload_n 2, 1) := by decide +kernel
theorem dX5_join_8 : decode cX5_join 8 = .ok (.invokestatic 87, 3) := by decide +kernel
theorem dX5_join_11 : decode cX5_join 11 = .ok (.ifCond .eq 10, 3) := by decide +kernel
theorem dX5_join_14 : decode cX5_join 14 = .ok (.iload_n 3, 1) := by decide +kernel
theorem dX5_join_15 : decode cX5_join 15 = .ok (.invokestatic 87, 3) := by decide +kernel
theorem dX5_join_18 : decode cX5_join 18 = .ok (.ifCond .ne 7, 3) := by decide +kernel
theorem dX5_join_21 : decode cX5_join 21 = .ok (.sipush (-1001), 3) := by decide +kernel
theorem dX5_join_24 : decode cX5_join 24 = .ok (.ireturn, 1) := by decide +kernel
theorem dX5_join_25 : decode cX5_join 25 = .ok (.aload_n 0, 1) := by decide +kernel
theorem dX5_join_26 : decode cX5_join 26 = .ok (.getfield 19, 3) := by decide +kernel
theorem dX5_join_29 : decode cX5_join 29 = .ok (.iload_n 1, 1) := by decide +kernel
theorem dX5_join_30 : decode cX5_join 30 = .ok (.iaload, 1) := by decide +kernel
theorem dX5_join_31 : decode cX5_join 31 = .ok (.ifCond .lt 12, 3) := by decide +kernel
theorem dX5_join_34 : decode cX5_join 34 = .ok (.aload_n 0, 1) := by decide +kernel
theorem dX5_join_35 : decode cX5_join 35 = .ok (.getfield 19, 3) := by decide +kernel
theorem dX5_join_38 : decode cX5_join 38 = .ok (.iload_n 2, 1) := by decide +kernel
theorem dX5_join_39 : decode cX5_join 39 = .ok (.iaload, 1) := by decide +kernel
theorem dX5_join_40 : decode cX5_join 40 = .ok (.ifCond .ge 7, 3) := by decide +kernel
theorem dX5_join_43 : decode cX5_join 43 = .ok (.sipush (-1003), 3) := by decide +kernel
theorem dX5_join_46 : decode cX5_join 46 = .ok (.ireturn, 1) := by decide +kernel
theorem dX5_join_47 : decode cX5_join 47 = .ok (.aload_n 0, 1) := by decide +kernel
theorem dX5_join_48 : decode cX5_join 48 = .ok (.getfield 19, 3) := by decide +kernel
theorem dX5_join_51 : decode cX5_join 51 = .ok (.iload_n 1, 1) := by decide +kernel
theorem dX5_join_52 : decode cX5_join 52 = .ok (.iaload, 1) := by decide +kernel
theorem dX5_join_53 : decode cX5_join 53 = .ok (.aload_n 0, 1) := by decide +kernel
theorem dX5_join_54 : decode cX5_join 54 = .ok (.getfield 19, 3) := by decide +kernel
theorem dX5_join_57 : decode cX5_join 57 = .ok (.iload_n 2, 1) := by decide +kernel
theorem dX5_join_58 : decode cX5_join 58 = .ok (.iaload, 1) := by decide +kernel
theorem dX5_join_59 : decode cX5_join 59 = .ok (.iadd, 1) := by decide +kernel
theorem dX5_join_60 : decode cX5_join 60 = .ok (.sipush 200, 3) := by decide +kernel
theorem dX5_join_63 : decode cX5_join 63 = .ok (.if_icmp .le 7, 3) := by decide +kernel
theorem dX5_join_66 : decode cX5_join 66 = .ok (.sipush (-1007), 3) := by decide +kernel
theorem dX5_join_69 : decode cX5_join 69 = .ok (.ireturn, 1) := by decide +kernel
theorem dX5_join_70 : decode cX5_join 70 = .ok (.aload_n 0, 1) := by decide +kernel
theorem dX5_join_71 : decode cX5_join 71 = .ok (.iload_n 1, 1) := by decide +kernel
theorem dX5_join_72 : decode cX5_join 72 = .ok (.invokevirtual 90, 3) := by decide +kernel
theorem dX5_join_75 : decode cX5_join 75 = .ok (.iconst 0, 1) := by decide +kernel
theorem dX5_join_76 : decode cX5_join 76 = .ok (.istore 4, 2) := by decide +kernel
theorem dX5_join_78 : decode cX5_join 78 = .ok (.iload 4, 2) := by decide +kernel
theorem dX5_join_80 : decode cX5_join 80 = .ok (.aload_n 0, 1) := by decide +kernel
theorem dX5_join_81 : decode cX5_join 81 = .ok (.getfield 19, 3) := by decide +kernel
theorem dX5_join_84 : decode cX5_join 84 = .ok (.iload_n 2, 1) := by decide +kernel
theorem dX5_join_85 : decode cX5_join 85 = .ok (.iaload, 1) := by decide +kernel
theorem dX5_join_86 : decode cX5_join 86 = .ok (.if_icmp .ge 34, 3) := by decide +kernel
theorem dX5_join_89 : decode cX5_join 89 = .ok (.aload_n 0, 1) := by decide +kernel
theorem dX5_join_90 : decode cX5_join 90 = .ok (.getfield 22, 3) := by decide +kernel
theorem dX5_join_93 : decode cX5_join 93 = .ok (.aload_n 0, 1) := by decide +kernel
theorem dX5_join_94 : decode cX5_join 94 = .ok (.getfield 62, 3) := by decide +kernel
theorem dX5_join_97 : decode cX5_join 97 = .ok (.iload 4, 2) := by decide +kernel
theorem dX5_join_99 : decode cX5_join 99 = .ok (.iadd, 1) := by decide +kernel
theorem dX5_join_100 : decode cX5_join 100 = .ok (.aload_n 0, 1) := by decide +kernel
theorem dX5_join_101 : decode cX5_join 101 = .ok (.getfield 16, 3) := by decide +kernel
theorem dX5_join_104 : decode cX5_join 104 = .ok (.sipush 200, 3) := by decide +kernel
theorem dX5_join_107 : decode cX5_join 107 = .ok (.iload_n 2, 1) := by decide +kernel
theorem dX5_join_108 : decode cX5_join 108 = .ok (.imul, 1) := by decide +kernel
theorem dX5_join_109 : decode cX5_join 109 = .ok (.iload 4, 2) := by decide +kernel
theorem dX5_join_111 : decode cX5_join 111 = .ok (.iadd, 1) := by decide +kernel
theorem dX5_join_112 : decode cX5_join 112 = .ok (.iaload, 1) := by decide +kernel
theorem dX5_join_113 : decode cX5_join 113 = .ok (.iastore, 1) := by decide +kernel
theorem dX5_join_114 : decode cX5_join 114 = .ok (.iinc 4 1, 3) := by decide +kernel
theorem dX5_join_117 : decode cX5_join 117 = .ok (.goto (-39), 3) := by decide +kernel
theorem dX5_join_120 : decode cX5_join 120 = .ok (.aload_n 0, 1) := by decide +kernel
theorem dX5_join_121 : decode cX5_join 121 = .ok (.aload_n 0, 1) := by decide +kernel
theorem dX5_join_122 : decode cX5_join 122 = .ok (.getfield 62, 3) := by decide +kernel
theorem dX5_join_125 : decode cX5_join 125 = .ok (.aload_n 0, 1) := by decide +kernel
theorem dX5_join_126 : decode cX5_join 126 = .ok (.getfield 19, 3) := by decide +kernel
theorem dX5_join_129 : decode cX5_join 129 = .ok (.iload_n 2, 1) := by decide +kernel
theorem dX5_join_130 : decode cX5_join 130 = .ok (.iaload, 1) := by decide +kernel
theorem dX5_join_131 : decode cX5_join 131 = .ok (.iadd, 1) := by decide +kernel
theorem dX5_join_132 : decode cX5_join 132 = .ok (.putfield 62, 3) := by decide +kernel
theorem dX5_join_135 : decode cX5_join 135 = .ok (.aload_n 0, 1) := by decide +kernel
theorem dX5_join_136 : decode cX5_join 136 = .ok (.iload_n 3, 1) := by decide +kernel
theorem dX5_join_137 : decode cX5_join 137 = .ok (.invokevirtual 118, 3) := by decide +kernel
theorem dX5_join_140 : decode cX5_join 140 = .ok (.ireturn, 1) := by decide +kernel
theorem dX5_isSeparator_0 : decode cX5_isSeparator 0 = .ok (.iload_n 0, 1) := by decide +kernel
theorem dX5_isSeparator_1 : decode cX5_isSeparator 1 = .ok (.invokestatic 74, 3) := by decide +kernel
theorem dX5_isSeparator_4 : decode cX5_isSeparator 4 = .ok (.ifCond .eq 31, 3) := by decide +kernel
theorem dX5_isSeparator_7 : decode cX5_isSeparator 7 = .ok (.iload_n 0, 1) := by decide +kernel
theorem dX5_isSeparator_8 : decode cX5_isSeparator 8 = .ok (.bipush 36, 2) := by decide +kernel
theorem dX5_isSeparator_10 : decode cX5_isSeparator 10 = .ok (.if_icmp .eq 25, 3) := by decide +kernel
theorem dX5_isSeparator_13 : decode cX5_isSeparator 13 = .ok (.iload_n 0, 1) := by decide +kernel
theorem dX5_isSeparator_14 : decode cX5_isSeparator 14 = .ok (.bipush 46, 2) := by decide +kernel
theorem dX5_isSeparator_16 : decode cX5_isSeparator 16 = .ok (.if_icmp .eq 19, 3) := by decide +kernel
theorem dX5_isSeparator_19 : decode cX5_isSeparator 19 = .ok (.iload_n 0, 1) := by decide +kernel
theorem dX5_isSeparator_20 : decode cX5_isSeparator 20 = .ok (.bipush 63, 2) := by decide +kernel
theorem dX5_isSeparator_22 : decode cX5_isSeparator 22 = .ok (.if_icmp .eq 13, 3) := by decide +kernel
theorem dX5_isSeparator_25 : decode cX5_isSeparator 25 = .ok (.iload_n 0, 1) := by decide +kernel
theorem dX5_isSeparator_26 : decode cX5_isSeparator 26 = .ok (.bipush 94, 2) := by decide +kernel
theorem dX5_isSeparator_28 : decode cX5_isSeparator 28 = .ok (.if_icmp .eq 7, 3) := by decide +kernel
theorem dX5_isSeparator_31 : decode cX5_isSeparator 31 = .ok (.iconst 1, 1) := by decide +kernel
theorem dX5_isSeparator_32 : decode cX5_isSeparator 32 = .ok (.goto 4, 3) := by decide +kernel
theorem dX5_isSeparator_35 : decode cX5_isSeparator 35 = .ok (.iconst 0, 1) := by decide +kernel
theorem dX5_isSeparator_36 : decode cX5_isSeparator 36 = .ok (.istore_n 1, 1) := by decide +kernel
theorem dX5_isSeparator_37 : decode cX5_isSeparator 37 = .ok (.iload_n 1, 1) := by decide +kernel
theorem dX5_isSeparator_38 : decode cX5_isSeparator 38 = .ok (.ifCond .eq 49, 3) := by decide +kernel
theorem dX5_isSeparator_41 : decode cX5_isSeparator 41 = .ok (.iload_n 0, 1) := by decide +kernel
theorem dX5_isSeparator_42 : decode cX5_isSeparator 42 = .ok (.i2l, 1) := by decide +kernel
theorem dX5_isSeparator_43 : decode cX5_isSeparator 43 = .ok (.ldc2_w 136, 3) := by decide +kernel
theorem dX5_isSeparator_46 : decode cX5_isSeparator 46 = .ok (.ldc2_w 138, 3) := by decide +kernel
theorem dX5_isSeparator_49 : decode cX5_isSeparator 49 = .ok (.invokestatic 54, 3) := by decide +kernel
theorem dX5_isSeparator_52 : decode cX5_isSeparator 52 = .ok (.ifCond .ne 35, 3) := by decide +kernel
theorem dX5_isSeparator_55 : decode cX5_isSeparator 55 = .ok (.iload_n 0, 1) := by decide +kernel
theorem dX5_isSeparator_56 : decode cX5_isSeparator 56 = .ok (.i2l, 1) := by decide +kernel
theorem dX5_isSeparator_57 : decode cX5_isSeparator 57 = .ok (.ldc2_w 140, 3) := by decide +kernel
theorem dX5_isSeparator_60 : decode cX5_isSeparator 60 = .ok (.ldc2_w 142, 3) := by decide +kernel
theorem dX5_isSeparator_63 : decode cX5_isSeparator 63 = .ok (.invokestatic 54, 3) := by decide +kernel
theorem dX5_isSeparator_66 : decode cX5_isSeparator 66 = .ok (.ifCond .ne 21, 3) := by decide +kernel
theorem dX5_isSeparator_69 : decode cX5_isSeparator 69 = .ok (.iload_n 0, 1) := by decide +kernel
theorem dX5_isSeparator_70 : decode cX5_isSeparator 70 = .ok (.i2l, 1) := by decide +kernel
theorem dX5_isSeparator_71 : decode cX5_isSeparator 71 = .ok (.ldc2_w 144, 3) := by decide +kernel
theorem dX5_isSeparator_74 : decode cX5_isSeparator 74 = .ok (.ldc2_w 146, 3) := by decide +kernel
theorem dX5_isSeparator_77 : decode cX5_isSeparator 77 = .ok (.invokestatic 54, 3) := by decide +kernel
theorem dX5_isSeparator_80 : decode cX5_isSeparator 80 = .ok (.ifCond .ne 7, 3) := by decide +kernel
theorem dX5_isSeparator_83 : decode cX5_isSeparator 83 = .ok (.iconst 1, 1) := by decide +kernel
theorem dX5_isSeparator_84 : decode cX5_isSeparator 84 = .ok (.goto 4, 3) := by decide +kernel
theorem dX5_isSeparator_87 : decode cX5_isSeparator 87 = .ok (.iconst 0, 1) := by decide +kernel
theorem dX5_isSeparator_88 : decode cX5_isSeparator 88 = .ok (.ireturn, 1) := by decide +kernel
theorem dX5_layPart_0 : decode cX5_layPart 0 = .ok (.aload_n 0, 1) := by decide +kernel
theorem dX5_layPart_1 : decode cX5_layPart 1 = .ok (.getfield 31, 3) := by decide +kernel
theorem dX5_layPart_4 : decode cX5_layPart 4 = .ok (.aload_n 0, 1) := by decide +kernel
theorem dX5_layPart_5 : decode cX5_layPart 5 = .ok (.getfield 148, 3) := by decide +kernel
theorem dX5_layPart_8 : decode cX5_layPart 8 = .ok (.iload_n 1, 1) := by decide +kernel
theorem dX5_layPart_9 : decode cX5_layPart 9 = .ok (.iastore, 1) := by decide +kernel
theorem dX5_layPart_10 : decode cX5_layPart 10 = .ok (.aload_n 0, 1) := by decide +kernel
theorem dX5_layPart_11 : decode cX5_layPart 11 = .ok (.getfield 34, 3) := by decide +kernel
theorem dX5_layPart_14 : decode cX5_layPart 14 = .ok (.aload_n 0, 1) := by decide +kernel
theorem dX5_layPart_15 : decode cX5_layPart 15 = .ok (.getfield 148, 3) := by decide +kernel
theorem dX5_layPart_18 : decode cX5_layPart 18 = .ok (.iload_n 2, 1) := by decide +kernel
theorem dX5_layPart_19 : decode cX5_layPart 19 = .ok (.iload_n 1, 1) := by decide +kernel
theorem dX5_layPart_20 : decode cX5_layPart 20 = .ok (.isub, 1) := by decide +kernel
theorem dX5_layPart_21 : decode cX5_layPart 21 = .ok (.iastore, 1) := by decide +kernel
theorem dX5_layPart_22 : decode cX5_layPart 22 = .ok (.aload_n 0, 1) := by decide +kernel
theorem dX5_layPart_23 : decode cX5_layPart 23 = .ok (.dup, 1) := by decide +kernel
theorem dX5_layPart_24 : decode cX5_layPart 24 = .ok (.getfield 148, 3) := by decide +kernel
theorem dX5_layPart_27 : decode cX5_layPart 27 = .ok (.iconst 1, 1) := by decide +kernel
theorem dX5_layPart_28 : decode cX5_layPart 28 = .ok (.iadd, 1) := by decide +kernel
theorem dX5_layPart_29 : decode cX5_layPart 29 = .ok (.putfield 148, 3) := by decide +kernel
theorem dX5_layPart_32 : decode cX5_layPart 32 = .ok (.return_, 1) := by decide +kernel
theorem dX5_split_0 : decode cX5_split 0 = .ok (.iload_n 1, 1) := by decide +kernel
theorem dX5_split_1 : decode cX5_split 1 = .ok (.invokestatic 87, 3) := by decide +kernel
theorem dX5_split_4 : decode cX5_split 4 = .ok (.ifCond .ne 7, 3) := by decide +kernel
theorem dX5_split_7 : decode cX5_split 7 = .ok (.sipush (-1001), 3) := by decide +kernel
theorem dX5_split_10 : decode cX5_split 10 = .ok (.ireturn, 1) := by decide +kernel
theorem dX5_split_11 : decode cX5_split 11 = .ok (.iload_n 2, 1) := by decide +kernel
theorem dX5_split_12 : decode cX5_split 12 = .ok (.invokestatic 151, 3) := by decide +kernel
theorem dX5_split_15 : decode cX5_split 15 = .ok (.ifCond .ne 7, 3) := by decide +kernel
theorem dX5_split_18 : decode cX5_split 18 = .ok (.sipush (-1002), 3) := by decide +kernel
theorem dX5_split_21 : decode cX5_split 21 = .ok (.ireturn, 1) := by decide +kernel
theorem dX5_split_22 : decode cX5_split 22 = .ok (.aload_n 0, 1) := by decide +kernel
theorem dX5_split_23 : decode cX5_split 23 = .ok (.getfield 19, 3) := by decide +kernel
theorem dX5_split_26 : decode cX5_split 26 = .ok (.iload_n 1, 1) := by decide +kernel
theorem dX5_split_27 : decode cX5_split 27 = .ok (.iaload, 1) := by decide +kernel
theorem dX5_split_28 : decode cX5_split 28 = .ok (.ifCond .ge 7, 3) := by decide +kernel
theorem dX5_split_31 : decode cX5_split 31 = .ok (.sipush (-1003), 3) := by decide +kernel
theorem dX5_split_34 : decode cX5_split 34 = .ok (.ireturn, 1) := by decide +kernel
theorem dX5_split_35 : decode cX5_split 35 = .ok (.aload_n 0, 1) := by decide +kernel
theorem dX5_split_36 : decode cX5_split 36 = .ok (.iconst 0, 1) := by decide +kernel
theorem dX5_split_37 : decode cX5_split 37 = .ok (.putfield 148, 3) := by decide +kernel
theorem dX5_split_40 : decode cX5_split 40 = .ok (.iconst 0, 1) := by decide +kernel
theorem dX5_split_41 : decode cX5_split 41 = .ok (.istore 4, 2) := by decide +kernel
theorem dX5_split_43 : decode cX5_split 43 = .ok (.iconst 0, 1) := by decide +kernel
theorem dX5_split_44 : decode cX5_split 44 = .ok (.istore 5, 2) := by decide +kernel
theorem dX5_split_46 : decode cX5_split 46 = .ok (.iload 5, 2) := by decide +kernel
theorem dX5_split_48 : decode cX5_split 48 = .ok (.aload_n 0, 1) := by decide +kernel
theorem dX5_split_49 : decode cX5_split 49 = .ok (.getfield 19, 3) := by decide +kernel
theorem dX5_split_52 : decode cX5_split 52 = .ok (.iload_n 1, 1) := by decide +kernel
theorem dX5_split_53 : decode cX5_split 53 = .ok (.iaload, 1) := by decide +kernel
theorem dX5_split_54 : decode cX5_split 54 = .ok (.if_icmp .ge 68, 3) := by decide +kernel
theorem dX5_split_57 : decode cX5_split 57 = .ok (.aload_n 0, 1) := by decide +kernel
theorem dX5_split_58 : decode cX5_split 58 = .ok (.getfield 28, 3) := by decide +kernel
theorem dX5_split_61 : decode cX5_split 61 = .ok (.iload 5, 2) := by decide +kernel
theorem dX5_split_63 : decode cX5_split 63 = .ok (.aload_n 0, 1) := by decide +kernel
theorem dX5_split_64 : decode cX5_split 64 = .ok (.getfield 16, 3) := by decide +kernel
theorem dX5_split_67 : decode cX5_split 67 = .ok (.sipush 200, 3) := by decide +kernel
theorem dX5_split_70 : decode cX5_split 70 = .ok (.iload_n 1, 1) := by decide +kernel
theorem dX5_split_71 : decode cX5_split 71 = .ok (.imul, 1) := by decide +kernel
theorem dX5_split_72 : decode cX5_split 72 = .ok (.iload 5, 2) := by decide +kernel
theorem dX5_split_74 : decode cX5_split 74 = .ok (.iadd, 1) := by decide +kernel
theorem dX5_split_75 : decode cX5_split 75 = .ok (.iaload, 1) := by decide +kernel
theorem dX5_split_76 : decode cX5_split 76 = .ok (.iastore, 1) := by decide +kernel
theorem dX5_split_77 : decode cX5_split 77 = .ok (.aload_n 0, 1) := by decide +kernel
theorem dX5_split_78 : decode cX5_split 78 = .ok (.getfield 28, 3) := by decide +kernel
theorem dX5_split_81 : decode cX5_split 81 = .ok (.iload 5, 2) := by decide +kernel
theorem dX5_split_83 : decode cX5_split 83 = .ok (.iaload, 1) := by decide +kernel
theorem dX5_split_84 : decode cX5_split 84 = .ok (.iload_n 2, 1) := by decide +kernel
theorem dX5_split_85 : decode cX5_split 85 = .ok (.if_icmp .ne 31, 3) := by decide +kernel
theorem dX5_split_88 : decode cX5_split 88 = .ok (.iload_n 3, 1) := by decide +kernel
theorem dX5_split_89 : decode cX5_split 89 = .ok (.ifCond .le 13, 3) := by decide +kernel
theorem dX5_split_92 : decode cX5_split 92 = .ok (.aload_n 0, 1) := by decide +kernel
theorem dX5_split_93 : decode cX5_split 93 = .ok (.getfield 148, 3) := by decide +kernel
theorem dX5_split_96 : decode cX5_split 96 = .ok (.iload_n 3, 1) := by decide +kernel
theorem dX5_split_97 : decode cX5_split 97 = .ok (.iconst 1, 1) := by decide +kernel
theorem dX5_split_98 : decode cX5_split 98 = .ok (.isub, 1) := by decide +kernel
theorem dX5_split_99 : decode cX5_split 99 = .ok (.if_icmp .ge 17, 3) := by decide +kernel
theorem dX5_split_102 : decode cX5_split 102 = .ok (.aload_n 0, 1) := by decide +kernel
theorem dX5_split_103 : decode cX5_split 103 = .ok (.iload 4, 2) := by decide +kernel
theorem dX5_split_105 : decode cX5_split 105 = .ok (.iload 5, 2) := by decide +kernel
theorem dX5_split_107 : decode cX5_split 107 = .ok (.invokevirtual 154, 3) := by decide +kernel
theorem dX5_split_110 : decode cX5_split 110 = .ok (.iload 5, 2) := by decide +kernel
theorem dX5_split_112 : decode cX5_split 112 = .ok (.iconst 1, 1) := by decide +kernel
theorem dX5_split_113 : decode cX5_split 113 = .ok (.iadd, 1) := by decide +kernel
theorem dX5_split_114 : decode cX5_split 114 = .ok (.istore 4, 2) := by decide +kernel
theorem dX5_split_116 : decode cX5_split 116 = .ok (.iinc 5 1, 3) := by decide +kernel
theorem dX5_split_119 : decode cX5_split 119 = .ok (.goto (-73), 3) := by decide +kernel
theorem dX5_split_122 : decode cX5_split 122 = .ok (.aload_n 0, 1) := by decide +kernel
theorem dX5_split_123 : decode cX5_split 123 = .ok (.getfield 148, 3) := by decide +kernel
theorem dX5_split_126 : decode cX5_split 126 = .ok (.ifCond .ne 7, 3) := by decide +kernel
theorem dX5_split_129 : decode cX5_split 129 = .ok (.iconst 1, 1) := by decide +kernel
theorem dX5_split_130 : decode cX5_split 130 = .ok (.goto 4, 3) := by decide +kernel
theorem dX5_split_133 : decode cX5_split 133 = .ok (.iconst 0, 1) := by decide +kernel
theorem dX5_split_134 : decode cX5_split 134 = .ok (.istore 5, 2) := by decide +kernel
theorem dX5_split_136 : decode cX5_split 136 = .ok (.aload_n 0, 1) := by decide +kernel
theorem dX5_split_137 : decode cX5_split 137 = .ok (.iload 4, 2) := by decide +kernel
theorem dX5_split_139 : decode cX5_split 139 = .ok (.aload_n 0, 1) := by decide +kernel
theorem dX5_split_140 : decode cX5_split 140 = .ok (.getfield 19, 3) := by decide +kernel
theorem dX5_split_143 : decode cX5_split 143 = .ok (.iload_n 1, 1) := by decide +kernel
theorem dX5_split_144 : decode cX5_split 144 = .ok (.iaload, 1) := by decide +kernel
theorem dX5_split_145 : decode cX5_split 145 = .ok (.invokevirtual 154, 3) := by decide +kernel
theorem dX5_split_148 : decode cX5_split 148 = .ok (.iload_n 3, 1) := by decide +kernel
theorem dX5_split_149 : decode cX5_split 149 = .ok (.ifCond .ne 42, 3) := by decide +kernel
theorem dX5_split_152 : decode cX5_split 152 = .ok (.iload 5, 2) := by decide +kernel
theorem dX5_split_154 : decode cX5_split 154 = .ok (.ifCond .ne 37, 3) := by decide +kernel
theorem dX5_split_157 : decode cX5_split 157 = .ok (.aload_n 0, 1) := by decide +kernel
theorem dX5_split_158 : decode cX5_split 158 = .ok (.getfield 148, 3) := by decide +kernel
theorem dX5_split_161 : decode cX5_split 161 = .ok (.ifCond .le 30, 3) := by decide +kernel
theorem dX5_split_164 : decode cX5_split 164 = .ok (.aload_n 0, 1) := by decide +kernel
theorem dX5_split_165 : decode cX5_split 165 = .ok (.getfield 34, 3) := by decide +kernel
theorem dX5_split_168 : decode cX5_split 168 = .ok (.aload_n 0, 1) := by decide +kernel
theorem dX5_split_169 : decode cX5_split 169 = .ok (.getfield 148, 3) := by decide +kernel
theorem dX5_split_172 : decode cX5_split 172 = .ok (.iconst 1, 1) := by decide +kernel
theorem dX5_split_173 : decode cX5_split 173 = .ok (.isub, 1) := by decide +kernel
theorem dX5_split_174 : decode cX5_split 174 = .ok (.iaload, 1) := by decide +kernel
theorem dX5_split_175 : decode cX5_split 175 = .ok (.ifCond .ne 16, 3) := by decide +kernel
theorem dX5_split_178 : decode cX5_split 178 = .ok (.aload_n 0, 1) := by decide +kernel
theorem dX5_split_179 : decode cX5_split 179 = .ok (.dup, 1) := by decide +kernel
theorem dX5_split_180 : decode cX5_split 180 = .ok (.getfield 148, 3) := by decide +kernel
theorem dX5_split_183 : decode cX5_split 183 = .ok (.iconst 1, 1) := by decide +kernel
theorem dX5_split_184 : decode cX5_split 184 = .ok (.isub, 1) := by decide +kernel
theorem dX5_split_185 : decode cX5_split 185 = .ok (.putfield 148, 3) := by decide +kernel
theorem dX5_split_188 : decode cX5_split 188 = .ok (.goto (-40), 3) := by decide +kernel
theorem dX5_split_191 : decode cX5_split 191 = .ok (.aload_n 0, 1) := by decide +kernel
theorem dX5_split_192 : decode cX5_split 192 = .ok (.getfield 148, 3) := by decide +kernel
theorem dX5_split_195 : decode cX5_split 195 = .ok (.ireturn, 1) := by decide +kernel
theorem dX5_parts_0 : decode cX5_parts 0 = .ok (.aload_n 0, 1) := by decide +kernel
theorem dX5_parts_1 : decode cX5_parts 1 = .ok (.getfield 148, 3) := by decide +kernel
theorem dX5_parts_4 : decode cX5_parts 4 = .ok (.ireturn, 1) := by decide +kernel
theorem dX5_addPart_0 : decode cX5_addPart 0 = .ok (.iconst 0, 1) := by decide +kernel
theorem dX5_addPart_1 : decode cX5_addPart 1 = .ok (.istore_n 2, 1) := by decide +kernel
theorem dX5_addPart_2 : decode cX5_addPart 2 = .ok (.iload_n 2, 1) := by decide +kernel
theorem dX5_addPart_3 : decode cX5_addPart 3 = .ok (.aload_n 0, 1) := by decide +kernel
theorem dX5_addPart_4 : decode cX5_addPart 4 = .ok (.getfield 34, 3) := by decide +kernel
theorem dX5_addPart_7 : decode cX5_addPart 7 = .ok (.iload_n 1, 1) := by decide +kernel
theorem dX5_addPart_8 : decode cX5_addPart 8 = .ok (.iaload, 1) := by decide +kernel
theorem dX5_addPart_9 : decode cX5_addPart 9 = .ok (.if_icmp .ge 41, 3) := by decide +kernel
theorem dX5_addPart_12 : decode cX5_addPart 12 = .ok (.aload_n 0, 1) := by decide +kernel
theorem dX5_addPart_13 : decode cX5_addPart 13 = .ok (.getfield 22, 3) := by decide +kernel
theorem dX5_addPart_16 : decode cX5_addPart 16 = .ok (.aload_n 0, 1) := by decide +kernel
theorem dX5_addPart_17 : decode cX5_addPart 17 = .ok (.getfield 62, 3) := by decide +kernel
theorem dX5_addPart_20 : decode cX5_addPart 20 = .ok (.aload_n 0, 1) := by decide +kernel
theorem dX5_addPart_21 : decode cX5_addPart 21 = .ok (.getfield 28, 3) := by decide +kernel
theorem dX5_addPart_24 : decode cX5_addPart 24 = .ok (.aload_n 0, 1) := by decide +kernel
theorem dX5_addPart_25 : decode cX5_addPart 25 = .ok (.getfield 31, 3) := by decide +kernel
theorem dX5_addPart_28 : decode cX5_addPart 28 = .ok (.iload_n 1, 1) := by decide +kernel
theorem dX5_addPart_29 : decode cX5_addPart 29 = .ok (.iaload, 1) := by decide +kernel
theorem dX5_addPart_30 : decode cX5_addPart 30 = .ok (.iload_n 2, 1) := by decide +kernel
theorem dX5_addPart_31 : decode cX5_addPart 31 = .ok (.iadd, 1) := by decide +kernel
theorem dX5_addPart_32 : decode cX5_addPart 32 = .ok (.iaload, 1) := by decide +kernel
theorem dX5_addPart_33 : decode cX5_addPart 33 = .ok (.iastore, 1) := by decide +kernel
theorem dX5_addPart_34 : decode cX5_addPart 34 = .ok (.aload_n 0, 1) := by decide +kernel
theorem dX5_addPart_35 : decode cX5_addPart 35 = .ok (.dup, 1) := by decide +kernel
theorem dX5_addPart_36 : decode cX5_addPart 36 = .ok (.getfield 62, 3) := by decide +kernel
theorem dX5_addPart_39 : decode cX5_addPart 39 = .ok (.iconst 1, 1) := by decide +kernel
theorem dX5_addPart_40 : decode cX5_addPart 40 = .ok (.iadd, 1) := by decide +kernel
theorem dX5_addPart_41 : decode cX5_addPart 41 = .ok (.putfield 62, 3) := by decide +kernel
theorem dX5_addPart_44 : decode cX5_addPart 44 = .ok (.iinc 2 1, 3) := by decide +kernel
theorem dX5_addPart_47 : decode cX5_addPart 47 = .ok (.goto (-45), 3) := by decide +kernel
theorem dX5_addPart_50 : decode cX5_addPart 50 = .ok (.return_, 1) := by decide +kernel
theorem dX5_partTo_0 : decode cX5_partTo 0 = .ok (.iload_n 2, 1) := by decide +kernel
theorem dX5_partTo_1 : decode cX5_partTo 1 = .ok (.invokestatic 87, 3) := by decide +kernel
theorem dX5_partTo_4 : decode cX5_partTo 4 = .ok (.ifCond .ne 7, 3) := by decide +kernel
theorem dX5_partTo_7 : decode cX5_partTo 7 = .ok (.sipush (-1001), 3) := by decide +kernel
theorem dX5_partTo_10 : decode cX5_partTo 10 = .ok (.ireturn, 1) := by decide +kernel
theorem dX5_partTo_11 : decode cX5_partTo 11 = .ok (.iload_n 1, 1) := by decide +kernel
theorem dX5_partTo_12 : decode cX5_partTo 12 = .ok (.i2l, 1) := by decide +kernel
theorem dX5_partTo_13 : decode cX5_partTo 13 = .ok (.lconst 0, 1) := by decide +kernel
theorem dX5_partTo_14 : decode cX5_partTo 14 = .ok (.aload_n 0, 1) := by decide +kernel
theorem dX5_partTo_15 : decode cX5_partTo 15 = .ok (.getfield 148, 3) := by decide +kernel
theorem dX5_partTo_18 : decode cX5_partTo 18 = .ok (.iconst 1, 1) := by decide +kernel
theorem dX5_partTo_19 : decode cX5_partTo 19 = .ok (.isub, 1) := by decide +kernel
theorem dX5_partTo_20 : decode cX5_partTo 20 = .ok (.i2l, 1) := by decide +kernel
theorem dX5_partTo_21 : decode cX5_partTo 21 = .ok (.invokestatic 54, 3) := by decide +kernel
theorem dX5_partTo_24 : decode cX5_partTo 24 = .ok (.ifCond .ne 5, 3) := by decide +kernel
theorem dX5_partTo_27 : decode cX5_partTo 27 = .ok (.iconst (-1), 1) := by decide +kernel
theorem dX5_partTo_28 : decode cX5_partTo 28 = .ok (.ireturn, 1) := by decide +kernel
theorem dX5_partTo_29 : decode cX5_partTo 29 = .ok (.aload_n 0, 1) := by decide +kernel
theorem dX5_partTo_30 : decode cX5_partTo 30 = .ok (.iconst 0, 1) := by decide +kernel
theorem dX5_partTo_31 : decode cX5_partTo 31 = .ok (.putfield 62, 3) := by decide +kernel
theorem dX5_partTo_34 : decode cX5_partTo 34 = .ok (.aload_n 0, 1) := by decide +kernel
theorem dX5_partTo_35 : decode cX5_partTo 35 = .ok (.iload_n 1, 1) := by decide +kernel
theorem dX5_partTo_36 : decode cX5_partTo 36 = .ok (.invokevirtual 157, 3) := by decide +kernel
theorem dX5_partTo_39 : decode cX5_partTo 39 = .ok (.aload_n 0, 1) := by decide +kernel
theorem dX5_partTo_40 : decode cX5_partTo 40 = .ok (.iload_n 2, 1) := by decide +kernel
theorem dX5_partTo_41 : decode cX5_partTo 41 = .ok (.invokevirtual 118, 3) := by decide +kernel
theorem dX5_partTo_44 : decode cX5_partTo 44 = .ok (.ireturn, 1) := by decide +kernel
theorem dX5_joined_0 : decode cX5_joined 0 = .ok (.iload_n 2, 1) := by decide +kernel
theorem dX5_joined_1 : decode cX5_joined 1 = .ok (.invokestatic 87, 3) := by decide +kernel
theorem dX5_joined_4 : decode cX5_joined 4 = .ok (.ifCond .ne 7, 3) := by decide +kernel
theorem dX5_joined_7 : decode cX5_joined 7 = .ok (.sipush (-1001), 3) := by decide +kernel
theorem dX5_joined_10 : decode cX5_joined 10 = .ok (.ireturn, 1) := by decide +kernel
theorem dX5_joined_11 : decode cX5_joined 11 = .ok (.iload_n 1, 1) := by decide +kernel
theorem dX5_joined_12 : decode cX5_joined 12 = .ok (.invokestatic 74, 3) := by decide +kernel
theorem dX5_joined_15 : decode cX5_joined 15 = .ok (.ifCond .ne 7, 3) := by decide +kernel
theorem dX5_joined_18 : decode cX5_joined 18 = .ok (.sipush (-1002), 3) := by decide +kernel
theorem dX5_joined_21 : decode cX5_joined 21 = .ok (.ireturn, 1) := by decide +kernel
theorem dX5_joined_22 : decode cX5_joined 22 = .ok (.aload_n 0, 1) := by decide +kernel
theorem dX5_joined_23 : decode cX5_joined 23 = .ok (.iconst 0, 1) := by decide +kernel
theorem dX5_joined_24 : decode cX5_joined 24 = .ok (.putfield 62, 3) := by decide +kernel
theorem dX5_joined_27 : decode cX5_joined 27 = .ok (.iconst 0, 1) := by decide +kernel
theorem dX5_joined_28 : decode cX5_joined 28 = .ok (.istore_n 3, 1) := by decide +kernel
theorem dX5_joined_29 : decode cX5_joined 29 = .ok (.iload_n 3, 1) := by decide +kernel
theorem dX5_joined_30 : decode cX5_joined 30 = .ok (.aload_n 0, 1) := by decide +kernel
theorem dX5_joined_31 : decode cX5_joined 31 = .ok (.getfield 148, 3) := by decide +kernel
theorem dX5_joined_34 : decode cX5_joined 34 = .ok (.if_icmp .ge 38, 3) := by decide +kernel
theorem dX5_joined_37 : decode cX5_joined 37 = .ok (.iload_n 3, 1) := by decide +kernel
theorem dX5_joined_38 : decode cX5_joined 38 = .ok (.ifCond .le 23, 3) := by decide +kernel
theorem dX5_joined_41 : decode cX5_joined 41 = .ok (.aload_n 0, 1) := by decide +kernel
theorem dX5_joined_42 : decode cX5_joined 42 = .ok (.getfield 22, 3) := by decide +kernel
theorem dX5_joined_45 : decode cX5_joined 45 = .ok (.aload_n 0, 1) := by decide +kernel
theorem dX5_joined_46 : decode cX5_joined 46 = .ok (.getfield 62, 3) := by decide +kernel
theorem dX5_joined_49 : decode cX5_joined 49 = .ok (.iload_n 1, 1) := by decide +kernel
theorem dX5_joined_50 : decode cX5_joined 50 = .ok (.iastore, 1) := by decide +kernel
theorem dX5_joined_51 : decode cX5_joined 51 = .ok (.aload_n 0, 1) := by decide +kernel
theorem dX5_joined_52 : decode cX5_joined 52 = .ok (.dup, 1) := by decide +kernel
theorem dX5_joined_53 : decode cX5_joined 53 = .ok (.getfield 62, 3) := by decide +kernel
theorem dX5_joined_56 : decode cX5_joined 56 = .ok (.iconst 1, 1) := by decide +kernel
theorem dX5_joined_57 : decode cX5_joined 57 = .ok (.iadd, 1) := by decide +kernel
theorem dX5_joined_58 : decode cX5_joined 58 = .ok (.putfield 62, 3) := by decide +kernel
theorem dX5_joined_61 : decode cX5_joined 61 = .ok (.aload_n 0, 1) := by decide +kernel
theorem dX5_joined_62 : decode cX5_joined 62 = .ok (.iload_n 3, 1) := by decide +kernel
theorem dX5_joined_63 : decode cX5_joined 63 = .ok (.invokevirtual 157, 3) := by decide +kernel
theorem dX5_joined_66 : decode cX5_joined 66 = .ok (.iinc 3 1, 3) := by decide +kernel
theorem dX5_joined_69 : decode cX5_joined 69 = .ok (.goto (-40), 3) := by decide +kernel
theorem dX5_joined_72 : decode cX5_joined 72 = .ok (.aload_n 0, 1) := by decide +kernel
theorem dX5_joined_73 : decode cX5_joined 73 = .ok (.iload_n 2, 1) := by decide +kernel
theorem dX5_joined_74 : decode cX5_joined 74 = .ok (.invokevirtual 118, 3) := by decide +kernel
theorem dX5_joined_77 : decode cX5_joined 77 = .ok (.ireturn, 1) := by decide +kernel
theorem dX5_isCutter_0 : decode cX5_isCutter 0 = .ok (.iload_n 0, 1) := by decide +kernel
theorem dX5_isCutter_1 : decode cX5_isCutter 1 = .ok (.i2l, 1) := by decide +kernel
theorem dX5_isCutter_2 : decode cX5_isCutter 2 = .ok (.lconst 0, 1) := by decide +kernel
theorem dX5_isCutter_3 : decode cX5_isCutter 3 = .ok (.lconst 1, 1) := by decide +kernel
theorem dX5_isCutter_4 : decode cX5_isCutter 4 = .ok (.invokestatic 54, 3) := by decide +kernel
theorem dX5_isCutter_7 : decode cX5_isCutter 7 = .ok (.ireturn, 1) := by decide +kernel
theorem dX5_isSeparatorAt_0 : decode cX5_isSeparatorAt 0 = .ok (.aload_n 0, 1) := by decide +kernel
theorem dX5_isSeparatorAt_1 : decode cX5_isSeparatorAt 1 = .ok (.getfield 43, 3) := by decide +kernel
theorem dX5_isSeparatorAt_4 : decode cX5_isSeparatorAt 4 = .ok (.sipush 256, 3) := by decide +kernel
theorem dX5_isSeparatorAt_7 : decode cX5_isSeparatorAt 7 = .ok (.iload_n 1, 1) := by decide +kernel
theorem dX5_isSeparatorAt_8 : decode cX5_isSeparatorAt 8 = .ok (.imul, 1) := by decide +kernel
theorem dX5_isSeparatorAt_9 : decode cX5_isSeparatorAt 9 = .ok (.aload_n 0, 1) := by decide +kernel
theorem dX5_isSeparatorAt_10 : decode cX5_isSeparatorAt 10 = .ok (.getfield 37, 3) := by decide +kernel
theorem dX5_isSeparatorAt_13 : decode cX5_isSeparatorAt 13 = .ok (.sipush 200, 3) := by decide +kernel
theorem dX5_isSeparatorAt_16 : decode cX5_isSeparatorAt 16 = .ok (.iload_n 1, 1) := by decide +kernel
theorem dX5_isSeparatorAt_17 : decode cX5_isSeparatorAt 17 = .ok (.imul, 1) := by decide +kernel
theorem dX5_isSeparatorAt_18 : decode cX5_isSeparatorAt 18 = .ok (.iload_n 2, 1) := by decide +kernel
theorem dX5_isSeparatorAt_19 : decode cX5_isSeparatorAt 19 = .ok (.iadd, 1) := by decide +kernel
theorem dX5_isSeparatorAt_20 : decode cX5_isSeparatorAt 20 = .ok (.iaload, 1) := by decide +kernel
theorem dX5_isSeparatorAt_21 : decode cX5_isSeparatorAt 21 = .ok (.iadd, 1) := by decide +kernel
theorem dX5_isSeparatorAt_22 : decode cX5_isSeparatorAt 22 = .ok (.iaload, 1) := by decide +kernel
theorem dX5_isSeparatorAt_23 : decode cX5_isSeparatorAt 23 = .ok (.iconst 1, 1) := by decide +kernel
theorem dX5_isSeparatorAt_24 : decode cX5_isSeparatorAt 24 = .ok (.if_icmp .ne 7, 3) := by decide +kernel
theorem dX5_isSeparatorAt_27 : decode cX5_isSeparatorAt 27 = .ok (.iconst 1, 1) := by decide +kernel
theorem dX5_isSeparatorAt_28 : decode cX5_isSeparatorAt 28 = .ok (.goto 4, 3) := by decide +kernel
theorem dX5_isSeparatorAt_31 : decode cX5_isSeparatorAt 31 = .ok (.iconst 0, 1) := by decide +kernel
theorem dX5_isSeparatorAt_32 : decode cX5_isSeparatorAt 32 = .ok (.ireturn, 1) := by decide +kernel
theorem dX5_laySeparators_0 : decode cX5_laySeparators 0 = .ok (.iconst 0, 1) := by decide +kernel
theorem dX5_laySeparators_1 : decode cX5_laySeparators 1 = .ok (.istore_n 3, 1) := by decide +kernel
theorem dX5_laySeparators_2 : decode cX5_laySeparators 2 = .ok (.iload_n 3, 1) := by decide +kernel
theorem dX5_laySeparators_3 : decode cX5_laySeparators 3 = .ok (.sipush 256, 3) := by decide +kernel
theorem dX5_laySeparators_6 : decode cX5_laySeparators 6 = .ok (.if_icmp .ge 22, 3) := by decide +kernel
theorem dX5_laySeparators_9 : decode cX5_laySeparators 9 = .ok (.aload_n 0, 1) := by decide +kernel
theorem dX5_laySeparators_10 : decode cX5_laySeparators 10 = .ok (.getfield 43, 3) := by decide +kernel
theorem dX5_laySeparators_13 : decode cX5_laySeparators 13 = .ok (.sipush 256, 3) := by decide +kernel
theorem dX5_laySeparators_16 : decode cX5_laySeparators 16 = .ok (.iload_n 1, 1) := by decide +kernel
theorem dX5_laySeparators_17 : decode cX5_laySeparators 17 = .ok (.imul, 1) := by decide +kernel
theorem dX5_laySeparators_18 : decode cX5_laySeparators 18 = .ok (.iload_n 3, 1) := by decide +kernel
theorem dX5_laySeparators_19 : decode cX5_laySeparators 19 = .ok (.iadd, 1) := by decide +kernel
theorem dX5_laySeparators_20 : decode cX5_laySeparators 20 = .ok (.iconst 0, 1) := by decide +kernel
theorem dX5_laySeparators_21 : decode cX5_laySeparators 21 = .ok (.iastore, 1) := by decide +kernel
theorem dX5_laySeparators_22 : decode cX5_laySeparators 22 = .ok (.iinc 3 1, 3) := by decide +kernel
theorem dX5_laySeparators_25 : decode cX5_laySeparators 25 = .ok (.goto (-23), 3) := by decide +kernel
theorem dX5_laySeparators_28 : decode cX5_laySeparators 28 = .ok (.iconst 0, 1) := by decide +kernel
theorem dX5_laySeparators_29 : decode cX5_laySeparators 29 = .ok (.istore_n 3, 1) := by decide +kernel
theorem dX5_laySeparators_30 : decode cX5_laySeparators 30 = .ok (.iload_n 3, 1) := by decide +kernel
theorem dX5_laySeparators_31 : decode cX5_laySeparators 31 = .ok (.aload_n 0, 1) := by decide +kernel
theorem dX5_laySeparators_32 : decode cX5_laySeparators 32 = .ok (.getfield 19, 3) := by decide +kernel
theorem dX5_laySeparators_35 : decode cX5_laySeparators 35 = .ok (.iload_n 2, 1) := by decide +kernel
theorem dX5_laySeparators_36 : decode cX5_laySeparators 36 = .ok (.iaload, 1) := by decide +kernel
theorem dX5_laySeparators_37 : decode cX5_laySeparators 37 = .ok (.if_icmp .ge 33, 3) := by decide +kernel
theorem dX5_laySeparators_40 : decode cX5_laySeparators 40 = .ok (.aload_n 0, 1) := by decide +kernel
theorem dX5_laySeparators_41 : decode cX5_laySeparators 41 = .ok (.getfield 43, 3) := by decide +kernel
theorem dX5_laySeparators_44 : decode cX5_laySeparators 44 = .ok (.sipush 256, 3) := by decide +kernel
theorem dX5_laySeparators_47 : decode cX5_laySeparators 47 = .ok (.iload_n 1, 1) := by decide +kernel
theorem dX5_laySeparators_48 : decode cX5_laySeparators 48 = .ok (.imul, 1) := by decide +kernel
theorem dX5_laySeparators_49 : decode cX5_laySeparators 49 = .ok (.aload_n 0, 1) := by decide +kernel
theorem dX5_laySeparators_50 : decode cX5_laySeparators 50 = .ok (.getfield 16, 3) := by decide +kernel
theorem dX5_laySeparators_53 : decode cX5_laySeparators 53 = .ok (.sipush 200, 3) := by decide +kernel
theorem dX5_laySeparators_56 : decode cX5_laySeparators 56 = .ok (.iload_n 2, 1) := by decide +kernel
theorem dX5_laySeparators_57 : decode cX5_laySeparators 57 = .ok (.imul, 1) := by decide +kernel
theorem dX5_laySeparators_58 : decode cX5_laySeparators 58 = .ok (.iload_n 3, 1) := by decide +kernel
theorem dX5_laySeparators_59 : decode cX5_laySeparators 59 = .ok (.iadd, 1) := by decide +kernel
theorem dX5_laySeparators_60 : decode cX5_laySeparators 60 = .ok (.iaload, 1) := by decide +kernel
theorem dX5_laySeparators_61 : decode cX5_laySeparators 61 = .ok (.iadd, 1) := by decide +kernel
theorem dX5_laySeparators_62 : decode cX5_laySeparators 62 = .ok (.iconst 1, 1) := by decide +kernel
theorem dX5_laySeparators_63 : decode cX5_laySeparators 63 = .ok (.iastore, 1) := by decide +kernel
theorem dX5_laySeparators_64 : decode cX5_laySeparators 64 = .ok (.iinc 3 1, 3) := by decide +kernel
theorem dX5_laySeparators_67 : decode cX5_laySeparators 67 = .ok (.goto (-37), 3) := by decide +kernel
theorem dX5_laySeparators_70 : decode cX5_laySeparators 70 = .ok (.return_, 1) := by decide +kernel
theorem dX5_beginOf_0 : decode cX5_beginOf 0 = .ok (.iload_n 2, 1) := by decide +kernel
theorem dX5_beginOf_1 : decode cX5_beginOf 1 = .ok (.istore_n 3, 1) := by decide +kernel
theorem dX5_beginOf_2 : decode cX5_beginOf 2 = .ok (.aload_n 0, 1) := by decide +kernel
theorem dX5_beginOf_3 : decode cX5_beginOf 3 = .ok (.getfield 46, 3) := by decide +kernel
theorem dX5_beginOf_6 : decode cX5_beginOf 6 = .ok (.iload_n 1, 1) := by decide +kernel
theorem dX5_beginOf_7 : decode cX5_beginOf 7 = .ok (.iaload, 1) := by decide +kernel
theorem dX5_beginOf_8 : decode cX5_beginOf 8 = .ok (.ifCond .ne 28, 3) := by decide +kernel
theorem dX5_beginOf_11 : decode cX5_beginOf 11 = .ok (.iload_n 3, 1) := by decide +kernel
theorem dX5_beginOf_12 : decode cX5_beginOf 12 = .ok (.aload_n 0, 1) := by decide +kernel
theorem dX5_beginOf_13 : decode cX5_beginOf 13 = .ok (.getfield 40, 3) := by decide +kernel
theorem dX5_beginOf_16 : decode cX5_beginOf 16 = .ok (.iload_n 1, 1) := by decide +kernel
theorem dX5_beginOf_17 : decode cX5_beginOf 17 = .ok (.iaload, 1) := by decide +kernel
theorem dX5_beginOf_18 : decode cX5_beginOf 18 = .ok (.if_icmp .ge 18, 3) := by decide +kernel
theorem dX5_beginOf_21 : decode cX5_beginOf 21 = .ok (.aload_n 0, 1) := by decide +kernel
theorem dX5_beginOf_22 : decode cX5_beginOf 22 = .ok (.iload_n 1, 1) := by decide +kernel
theorem dX5_beginOf_23 : decode cX5_beginOf 23 = .ok (.iload_n 3, 1) := by decide +kernel
theorem dX5_beginOf_24 : decode cX5_beginOf 24 = .ok (.invokevirtual 160, 3) := by decide +kernel
theorem dX5_beginOf_27 : decode cX5_beginOf 27 = .ok (.ifCond .eq 9, 3) := by decide +kernel
theorem dX5_beginOf_30 : decode cX5_beginOf 30 = .ok (.iinc 3 1, 3) := by decide +kernel
theorem dX5_beginOf_33 : decode cX5_beginOf 33 = .ok (.goto (-31), 3) := by decide +kernel
theorem dX5_beginOf_36 : decode cX5_beginOf 36 = .ok (.iload_n 3, 1) := by decide +kernel
theorem dX5_beginOf_37 : decode cX5_beginOf 37 = .ok (.ireturn, 1) := by decide +kernel
theorem dX5_behindOf_0 : decode cX5_behindOf 0 = .ok (.iload_n 2, 1) := by decide +kernel
theorem dX5_behindOf_1 : decode cX5_behindOf 1 = .ok (.istore_n 3, 1) := by decide +kernel
theorem dX5_behindOf_2 : decode cX5_behindOf 2 = .ok (.iload_n 3, 1) := by decide +kernel
theorem dX5_behindOf_3 : decode cX5_behindOf 3 = .ok (.aload_n 0, 1) := by decide +kernel
theorem dX5_behindOf_4 : decode cX5_behindOf 4 = .ok (.getfield 40, 3) := by decide +kernel
theorem dX5_behindOf_7 : decode cX5_behindOf 7 = .ok (.iload_n 1, 1) := by decide +kernel
theorem dX5_behindOf_8 : decode cX5_behindOf 8 = .ok (.iaload, 1) := by decide +kernel
theorem dX5_behindOf_9 : decode cX5_behindOf 9 = .ok (.if_icmp .ge 18, 3) := by decide +kernel
theorem dX5_behindOf_12 : decode cX5_behindOf 12 = .ok (.aload_n 0, 1) := by decide +kernel
theorem dX5_behindOf_13 : decode cX5_behindOf 13 = .ok (.iload_n 1, 1) := by decide +kernel
theorem dX5_behindOf_14 : decode cX5_behindOf 14 = .ok (.iload_n 3, 1) := by decide +kernel
theorem dX5_behindOf_15 : decode cX5_behindOf 15 = .ok (.invokevirtual 160, 3) := by decide +kernel
theorem dX5_behindOf_18 : decode cX5_behindOf 18 = .ok (.ifCond .ne 9, 3) := by decide +kernel
theorem dX5_behindOf_21 : decode cX5_behindOf 21 = .ok (.iinc 3 1, 3) := by decide +kernel
theorem dX5_behindOf_24 : decode cX5_behindOf 24 = .ok (.goto (-22), 3) := by decide +kernel
theorem dX5_behindOf_27 : decode cX5_behindOf 27 = .ok (.iload_n 3, 1) := by decide +kernel
theorem dX5_behindOf_28 : decode cX5_behindOf 28 = .ok (.iload_n 2, 1) := by decide +kernel
theorem dX5_behindOf_29 : decode cX5_behindOf 29 = .ok (.if_icmp .ne 9, 3) := by decide +kernel
theorem dX5_behindOf_32 : decode cX5_behindOf 32 = .ok (.iload_n 2, 1) := by decide +kernel
theorem dX5_behindOf_33 : decode cX5_behindOf 33 = .ok (.iconst 1, 1) := by decide +kernel
theorem dX5_behindOf_34 : decode cX5_behindOf 34 = .ok (.iadd, 1) := by decide +kernel
theorem dX5_behindOf_35 : decode cX5_behindOf 35 = .ok (.goto 4, 3) := by decide +kernel
theorem dX5_behindOf_38 : decode cX5_behindOf 38 = .ok (.iload_n 3, 1) := by decide +kernel
theorem dX5_behindOf_39 : decode cX5_behindOf 39 = .ok (.ireturn, 1) := by decide +kernel
theorem dX5_leftOf_0 : decode cX5_leftOf 0 = .ok (.iconst 0, 1) := by decide +kernel
theorem dX5_leftOf_1 : decode cX5_leftOf 1 = .ok (.istore_n 2, 1) := by decide +kernel
theorem dX5_leftOf_2 : decode cX5_leftOf 2 = .ok (.aload_n 0, 1) := by decide +kernel
theorem dX5_leftOf_3 : decode cX5_leftOf 3 = .ok (.iload_n 1, 1) := by decide +kernel
theorem dX5_leftOf_4 : decode cX5_leftOf 4 = .ok (.aload_n 0, 1) := by decide +kernel
theorem dX5_leftOf_5 : decode cX5_leftOf 5 = .ok (.getfield 49, 3) := by decide +kernel
theorem dX5_leftOf_8 : decode cX5_leftOf 8 = .ok (.iload_n 1, 1) := by decide +kernel
theorem dX5_leftOf_9 : decode cX5_leftOf 9 = .ok (.iaload, 1) := by decide +kernel
theorem dX5_leftOf_10 : decode cX5_leftOf 10 = .ok (.invokevirtual 164, 3) := by decide +kernel
theorem dX5_leftOf_13 : decode cX5_leftOf 13 = .ok (.istore_n 3, 1) := by decide +kernel
theorem dX5_leftOf_14 : decode cX5_leftOf 14 = .ok (.iload_n 3, 1) := by decide +kernel
theorem dX5_leftOf_15 : decode cX5_leftOf 15 = .ok (.aload_n 0, 1) := by decide +kernel
theorem dX5_leftOf_16 : decode cX5_leftOf 16 = .ok (.getfield 40, 3) := by decide +kernel
theorem dX5_leftOf_19 : decode cX5_leftOf 19 = .ok (.iload_n 1, 1) := by decide +kernel
theorem dX5_leftOf_20 : decode cX5_leftOf 20 = .ok (.iaload, 1) := by decide +kernel
theorem dX5_leftOf_21 : decode cX5_leftOf 21 = .ok (.if_icmp .ge 21, 3) := by decide +kernel
theorem dX5_leftOf_24 : decode cX5_leftOf 24 = .ok (.iinc 2 1, 3) := by decide +kernel
theorem dX5_leftOf_27 : decode cX5_leftOf 27 = .ok (.aload_n 0, 1) := by decide +kernel
theorem dX5_leftOf_28 : decode cX5_leftOf 28 = .ok (.iload_n 1, 1) := by decide +kernel
theorem dX5_leftOf_29 : decode cX5_leftOf 29 = .ok (.aload_n 0, 1) := by decide +kernel
theorem dX5_leftOf_30 : decode cX5_leftOf 30 = .ok (.iload_n 1, 1) := by decide +kernel
theorem dX5_leftOf_31 : decode cX5_leftOf 31 = .ok (.iload_n 3, 1) := by decide +kernel
theorem dX5_leftOf_32 : decode cX5_leftOf 32 = .ok (.invokevirtual 167, 3) := by decide +kernel
theorem dX5_leftOf_35 : decode cX5_leftOf 35 = .ok (.invokevirtual 164, 3) := by decide +kernel
theorem dX5_leftOf_38 : decode cX5_leftOf 38 = .ok (.istore_n 3, 1) := by decide +kernel
theorem dX5_leftOf_39 : decode cX5_leftOf 39 = .ok (.goto (-25), 3) := by decide +kernel
theorem dX5_leftOf_42 : decode cX5_leftOf 42 = .ok (.iload_n 2, 1) := by decide +kernel
theorem dX5_leftOf_43 : decode cX5_leftOf 43 = .ok (.ireturn, 1) := by decide +kernel
theorem dX5_cutter_0 : decode cX5_cutter 0 = .ok (.iload_n 1, 1) := by decide +kernel
theorem dX5_cutter_1 : decode cX5_cutter 1 = .ok (.invokestatic 170, 3) := by decide +kernel
theorem dX5_cutter_4 : decode cX5_cutter 4 = .ok (.ifCond .eq 17, 3) := by decide +kernel
theorem dX5_cutter_7 : decode cX5_cutter 7 = .ok (.iload_n 2, 1) := by decide +kernel
theorem dX5_cutter_8 : decode cX5_cutter 8 = .ok (.invokestatic 87, 3) := by decide +kernel
theorem dX5_cutter_11 : decode cX5_cutter 11 = .ok (.ifCond .eq 10, 3) := by decide +kernel
theorem dX5_cutter_14 : decode cX5_cutter 14 = .ok (.iload_n 3, 1) := by decide +kernel
theorem dX5_cutter_15 : decode cX5_cutter 15 = .ok (.invokestatic 87, 3) := by decide +kernel
theorem dX5_cutter_18 : decode cX5_cutter 18 = .ok (.ifCond .ne 7, 3) := by decide +kernel
theorem dX5_cutter_21 : decode cX5_cutter 21 = .ok (.sipush (-1001), 3) := by decide +kernel
theorem dX5_cutter_24 : decode cX5_cutter 24 = .ok (.ireturn, 1) := by decide +kernel
theorem dX5_cutter_25 : decode cX5_cutter 25 = .ok (.aload_n 0, 1) := by decide +kernel
theorem dX5_cutter_26 : decode cX5_cutter 26 = .ok (.getfield 19, 3) := by decide +kernel
theorem dX5_cutter_29 : decode cX5_cutter 29 = .ok (.iload_n 2, 1) := by decide +kernel
theorem dX5_cutter_30 : decode cX5_cutter 30 = .ok (.iaload, 1) := by decide +kernel
theorem dX5_cutter_31 : decode cX5_cutter 31 = .ok (.ifCond .lt 12, 3) := by decide +kernel
theorem dX5_cutter_34 : decode cX5_cutter 34 = .ok (.aload_n 0, 1) := by decide +kernel
theorem dX5_cutter_35 : decode cX5_cutter 35 = .ok (.getfield 19, 3) := by decide +kernel
theorem dX5_cutter_38 : decode cX5_cutter 38 = .ok (.iload_n 3, 1) := by decide +kernel
theorem dX5_cutter_39 : decode cX5_cutter 39 = .ok (.iaload, 1) := by decide +kernel
theorem dX5_cutter_40 : decode cX5_cutter 40 = .ok (.ifCond .ge 7, 3) := by decide +kernel
theorem dX5_cutter_43 : decode cX5_cutter 43 = .ok (.sipush (-1003), 3) := by decide +kernel
theorem dX5_cutter_46 : decode cX5_cutter 46 = .ok (.ireturn, 1) := by decide +kernel
theorem dX5_cutter_47 : decode cX5_cutter 47 = .ok (.aload_n 0, 1) := by decide +kernel
theorem dX5_cutter_48 : decode cX5_cutter 48 = .ok (.getfield 40, 3) := by decide +kernel
theorem dX5_cutter_51 : decode cX5_cutter 51 = .ok (.iload_n 1, 1) := by decide +kernel
theorem dX5_cutter_52 : decode cX5_cutter 52 = .ok (.aload_n 0, 1) := by decide +kernel
theorem dX5_cutter_53 : decode cX5_cutter 53 = .ok (.getfield 19, 3) := by decide +kernel
theorem dX5_cutter_56 : decode cX5_cutter 56 = .ok (.iload_n 2, 1) := by decide +kernel
theorem dX5_cutter_57 : decode cX5_cutter 57 = .ok (.iaload, 1) := by decide +kernel
theorem dX5_cutter_58 : decode cX5_cutter 58 = .ok (.iastore, 1) := by decide +kernel
theorem dX5_cutter_59 : decode cX5_cutter 59 = .ok (.iconst 0, 1) := by decide +kernel
theorem dX5_cutter_60 : decode cX5_cutter 60 = .ok (.istore 5, 2) := by decide +kernel
theorem dX5_cutter_62 : decode cX5_cutter 62 = .ok (.iload 5, 2) := by decide +kernel
theorem dX5_cutter_64 : decode cX5_cutter 64 = .ok (.aload_n 0, 1) := by decide +kernel
theorem dX5_cutter_65 : decode cX5_cutter 65 = .ok (.getfield 19, 3) := by decide +kernel
theorem dX5_cutter_68 : decode cX5_cutter 68 = .ok (.iload_n 2, 1) := by decide +kernel
theorem dX5_cutter_69 : decode cX5_cutter 69 = .ok (.iaload, 1) := by decide +kernel
theorem dX5_cutter_70 : decode cX5_cutter 70 = .ok (.if_icmp .ge 35, 3) := by decide +kernel
theorem dX5_cutter_73 : decode cX5_cutter 73 = .ok (.aload_n 0, 1) := by decide +kernel
theorem dX5_cutter_74 : decode cX5_cutter 74 = .ok (.getfield 37, 3) := by decide +kernel
theorem dX5_cutter_77 : decode cX5_cutter 77 = .ok (.sipush 200, 3) := by decide +kernel
theorem dX5_cutter_80 : decode cX5_cutter 80 = .ok (.iload_n 1, 1) := by decide +kernel
theorem dX5_cutter_81 : decode cX5_cutter 81 = .ok (.imul, 1) := by decide +kernel
theorem dX5_cutter_82 : decode cX5_cutter 82 = .ok (.iload 5, 2) := by decide +kernel
theorem dX5_cutter_84 : decode cX5_cutter 84 = .ok (.iadd, 1) := by decide +kernel
theorem dX5_cutter_85 : decode cX5_cutter 85 = .ok (.aload_n 0, 1) := by decide +kernel
theorem dX5_cutter_86 : decode cX5_cutter 86 = .ok (.getfield 16, 3) := by decide +kernel
theorem dX5_cutter_89 : decode cX5_cutter 89 = .ok (.sipush 200, 3) := by decide +kernel
theorem dX5_cutter_92 : decode cX5_cutter 92 = .ok (.iload_n 2, 1) := by decide +kernel
theorem dX5_cutter_93 : decode cX5_cutter 93 = .ok (.imul, 1) := by decide +kernel
theorem dX5_cutter_94 : decode cX5_cutter 94 = .ok (.iload 5, 2) := by decide +kernel
theorem dX5_cutter_96 : decode cX5_cutter 96 = .ok (.iadd, 1) := by decide +kernel
theorem dX5_cutter_97 : decode cX5_cutter 97 = .ok (.iaload, 1) := by decide +kernel
theorem dX5_cutter_98 : decode cX5_cutter 98 = .ok (.iastore, 1) := by decide +kernel
theorem dX5_cutter_99 : decode cX5_cutter 99 = .ok (.iinc 5 1, 3) := by decide +kernel
theorem dX5_cutter_102 : decode cX5_cutter 102 = .ok (.goto (-40), 3) := by decide +kernel
theorem dX5_cutter_105 : decode cX5_cutter 105 = .ok (.aload_n 0, 1) := by decide +kernel
theorem dX5_cutter_106 : decode cX5_cutter 106 = .ok (.iload_n 1, 1) := by decide +kernel
theorem dX5_cutter_107 : decode cX5_cutter 107 = .ok (.iload_n 3, 1) := by decide +kernel
theorem dX5_cutter_108 : decode cX5_cutter 108 = .ok (.invokevirtual 173, 3) := by decide +kernel
theorem dX5_cutter_111 : decode cX5_cutter 111 = .ok (.aload_n 0, 1) := by decide +kernel
theorem dX5_cutter_112 : decode cX5_cutter 112 = .ok (.getfield 46, 3) := by decide +kernel
theorem dX5_cutter_115 : decode cX5_cutter 115 = .ok (.iload_n 1, 1) := by decide +kernel
theorem dX5_cutter_116 : decode cX5_cutter 116 = .ok (.iload 4, 2) := by decide +kernel
theorem dX5_cutter_118 : decode cX5_cutter 118 = .ok (.ifCond .eq 7, 3) := by decide +kernel
theorem dX5_cutter_121 : decode cX5_cutter 121 = .ok (.iconst 1, 1) := by decide +kernel
theorem dX5_cutter_122 : decode cX5_cutter 122 = .ok (.goto 4, 3) := by decide +kernel
theorem dX5_cutter_125 : decode cX5_cutter 125 = .ok (.iconst 0, 1) := by decide +kernel
theorem dX5_cutter_126 : decode cX5_cutter 126 = .ok (.iastore, 1) := by decide +kernel
theorem dX5_cutter_127 : decode cX5_cutter 127 = .ok (.aload_n 0, 1) := by decide +kernel
theorem dX5_cutter_128 : decode cX5_cutter 128 = .ok (.getfield 49, 3) := by decide +kernel
theorem dX5_cutter_131 : decode cX5_cutter 131 = .ok (.iload_n 1, 1) := by decide +kernel
theorem dX5_cutter_132 : decode cX5_cutter 132 = .ok (.iconst 0, 1) := by decide +kernel
theorem dX5_cutter_133 : decode cX5_cutter 133 = .ok (.iastore, 1) := by decide +kernel
theorem dX5_cutter_134 : decode cX5_cutter 134 = .ok (.aload_n 0, 1) := by decide +kernel
theorem dX5_cutter_135 : decode cX5_cutter 135 = .ok (.iload_n 1, 1) := by decide +kernel
theorem dX5_cutter_136 : decode cX5_cutter 136 = .ok (.invokevirtual 176, 3) := by decide +kernel
theorem dX5_cutter_139 : decode cX5_cutter 139 = .ok (.ireturn, 1) := by decide +kernel
theorem dX5_more_0 : decode cX5_more 0 = .ok (.iload_n 1, 1) := by decide +kernel
theorem dX5_more_1 : decode cX5_more 1 = .ok (.invokestatic 170, 3) := by decide +kernel
theorem dX5_more_4 : decode cX5_more 4 = .ok (.ifCond .ne 7, 3) := by decide +kernel
theorem dX5_more_7 : decode cX5_more 7 = .ok (.sipush (-1001), 3) := by decide +kernel
theorem dX5_more_10 : decode cX5_more 10 = .ok (.ireturn, 1) := by decide +kernel
theorem dX5_more_11 : decode cX5_more 11 = .ok (.aload_n 0, 1) := by decide +kernel
theorem dX5_more_12 : decode cX5_more 12 = .ok (.getfield 40, 3) := by decide +kernel
theorem dX5_more_15 : decode cX5_more 15 = .ok (.iload_n 1, 1) := by decide +kernel
theorem dX5_more_16 : decode cX5_more 16 = .ok (.iaload, 1) := by decide +kernel
theorem dX5_more_17 : decode cX5_more 17 = .ok (.ifCond .ge 7, 3) := by decide +kernel
theorem dX5_more_20 : decode cX5_more 20 = .ok (.sipush (-1003), 3) := by decide +kernel
theorem dX5_more_23 : decode cX5_more 23 = .ok (.ireturn, 1) := by decide +kernel
theorem dX5_more_24 : decode cX5_more 24 = .ok (.aload_n 0, 1) := by decide +kernel
theorem dX5_more_25 : decode cX5_more 25 = .ok (.iload_n 1, 1) := by decide +kernel
theorem dX5_more_26 : decode cX5_more 26 = .ok (.aload_n 0, 1) := by decide +kernel
theorem dX5_more_27 : decode cX5_more 27 = .ok (.getfield 49, 3) := by decide +kernel
theorem dX5_more_30 : decode cX5_more 30 = .ok (.iload_n 1, 1) := by decide +kernel
theorem dX5_more_31 : decode cX5_more 31 = .ok (.iaload, 1) := by decide +kernel
theorem dX5_more_32 : decode cX5_more 32 = .ok (.invokevirtual 164, 3) := by decide +kernel
theorem dX5_more_35 : decode cX5_more 35 = .ok (.aload_n 0, 1) := by decide +kernel
theorem dX5_more_36 : decode cX5_more 36 = .ok (.getfield 40, 3) := by decide +kernel
theorem dX5_more_39 : decode cX5_more 39 = .ok (.iload_n 1, 1) := by decide +kernel
theorem dX5_more_40 : decode cX5_more 40 = .ok (.iaload, 1) := by decide +kernel
theorem dX5_more_41 : decode cX5_more 41 = .ok (.if_icmp .ge 7, 3) := by decide +kernel
theorem dX5_more_44 : decode cX5_more 44 = .ok (.iconst 1, 1) := by decide +kernel
theorem dX5_more_45 : decode cX5_more 45 = .ok (.goto 4, 3) := by decide +kernel
theorem dX5_more_48 : decode cX5_more 48 = .ok (.iconst 0, 1) := by decide +kernel
theorem dX5_more_49 : decode cX5_more 49 = .ok (.ireturn, 1) := by decide +kernel
theorem dX5_left_0 : decode cX5_left 0 = .ok (.iload_n 1, 1) := by decide +kernel
theorem dX5_left_1 : decode cX5_left 1 = .ok (.invokestatic 170, 3) := by decide +kernel
theorem dX5_left_4 : decode cX5_left 4 = .ok (.ifCond .ne 7, 3) := by decide +kernel
theorem dX5_left_7 : decode cX5_left 7 = .ok (.sipush (-1001), 3) := by decide +kernel
theorem dX5_left_10 : decode cX5_left 10 = .ok (.ireturn, 1) := by decide +kernel
theorem dX5_left_11 : decode cX5_left 11 = .ok (.aload_n 0, 1) := by decide +kernel
theorem dX5_left_12 : decode cX5_left 12 = .ok (.getfield 40, 3) := by decide +kernel
theorem dX5_left_15 : decode cX5_left 15 = .ok (.iload_n 1, 1) := by decide +kernel
theorem dX5_left_16 : decode cX5_left 16 = .ok (.iaload, 1) := by decide +kernel
theorem dX5_left_17 : decode cX5_left 17 = .ok (.ifCond .ge 9, 3) := by decide +kernel
theorem dX5_left_20 : decode cX5_left 20 = .ok (.sipush (-1003), 3) := by decide +kernel
theorem dX5_left_23 : decode cX5_left 23 = .ok (.goto 8, 3) := by decide +kernel
theorem dX5_left_26 : decode cX5_left 26 = .ok (.aload_n 0, 1) := by decide +kernel
theorem dX5_left_27 : decode cX5_left 27 = .ok (.iload_n 1, 1) := by decide +kernel
theorem dX5_left_28 : decode cX5_left 28 = .ok (.invokevirtual 176, 3) := by decide +kernel
theorem dX5_left_31 : decode cX5_left 31 = .ok (.ireturn, 1) := by decide +kernel
theorem dX5_takes_0 : decode cX5_takes 0 = .ok (.aload_n 0, 1) := by decide +kernel
theorem dX5_takes_1 : decode cX5_takes 1 = .ok (.iload_n 1, 1) := by decide +kernel
theorem dX5_takes_2 : decode cX5_takes 2 = .ok (.aload_n 0, 1) := by decide +kernel
theorem dX5_takes_3 : decode cX5_takes 3 = .ok (.getfield 49, 3) := by decide +kernel
theorem dX5_takes_6 : decode cX5_takes 6 = .ok (.iload_n 1, 1) := by decide +kernel
theorem dX5_takes_7 : decode cX5_takes 7 = .ok (.iaload, 1) := by decide +kernel
theorem dX5_takes_8 : decode cX5_takes 8 = .ok (.invokevirtual 164, 3) := by decide +kernel
theorem dX5_takes_11 : decode cX5_takes 11 = .ok (.istore_n 3, 1) := by decide +kernel
theorem dX5_takes_12 : decode cX5_takes 12 = .ok (.iload_n 3, 1) := by decide +kernel
theorem dX5_takes_13 : decode cX5_takes 13 = .ok (.aload_n 0, 1) := by decide +kernel
theorem dX5_takes_14 : decode cX5_takes 14 = .ok (.getfield 40, 3) := by decide +kernel
theorem dX5_takes_17 : decode cX5_takes 17 = .ok (.iload_n 1, 1) := by decide +kernel
theorem dX5_takes_18 : decode cX5_takes 18 = .ok (.iaload, 1) := by decide +kernel
theorem dX5_takes_19 : decode cX5_takes 19 = .ok (.if_icmp .ne 14, 3) := by decide +kernel
theorem dX5_takes_22 : decode cX5_takes 22 = .ok (.aload_n 0, 1) := by decide +kernel
theorem dX5_takes_23 : decode cX5_takes 23 = .ok (.getfield 40, 3) := by decide +kernel
theorem dX5_takes_26 : decode cX5_takes 26 = .ok (.iload_n 1, 1) := by decide +kernel
theorem dX5_takes_27 : decode cX5_takes 27 = .ok (.iconst (-1), 1) := by decide +kernel
theorem dX5_takes_28 : decode cX5_takes 28 = .ok (.iastore, 1) := by decide +kernel
theorem dX5_takes_29 : decode cX5_takes 29 = .ok (.sipush (-1006), 3) := by decide +kernel
theorem dX5_takes_32 : decode cX5_takes 32 = .ok (.ireturn, 1) := by decide +kernel
theorem dX5_takes_33 : decode cX5_takes 33 = .ok (.aload_n 0, 1) := by decide +kernel
theorem dX5_takes_34 : decode cX5_takes 34 = .ok (.iload_n 1, 1) := by decide +kernel
theorem dX5_takes_35 : decode cX5_takes 35 = .ok (.iload_n 3, 1) := by decide +kernel
theorem dX5_takes_36 : decode cX5_takes 36 = .ok (.invokevirtual 167, 3) := by decide +kernel
theorem dX5_takes_39 : decode cX5_takes 39 = .ok (.istore 4, 2) := by decide +kernel
theorem dX5_takes_41 : decode cX5_takes 41 = .ok (.aload_n 0, 1) := by decide +kernel
theorem dX5_takes_42 : decode cX5_takes 42 = .ok (.iload 4, 2) := by decide +kernel
theorem dX5_takes_44 : decode cX5_takes 44 = .ok (.iload_n 3, 1) := by decide +kernel
theorem dX5_takes_45 : decode cX5_takes 45 = .ok (.isub, 1) := by decide +kernel
theorem dX5_takes_46 : decode cX5_takes 46 = .ok (.putfield 62, 3) := by decide +kernel
theorem dX5_takes_49 : decode cX5_takes 49 = .ok (.iload_n 3, 1) := by decide +kernel
theorem dX5_takes_50 : decode cX5_takes 50 = .ok (.istore 5, 2) := by decide +kernel
theorem dX5_takes_52 : decode cX5_takes 52 = .ok (.iload 5, 2) := by decide +kernel
theorem dX5_takes_54 : decode cX5_takes 54 = .ok (.iload 4, 2) := by decide +kernel
theorem dX5_takes_56 : decode cX5_takes 56 = .ok (.if_icmp .ge 31, 3) := by decide +kernel
theorem dX5_takes_59 : decode cX5_takes 59 = .ok (.aload_n 0, 1) := by decide +kernel
theorem dX5_takes_60 : decode cX5_takes 60 = .ok (.getfield 22, 3) := by decide +kernel
theorem dX5_takes_63 : decode cX5_takes 63 = .ok (.iload 5, 2) := by decide +kernel
theorem dX5_takes_65 : decode cX5_takes 65 = .ok (.iload_n 3, 1) := by decide +kernel
theorem dX5_takes_66 : decode cX5_takes 66 = .ok (.isub, 1) := by decide +kernel
theorem dX5_takes_67 : decode cX5_takes 67 = .ok (.aload_n 0, 1) := by decide +kernel
theorem dX5_takes_68 : decode cX5_takes 68 = .ok (.getfield 37, 3) := by decide +kernel
theorem dX5_takes_71 : decode cX5_takes 71 = .ok (.sipush 200, 3) := by decide +kernel
theorem dX5_takes_74 : decode cX5_takes 74 = .ok (.iload_n 1, 1) := by decide +kernel
theorem dX5_takes_75 : decode cX5_takes 75 = .ok (.imul, 1) := by decide +kernel
theorem dX5_takes_76 : decode cX5_takes 76 = .ok (.iload 5, 2) := by decide +kernel
theorem dX5_takes_78 : decode cX5_takes 78 = .ok (.iadd, 1) := by decide +kernel
theorem dX5_takes_79 : decode cX5_takes 79 = .ok (.iaload, 1) := by decide +kernel
theorem dX5_takes_80 : decode cX5_takes 80 = .ok (.iastore, 1) := by decide +kernel
theorem dX5_takes_81 : decode cX5_takes 81 = .ok (.iinc 5 1, 3) := by decide +kernel
theorem dX5_takes_84 : decode cX5_takes 84 = .ok (.goto (-32), 3) := by decide +kernel
theorem dX5_takes_87 : decode cX5_takes 87 = .ok (.aload_n 0, 1) := by decide +kernel
theorem dX5_takes_88 : decode cX5_takes 88 = .ok (.getfield 49, 3) := by decide +kernel
theorem dX5_takes_91 : decode cX5_takes 91 = .ok (.iload_n 1, 1) := by decide +kernel
theorem dX5_takes_92 : decode cX5_takes 92 = .ok (.iload 4, 2) := by decide +kernel
theorem dX5_takes_94 : decode cX5_takes 94 = .ok (.iastore, 1) := by decide +kernel
theorem dX5_takes_95 : decode cX5_takes 95 = .ok (.aload_n 0, 1) := by decide +kernel
theorem dX5_takes_96 : decode cX5_takes 96 = .ok (.iload_n 2, 1) := by decide +kernel
theorem dX5_takes_97 : decode cX5_takes 97 = .ok (.invokevirtual 118, 3) := by decide +kernel
theorem dX5_takes_100 : decode cX5_takes 100 = .ok (.ireturn, 1) := by decide +kernel
theorem dX5_next_0 : decode cX5_next 0 = .ok (.iload_n 1, 1) := by decide +kernel
theorem dX5_next_1 : decode cX5_next 1 = .ok (.invokestatic 170, 3) := by decide +kernel
theorem dX5_next_4 : decode cX5_next 4 = .ok (.ifCond .eq 10, 3) := by decide +kernel
theorem dX5_next_7 : decode cX5_next 7 = .ok (.iload_n 2, 1) := by decide +kernel
theorem dX5_next_8 : decode cX5_next 8 = .ok (.invokestatic 87, 3) := by decide +kernel
theorem dX5_next_11 : decode cX5_next 11 = .ok (.ifCond .ne 7, 3) := by decide +kernel
theorem dX5_next_14 : decode cX5_next 14 = .ok (.sipush (-1001), 3) := by decide +kernel
theorem dX5_next_17 : decode cX5_next 17 = .ok (.ireturn, 1) := by decide +kernel
theorem dX5_next_18 : decode cX5_next 18 = .ok (.aload_n 0, 1) := by decide +kernel
theorem dX5_next_19 : decode cX5_next 19 = .ok (.getfield 40, 3) := by decide +kernel
theorem dX5_next_22 : decode cX5_next 22 = .ok (.iload_n 1, 1) := by decide +kernel
theorem dX5_next_23 : decode cX5_next 23 = .ok (.iaload, 1) := by decide +kernel
theorem dX5_next_24 : decode cX5_next 24 = .ok (.ifCond .ge 9, 3) := by decide +kernel
theorem dX5_next_27 : decode cX5_next 27 = .ok (.sipush (-1003), 3) := by decide +kernel
theorem dX5_next_30 : decode cX5_next 30 = .ok (.goto 9, 3) := by decide +kernel
theorem dX5_next_33 : decode cX5_next 33 = .ok (.aload_n 0, 1) := by decide +kernel
theorem dX5_next_34 : decode cX5_next 34 = .ok (.iload_n 1, 1) := by decide +kernel
theorem dX5_next_35 : decode cX5_next 35 = .ok (.iload_n 2, 1) := by decide +kernel
theorem dX5_next_36 : decode cX5_next 36 = .ok (.invokevirtual 179, 3) := by decide +kernel
theorem dX5_next_39 : decode cX5_next 39 = .ok (.ireturn, 1) := by decide +kernel
theorem dX5_nextBy_0 : decode cX5_nextBy 0 = .ok (.iload_n 1, 1) := by decide +kernel
theorem dX5_nextBy_1 : decode cX5_nextBy 1 = .ok (.invokestatic 170, 3) := by decide +kernel
theorem dX5_nextBy_4 : decode cX5_nextBy 4 = .ok (.ifCond .eq 17, 3) := by decide +kernel
theorem dX5_nextBy_7 : decode cX5_nextBy 7 = .ok (.iload_n 2, 1) := by decide +kernel
theorem dX5_nextBy_8 : decode cX5_nextBy 8 = .ok (.invokestatic 87, 3) := by decide +kernel
theorem dX5_nextBy_11 : decode cX5_nextBy 11 = .ok (.ifCond .eq 10, 3) := by decide +kernel
theorem dX5_nextBy_14 : decode cX5_nextBy 14 = .ok (.iload_n 3, 1) := by decide +kernel
theorem dX5_nextBy_15 : decode cX5_nextBy 15 = .ok (.invokestatic 87, 3) := by decide +kernel
theorem dX5_nextBy_18 : decode cX5_nextBy 18 = .ok (.ifCond .ne 7, 3) := by decide +kernel
theorem dX5_nextBy_21 : decode cX5_nextBy 21 = .ok (.sipush (-1001), 3) := by decide +kernel
theorem dX5_nextBy_24 : decode cX5_nextBy 24 = .ok (.ireturn, 1) := by decide +kernel
theorem dX5_nextBy_25 : decode cX5_nextBy 25 = .ok (.aload_n 0, 1) := by decide +kernel
theorem dX5_nextBy_26 : decode cX5_nextBy 26 = .ok (.getfield 40, 3) := by decide +kernel
theorem dX5_nextBy_29 : decode cX5_nextBy 29 = .ok (.iload_n 1, 1) := by decide +kernel
theorem dX5_nextBy_30 : decode cX5_nextBy 30 = .ok (.iaload, 1) := by decide +kernel
theorem dX5_nextBy_31 : decode cX5_nextBy 31 = .ok (.ifCond .lt 12, 3) := by decide +kernel
theorem dX5_nextBy_34 : decode cX5_nextBy 34 = .ok (.aload_n 0, 1) := by decide +kernel
theorem dX5_nextBy_35 : decode cX5_nextBy 35 = .ok (.getfield 19, 3) := by decide +kernel
theorem dX5_nextBy_38 : decode cX5_nextBy 38 = .ok (.iload_n 2, 1) := by decide +kernel
theorem dX5_nextBy_39 : decode cX5_nextBy 39 = .ok (.iaload, 1) := by decide +kernel
theorem dX5_nextBy_40 : decode cX5_nextBy 40 = .ok (.ifCond .ge 7, 3) := by decide +kernel
theorem dX5_nextBy_43 : decode cX5_nextBy 43 = .ok (.sipush (-1003), 3) := by decide +kernel
theorem dX5_nextBy_46 : decode cX5_nextBy 46 = .ok (.ireturn, 1) := by decide +kernel
theorem dX5_nextBy_47 : decode cX5_nextBy 47 = .ok (.aload_n 0, 1) := by decide +kernel
theorem dX5_nextBy_48 : decode cX5_nextBy 48 = .ok (.iload_n 1, 1) := by decide +kernel
theorem dX5_nextBy_49 : decode cX5_nextBy 49 = .ok (.iload_n 2, 1) := by decide +kernel
theorem dX5_nextBy_50 : decode cX5_nextBy 50 = .ok (.invokevirtual 173, 3) := by decide +kernel
theorem dX5_nextBy_53 : decode cX5_nextBy 53 = .ok (.aload_n 0, 1) := by decide +kernel
theorem dX5_nextBy_54 : decode cX5_nextBy 54 = .ok (.iload_n 1, 1) := by decide +kernel
theorem dX5_nextBy_55 : decode cX5_nextBy 55 = .ok (.iload_n 3, 1) := by decide +kernel
theorem dX5_nextBy_56 : decode cX5_nextBy 56 = .ok (.invokevirtual 179, 3) := by decide +kernel
theorem dX5_nextBy_59 : decode cX5_nextBy 59 = .ok (.ireturn, 1) := by decide +kernel
theorem dX5_mix_0 : decode cX5_mix 0 = .ok (.aload_n 0, 1) := by decide +kernel
theorem dX5_mix_1 : decode cX5_mix 1 = .ok (.ldc2_w 182, 3) := by decide +kernel
theorem dX5_mix_4 : decode cX5_mix 4 = .ok (.aload_n 0, 1) := by decide +kernel
theorem dX5_mix_5 : decode cX5_mix 5 = .ok (.getfield 184, 3) := by decide +kernel
theorem dX5_mix_8 : decode cX5_mix 8 = .ok (.lmul, 1) := by decide +kernel
theorem dX5_mix_9 : decode cX5_mix 9 = .ok (.lload_n 1, 1) := by decide +kernel
theorem dX5_mix_10 : decode cX5_mix 10 = .ok (.ladd, 1) := by decide +kernel
theorem dX5_mix_11 : decode cX5_mix 11 = .ok (.putfield 184, 3) := by decide +kernel
theorem dX5_mix_14 : decode cX5_mix 14 = .ok (.return_, 1) := by decide +kernel
theorem dX5_digest_0 : decode cX5_digest 0 = .ok (.aload_n 0, 1) := by decide +kernel
theorem dX5_digest_1 : decode cX5_digest 1 = .ok (.ldc2_w 188, 3) := by decide +kernel
theorem dX5_digest_4 : decode cX5_digest 4 = .ok (.putfield 184, 3) := by decide +kernel
theorem dX5_digest_7 : decode cX5_digest 7 = .ok (.iconst 0, 1) := by decide +kernel
theorem dX5_digest_8 : decode cX5_digest 8 = .ok (.istore_n 1, 1) := by decide +kernel
theorem dX5_digest_9 : decode cX5_digest 9 = .ok (.iload_n 1, 1) := by decide +kernel
theorem dX5_digest_10 : decode cX5_digest 10 = .ok (.iconst 4, 1) := by decide +kernel
theorem dX5_digest_11 : decode cX5_digest 11 = .ok (.if_icmp .ge 55, 3) := by decide +kernel
theorem dX5_digest_14 : decode cX5_digest 14 = .ok (.aload_n 0, 1) := by decide +kernel
theorem dX5_digest_15 : decode cX5_digest 15 = .ok (.aload_n 0, 1) := by decide +kernel
theorem dX5_digest_16 : decode cX5_digest 16 = .ok (.getfield 13, 3) := by decide +kernel
theorem dX5_digest_19 : decode cX5_digest 19 = .ok (.iload_n 1, 1) := by decide +kernel
theorem dX5_digest_20 : decode cX5_digest 20 = .ok (.iaload, 1) := by decide +kernel
theorem dX5_digest_21 : decode cX5_digest 21 = .ok (.i2l, 1) := by decide +kernel
theorem dX5_digest_22 : decode cX5_digest 22 = .ok (.invokevirtual 190, 3) := by decide +kernel
theorem dX5_digest_25 : decode cX5_digest 25 = .ok (.iconst 0, 1) := by decide +kernel
theorem dX5_digest_26 : decode cX5_digest 26 = .ok (.istore_n 2, 1) := by decide +kernel
theorem dX5_digest_27 : decode cX5_digest 27 = .ok (.iload_n 2, 1) := by decide +kernel
theorem dX5_digest_28 : decode cX5_digest 28 = .ok (.aload_n 0, 1) := by decide +kernel
theorem dX5_digest_29 : decode cX5_digest 29 = .ok (.getfield 13, 3) := by decide +kernel
theorem dX5_digest_32 : decode cX5_digest 32 = .ok (.iload_n 1, 1) := by decide +kernel
theorem dX5_digest_33 : decode cX5_digest 33 = .ok (.iaload, 1) := by decide +kernel
theorem dX5_digest_34 : decode cX5_digest 34 = .ok (.if_icmp .ge 26, 3) := by decide +kernel
theorem dX5_digest_37 : decode cX5_digest 37 = .ok (.aload_n 0, 1) := by decide +kernel
theorem dX5_digest_38 : decode cX5_digest 38 = .ok (.aload_n 0, 1) := by decide +kernel
theorem dX5_digest_39 : decode cX5_digest 39 = .ok (.getfield 7, 3) := by decide +kernel
theorem dX5_digest_42 : decode cX5_digest 42 = .ok (.sipush 200, 3) := by decide +kernel
theorem dX5_digest_45 : decode cX5_digest 45 = .ok (.iload_n 1, 1) := by decide +kernel
theorem dX5_digest_46 : decode cX5_digest 46 = .ok (.imul, 1) := by decide +kernel
theorem dX5_digest_47 : decode cX5_digest 47 = .ok (.iload_n 2, 1) := by decide +kernel
theorem dX5_digest_48 : decode cX5_digest 48 = .ok (.iadd, 1) := by decide +kernel
theorem dX5_digest_49 : decode cX5_digest 49 = .ok (.iaload, 1) := by decide +kernel
theorem dX5_digest_50 : decode cX5_digest 50 = .ok (.i2l, 1) := by decide +kernel
theorem dX5_digest_51 : decode cX5_digest 51 = .ok (.invokevirtual 190, 3) := by decide +kernel
theorem dX5_digest_54 : decode cX5_digest 54 = .ok (.iinc 2 1, 3) := by decide +kernel
theorem dX5_digest_57 : decode cX5_digest 57 = .ok (.goto (-30), 3) := by decide +kernel
theorem dX5_digest_60 : decode cX5_digest 60 = .ok (.iinc 1 1, 3) := by decide +kernel
theorem dX5_digest_63 : decode cX5_digest 63 = .ok (.goto (-54), 3) := by decide +kernel
theorem dX5_digest_66 : decode cX5_digest 66 = .ok (.iconst 0, 1) := by decide +kernel
theorem dX5_digest_67 : decode cX5_digest 67 = .ok (.istore_n 1, 1) := by decide +kernel
theorem dX5_digest_68 : decode cX5_digest 68 = .ok (.iload_n 1, 1) := by decide +kernel
theorem dX5_digest_69 : decode cX5_digest 69 = .ok (.bipush 8, 2) := by decide +kernel
theorem dX5_digest_71 : decode cX5_digest 71 = .ok (.if_icmp .ge 55, 3) := by decide +kernel
theorem dX5_digest_74 : decode cX5_digest 74 = .ok (.aload_n 0, 1) := by decide +kernel
theorem dX5_digest_75 : decode cX5_digest 75 = .ok (.aload_n 0, 1) := by decide +kernel
theorem dX5_digest_76 : decode cX5_digest 76 = .ok (.getfield 19, 3) := by decide +kernel
theorem dX5_digest_79 : decode cX5_digest 79 = .ok (.iload_n 1, 1) := by decide +kernel
theorem dX5_digest_80 : decode cX5_digest 80 = .ok (.iaload, 1) := by decide +kernel
theorem dX5_digest_81 : decode cX5_digest 81 = .ok (.i2l, 1) := by decide +kernel
theorem dX5_digest_82 : decode cX5_digest 82 = .ok (.invokevirtual 190, 3) := by decide +kernel
theorem dX5_digest_85 : decode cX5_digest 85 = .ok (.iconst 0, 1) := by decide +kernel
theorem dX5_digest_86 : decode cX5_digest 86 = .ok (.istore_n 2, 1) := by decide +kernel
theorem dX5_digest_87 : decode cX5_digest 87 = .ok (.iload_n 2, 1) := by decide +kernel
theorem dX5_digest_88 : decode cX5_digest 88 = .ok (.aload_n 0, 1) := by decide +kernel
theorem dX5_digest_89 : decode cX5_digest 89 = .ok (.getfield 19, 3) := by decide +kernel
theorem dX5_digest_92 : decode cX5_digest 92 = .ok (.iload_n 1, 1) := by decide +kernel
theorem dX5_digest_93 : decode cX5_digest 93 = .ok (.iaload, 1) := by decide +kernel
theorem dX5_digest_94 : decode cX5_digest 94 = .ok (.if_icmp .ge 26, 3) := by decide +kernel
theorem dX5_digest_97 : decode cX5_digest 97 = .ok (.aload_n 0, 1) := by decide +kernel
theorem dX5_digest_98 : decode cX5_digest 98 = .ok (.aload_n 0, 1) := by decide +kernel
theorem dX5_digest_99 : decode cX5_digest 99 = .ok (.getfield 16, 3) := by decide +kernel
theorem dX5_digest_102 : decode cX5_digest 102 = .ok (.sipush 200, 3) := by decide +kernel
theorem dX5_digest_105 : decode cX5_digest 105 = .ok (.iload_n 1, 1) := by decide +kernel
theorem dX5_digest_106 : decode cX5_digest 106 = .ok (.imul, 1) := by decide +kernel
theorem dX5_digest_107 : decode cX5_digest 107 = .ok (.iload_n 2, 1) := by decide +kernel
theorem dX5_digest_108 : decode cX5_digest 108 = .ok (.iadd, 1) := by decide +kernel
theorem dX5_digest_109 : decode cX5_digest 109 = .ok (.iaload, 1) := by decide +kernel
theorem dX5_digest_110 : decode cX5_digest 110 = .ok (.i2l, 1) := by decide +kernel
theorem dX5_digest_111 : decode cX5_digest 111 = .ok (.invokevirtual 190, 3) := by decide +kernel
theorem dX5_digest_114 : decode cX5_digest 114 = .ok (.iinc 2 1, 3) := by decide +kernel
theorem dX5_digest_117 : decode cX5_digest 117 = .ok (.goto (-30), 3) := by decide +kernel
theorem dX5_digest_120 : decode cX5_digest 120 = .ok (.iinc 1 1, 3) := by decide +kernel
theorem dX5_digest_123 : decode cX5_digest 123 = .ok (.goto (-55), 3) := by decide +kernel
theorem dX5_digest_126 : decode cX5_digest 126 = .ok (.aload_n 0, 1) := by decide +kernel
theorem dX5_digest_127 : decode cX5_digest 127 = .ok (.aload_n 0, 1) := by decide +kernel
theorem dX5_digest_128 : decode cX5_digest 128 = .ok (.getfield 148, 3) := by decide +kernel
theorem dX5_digest_131 : decode cX5_digest 131 = .ok (.i2l, 1) := by decide +kernel
theorem dX5_digest_132 : decode cX5_digest 132 = .ok (.invokevirtual 190, 3) := by decide +kernel
theorem dX5_digest_135 : decode cX5_digest 135 = .ok (.iconst 0, 1) := by decide +kernel
theorem dX5_digest_136 : decode cX5_digest 136 = .ok (.istore_n 1, 1) := by decide +kernel
theorem dX5_digest_137 : decode cX5_digest 137 = .ok (.iload_n 1, 1) := by decide +kernel
theorem dX5_digest_138 : decode cX5_digest 138 = .ok (.aload_n 0, 1) := by decide +kernel
theorem dX5_digest_139 : decode cX5_digest 139 = .ok (.getfield 148, 3) := by decide +kernel
theorem dX5_digest_142 : decode cX5_digest 142 = .ok (.if_icmp .ge 56, 3) := by decide +kernel
theorem dX5_digest_145 : decode cX5_digest 145 = .ok (.aload_n 0, 1) := by decide +kernel
theorem dX5_digest_146 : decode cX5_digest 146 = .ok (.aload_n 0, 1) := by decide +kernel
theorem dX5_digest_147 : decode cX5_digest 147 = .ok (.getfield 34, 3) := by decide +kernel
theorem dX5_digest_150 : decode cX5_digest 150 = .ok (.iload_n 1, 1) := by decide +kernel
theorem dX5_digest_151 : decode cX5_digest 151 = .ok (.iaload, 1) := by decide +kernel
theorem dX5_digest_152 : decode cX5_digest 152 = .ok (.i2l, 1) := by decide +kernel
theorem dX5_digest_153 : decode cX5_digest 153 = .ok (.invokevirtual 190, 3) := by decide +kernel
theorem dX5_digest_156 : decode cX5_digest 156 = .ok (.iconst 0, 1) := by decide +kernel
theorem dX5_digest_157 : decode cX5_digest 157 = .ok (.istore_n 2, 1) := by decide +kernel
theorem dX5_digest_158 : decode cX5_digest 158 = .ok (.iload_n 2, 1) := by decide +kernel
theorem dX5_digest_159 : decode cX5_digest 159 = .ok (.aload_n 0, 1) := by decide +kernel
theorem dX5_digest_160 : decode cX5_digest 160 = .ok (.getfield 34, 3) := by decide +kernel
theorem dX5_digest_163 : decode cX5_digest 163 = .ok (.iload_n 1, 1) := by decide +kernel
theorem dX5_digest_164 : decode cX5_digest 164 = .ok (.iaload, 1) := by decide +kernel
theorem dX5_digest_165 : decode cX5_digest 165 = .ok (.if_icmp .ge 27, 3) := by decide +kernel
theorem dX5_digest_168 : decode cX5_digest 168 = .ok (.aload_n 0, 1) := by decide +kernel
theorem dX5_digest_169 : decode cX5_digest 169 = .ok (.aload_n 0, 1) := by decide +kernel
theorem dX5_digest_170 : decode cX5_digest 170 = .ok (.getfield 28, 3) := by decide +kernel
theorem dX5_digest_173 : decode cX5_digest 173 = .ok (.aload_n 0, 1) := by decide +kernel
theorem dX5_digest_174 : decode cX5_digest 174 = .ok (.getfield 31, 3) := by decide +kernel
theorem dX5_digest_177 : decode cX5_digest 177 = .ok (.iload_n 1, 1) := by decide +kernel
theorem dX5_digest_178 : decode cX5_digest 178 = .ok (.iaload, 1) := by decide +kernel
theorem dX5_digest_179 : decode cX5_digest 179 = .ok (.iload_n 2, 1) := by decide +kernel
theorem dX5_digest_180 : decode cX5_digest 180 = .ok (.iadd, 1) := by decide +kernel
theorem dX5_digest_181 : decode cX5_digest 181 = .ok (.iaload, 1) := by decide +kernel
theorem dX5_digest_182 : decode cX5_digest 182 = .ok (.i2l, 1) := by decide +kernel
theorem dX5_digest_183 : decode cX5_digest 183 = .ok (.invokevirtual 190, 3) := by decide +kernel
theorem dX5_digest_186 : decode cX5_digest 186 = .ok (.iinc 2 1, 3) := by decide +kernel
theorem dX5_digest_189 : decode cX5_digest 189 = .ok (.goto (-31), 3) := by decide +kernel
theorem dX5_digest_192 : decode cX5_digest 192 = .ok (.iinc 1 1, 3) := by decide +kernel
theorem dX5_digest_195 : decode cX5_digest 195 = .ok (.goto (-58), 3) := by decide +kernel
theorem dX5_digest_198 : decode cX5_digest 198 = .ok (.iconst 0, 1) := by decide +kernel
theorem dX5_digest_199 : decode cX5_digest 199 = .ok (.istore_n 1, 1) := by decide +kernel
theorem dX5_digest_200 : decode cX5_digest 200 = .ok (.iload_n 1, 1) := by decide +kernel
theorem dX5_digest_201 : decode cX5_digest 201 = .ok (.iconst 2, 1) := by decide +kernel
theorem dX5_digest_202 : decode cX5_digest 202 = .ok (.if_icmp .ge 34, 3) := by decide +kernel
theorem dX5_digest_205 : decode cX5_digest 205 = .ok (.aload_n 0, 1) := by decide +kernel
theorem dX5_digest_206 : decode cX5_digest 206 = .ok (.aload_n 0, 1) := by decide +kernel
theorem dX5_digest_207 : decode cX5_digest 207 = .ok (.getfield 40, 3) := by decide +kernel
theorem dX5_digest_210 : decode cX5_digest 210 = .ok (.iload_n 1, 1) := by decide +kernel
theorem dX5_digest_211 : decode cX5_digest 211 = .ok (.iaload, 1) := by decide +kernel
theorem dX5_digest_212 : decode cX5_digest 212 = .ok (.ifCond .ge 9, 3) := by decide +kernel
theorem dX5_digest_215 : decode cX5_digest 215 = .ok (.ldc2_w 194, 3) := by decide +kernel
theorem dX5_digest_218 : decode cX5_digest 218 = .ok (.goto 9, 3) := by decide +kernel
theorem dX5_digest_221 : decode cX5_digest 221 = .ok (.aload_n 0, 1) := by decide +kernel
theorem dX5_digest_222 : decode cX5_digest 222 = .ok (.iload_n 1, 1) := by decide +kernel
theorem dX5_digest_223 : decode cX5_digest 223 = .ok (.invokevirtual 176, 3) := by decide +kernel
theorem dX5_digest_226 : decode cX5_digest 226 = .ok (.i2l, 1) := by decide +kernel
theorem dX5_digest_227 : decode cX5_digest 227 = .ok (.invokevirtual 190, 3) := by decide +kernel
theorem dX5_digest_230 : decode cX5_digest 230 = .ok (.iinc 1 1, 3) := by decide +kernel
theorem dX5_digest_233 : decode cX5_digest 233 = .ok (.goto (-33), 3) := by decide +kernel
theorem dX5_digest_236 : decode cX5_digest 236 = .ok (.aload_n 0, 1) := by decide +kernel
theorem dX5_digest_237 : decode cX5_digest 237 = .ok (.getfield 184, 3) := by decide +kernel
theorem dX5_digest_240 : decode cX5_digest 240 = .ok (.lreturn, 1) := by decide +kernel
