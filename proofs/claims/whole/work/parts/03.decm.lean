-- M_init  FleetWavesModel.<init>()V  prog_7_method_1_code maxL 1 ret none code
theorem d_M_init_0 : decode prog_7_method_1_code 0 = .ok (.aload_n 0, 1) := by decide +kernel
theorem d_M_init_1 : decode prog_7_method_1_code 1 = .ok (.invokespecial 1, 3) := by decide +kernel
theorem d_M_init_4 : decode prog_7_method_1_code 4 = .ok (.aload_n 0, 1) := by decide +kernel
theorem d_M_init_5 : decode prog_7_method_1_code 5 = .ok (.sipush 501, 3) := by decide +kernel
theorem d_M_init_8 : decode prog_7_method_1_code 8 = .ok (.newarray .long, 2) := by decide +kernel
theorem d_M_init_10 : decode prog_7_method_1_code 10 = .ok (.putfield 7, 3) := by decide +kernel
theorem d_M_init_13 : decode prog_7_method_1_code 13 = .ok (.aload_n 0, 1) := by decide +kernel
theorem d_M_init_14 : decode prog_7_method_1_code 14 = .ok (.sipush 4008, 3) := by decide +kernel
theorem d_M_init_17 : decode prog_7_method_1_code 17 = .ok (.newarray .int, 2) := by decide +kernel
theorem d_M_init_19 : decode prog_7_method_1_code 19 = .ok (.putfield 13, 3) := by decide +kernel
theorem d_M_init_22 : decode prog_7_method_1_code 22 = .ok (.aload_n 0, 1) := by decide +kernel
theorem d_M_init_23 : decode prog_7_method_1_code 23 = .ok (.sipush 501, 3) := by decide +kernel
theorem d_M_init_26 : decode prog_7_method_1_code 26 = .ok (.newarray .boolean, 2) := by decide +kernel
theorem d_M_init_28 : decode prog_7_method_1_code 28 = .ok (.putfield 17, 3) := by decide +kernel
theorem d_M_init_31 : decode prog_7_method_1_code 31 = .ok (.aload_n 0, 1) := by decide +kernel
theorem d_M_init_32 : decode prog_7_method_1_code 32 = .ok (.bipush 41, 2) := by decide +kernel
theorem d_M_init_34 : decode prog_7_method_1_code 34 = .ok (.newarray .int, 2) := by decide +kernel
theorem d_M_init_36 : decode prog_7_method_1_code 36 = .ok (.putfield 21, 3) := by decide +kernel
theorem d_M_init_39 : decode prog_7_method_1_code 39 = .ok (.aload_n 0, 1) := by decide +kernel
theorem d_M_init_40 : decode prog_7_method_1_code 40 = .ok (.bipush 41, 2) := by decide +kernel
theorem d_M_init_42 : decode prog_7_method_1_code 42 = .ok (.newarray .int, 2) := by decide +kernel
theorem d_M_init_44 : decode prog_7_method_1_code 44 = .ok (.putfield 24, 3) := by decide +kernel
theorem d_M_init_47 : decode prog_7_method_1_code 47 = .ok (.aload_n 0, 1) := by decide +kernel
theorem d_M_init_48 : decode prog_7_method_1_code 48 = .ok (.bipush 41, 2) := by decide +kernel
theorem d_M_init_50 : decode prog_7_method_1_code 50 = .ok (.newarray .int, 2) := by decide +kernel
theorem d_M_init_52 : decode prog_7_method_1_code 52 = .ok (.putfield 27, 3) := by decide +kernel
theorem d_M_init_55 : decode prog_7_method_1_code 55 = .ok (.aload_n 0, 1) := by decide +kernel
theorem d_M_init_56 : decode prog_7_method_1_code 56 = .ok (.bipush 41, 2) := by decide +kernel
theorem d_M_init_58 : decode prog_7_method_1_code 58 = .ok (.newarray .int, 2) := by decide +kernel
theorem d_M_init_60 : decode prog_7_method_1_code 60 = .ok (.putfield 30, 3) := by decide +kernel
theorem d_M_init_63 : decode prog_7_method_1_code 63 = .ok (.aload_n 0, 1) := by decide +kernel
theorem d_M_init_64 : decode prog_7_method_1_code 64 = .ok (.sipush 861, 3) := by decide +kernel
theorem d_M_init_67 : decode prog_7_method_1_code 67 = .ok (.newarray .long, 2) := by decide +kernel
theorem d_M_init_69 : decode prog_7_method_1_code 69 = .ok (.putfield 33, 3) := by decide +kernel
theorem d_M_init_72 : decode prog_7_method_1_code 72 = .ok (.aload_n 0, 1) := by decide +kernel
theorem d_M_init_73 : decode prog_7_method_1_code 73 = .ok (.sipush 861, 3) := by decide +kernel
theorem d_M_init_76 : decode prog_7_method_1_code 76 = .ok (.newarray .long, 2) := by decide +kernel
theorem d_M_init_78 : decode prog_7_method_1_code 78 = .ok (.putfield 36, 3) := by decide +kernel
theorem d_M_init_81 : decode prog_7_method_1_code 81 = .ok (.aload_n 0, 1) := by decide +kernel
theorem d_M_init_82 : decode prog_7_method_1_code 82 = .ok (.sipush 861, 3) := by decide +kernel
theorem d_M_init_85 : decode prog_7_method_1_code 85 = .ok (.newarray .long, 2) := by decide +kernel
theorem d_M_init_87 : decode prog_7_method_1_code 87 = .ok (.putfield 39, 3) := by decide +kernel
theorem d_M_init_90 : decode prog_7_method_1_code 90 = .ok (.aload_n 0, 1) := by decide +kernel
theorem d_M_init_91 : decode prog_7_method_1_code 91 = .ok (.bipush 41, 2) := by decide +kernel
theorem d_M_init_93 : decode prog_7_method_1_code 93 = .ok (.newarray .long, 2) := by decide +kernel
theorem d_M_init_95 : decode prog_7_method_1_code 95 = .ok (.putfield 42, 3) := by decide +kernel
theorem d_M_init_98 : decode prog_7_method_1_code 98 = .ok (.aload_n 0, 1) := by decide +kernel
theorem d_M_init_99 : decode prog_7_method_1_code 99 = .ok (.bipush 41, 2) := by decide +kernel
theorem d_M_init_101 : decode prog_7_method_1_code 101 = .ok (.newarray .long, 2) := by decide +kernel
theorem d_M_init_103 : decode prog_7_method_1_code 103 = .ok (.putfield 45, 3) := by decide +kernel
theorem d_M_init_106 : decode prog_7_method_1_code 106 = .ok (.aload_n 0, 1) := by decide +kernel
theorem d_M_init_107 : decode prog_7_method_1_code 107 = .ok (.bipush 41, 2) := by decide +kernel
theorem d_M_init_109 : decode prog_7_method_1_code 109 = .ok (.newarray .int, 2) := by decide +kernel
theorem d_M_init_111 : decode prog_7_method_1_code 111 = .ok (.putfield 48, 3) := by decide +kernel
theorem d_M_init_114 : decode prog_7_method_1_code 114 = .ok (.aload_n 0, 1) := by decide +kernel
theorem d_M_init_115 : decode prog_7_method_1_code 115 = .ok (.bipush 41, 2) := by decide +kernel
theorem d_M_init_117 : decode prog_7_method_1_code 117 = .ok (.newarray .int, 2) := by decide +kernel
theorem d_M_init_119 : decode prog_7_method_1_code 119 = .ok (.putfield 51, 3) := by decide +kernel
theorem d_M_init_122 : decode prog_7_method_1_code 122 = .ok (.aload_n 0, 1) := by decide +kernel
theorem d_M_init_123 : decode prog_7_method_1_code 123 = .ok (.sipush 1681, 3) := by decide +kernel
theorem d_M_init_126 : decode prog_7_method_1_code 126 = .ok (.newarray .boolean, 2) := by decide +kernel
theorem d_M_init_128 : decode prog_7_method_1_code 128 = .ok (.putfield 54, 3) := by decide +kernel
theorem d_M_init_131 : decode prog_7_method_1_code 131 = .ok (.aload_n 0, 1) := by decide +kernel
theorem d_M_init_132 : decode prog_7_method_1_code 132 = .ok (.bipush 41, 2) := by decide +kernel
theorem d_M_init_134 : decode prog_7_method_1_code 134 = .ok (.newarray .boolean, 2) := by decide +kernel
theorem d_M_init_136 : decode prog_7_method_1_code 136 = .ok (.putfield 57, 3) := by decide +kernel
theorem d_M_init_139 : decode prog_7_method_1_code 139 = .ok (.aload_n 0, 1) := by decide +kernel
theorem d_M_init_140 : decode prog_7_method_1_code 140 = .ok (.sipush 20541, 3) := by decide +kernel
theorem d_M_init_143 : decode prog_7_method_1_code 143 = .ok (.newarray .int, 2) := by decide +kernel
theorem d_M_init_145 : decode prog_7_method_1_code 145 = .ok (.putfield 60, 3) := by decide +kernel
theorem d_M_init_148 : decode prog_7_method_1_code 148 = .ok (.aload_n 0, 1) := by decide +kernel
theorem d_M_init_149 : decode prog_7_method_1_code 149 = .ok (.sipush 20541, 3) := by decide +kernel
theorem d_M_init_152 : decode prog_7_method_1_code 152 = .ok (.newarray .long, 2) := by decide +kernel
theorem d_M_init_154 : decode prog_7_method_1_code 154 = .ok (.putfield 63, 3) := by decide +kernel
theorem d_M_init_157 : decode prog_7_method_1_code 157 = .ok (.aload_n 0, 1) := by decide +kernel
theorem d_M_init_158 : decode prog_7_method_1_code 158 = .ok (.sipush 20541, 3) := by decide +kernel
theorem d_M_init_161 : decode prog_7_method_1_code 161 = .ok (.newarray .boolean, 2) := by decide +kernel
theorem d_M_init_163 : decode prog_7_method_1_code 163 = .ok (.putfield 66, 3) := by decide +kernel
theorem d_M_init_166 : decode prog_7_method_1_code 166 = .ok (.return_, 1) := by decide +kernel
-- M_thrown  FleetWavesModel.thrown()I  prog_7_method_2_code maxL 1 ret (some .int) code
theorem d_M_thrown_0 : decode prog_7_method_2_code 0 = .ok (.aload_n 0, 1) := by decide +kernel
theorem d_M_thrown_1 : decode prog_7_method_2_code 1 = .ok (.getfield 69, 3) := by decide +kernel
theorem d_M_thrown_4 : decode prog_7_method_2_code 4 = .ok (.ireturn, 1) := by decide +kernel
-- M_car  FleetWavesModel.car(JI)I  prog_7_method_5_code maxL 5 ret (some .int) code
theorem d_M_car_0 : decode prog_7_method_5_code 0 = .ok (.aload_n 0, 1) := by decide +kernel
theorem d_M_car_1 : decode prog_7_method_5_code 1 = .ok (.iconst 0, 1) := by decide +kernel
theorem d_M_car_2 : decode prog_7_method_5_code 2 = .ok (.putfield 69, 3) := by decide +kernel
theorem d_M_car_5 : decode prog_7_method_5_code 5 = .ok (.lload_n 1, 1) := by decide +kernel
theorem d_M_car_6 : decode prog_7_method_5_code 6 = .ok (.lconst 1, 1) := by decide +kernel
theorem d_M_car_7 : decode prog_7_method_5_code 7 = .ok (.lcmp, 1) := by decide +kernel
theorem d_M_car_8 : decode prog_7_method_5_code 8 = .ok (.ifCond .lt 14, 3) := by decide +kernel
theorem d_M_car_11 : decode prog_7_method_5_code 11 = .ok (.iload_n 3, 1) := by decide +kernel
theorem d_M_car_12 : decode prog_7_method_5_code 12 = .ok (.ifCond .lt 10, 3) := by decide +kernel
theorem d_M_car_15 : decode prog_7_method_5_code 15 = .ok (.iload_n 3, 1) := by decide +kernel
theorem d_M_car_16 : decode prog_7_method_5_code 16 = .ok (.sipush 1000, 3) := by decide +kernel
theorem d_M_car_19 : decode prog_7_method_5_code 19 = .ok (.if_icmp .le 6, 3) := by decide +kernel
theorem d_M_car_22 : decode prog_7_method_5_code 22 = .ok (.bipush (-2), 2) := by decide +kernel
theorem d_M_car_24 : decode prog_7_method_5_code 24 = .ok (.ireturn, 1) := by decide +kernel
theorem d_M_car_25 : decode prog_7_method_5_code 25 = .ok (.iconst 1, 1) := by decide +kernel
theorem d_M_car_26 : decode prog_7_method_5_code 26 = .ok (.istore 4, 2) := by decide +kernel
theorem d_M_car_28 : decode prog_7_method_5_code 28 = .ok (.iload 4, 2) := by decide +kernel
theorem d_M_car_30 : decode prog_7_method_5_code 30 = .ok (.aload_n 0, 1) := by decide +kernel
theorem d_M_car_31 : decode prog_7_method_5_code 31 = .ok (.getfield 73, 3) := by decide +kernel
theorem d_M_car_34 : decode prog_7_method_5_code 34 = .ok (.if_icmp .gt 24, 3) := by decide +kernel
theorem d_M_car_37 : decode prog_7_method_5_code 37 = .ok (.aload_n 0, 1) := by decide +kernel
theorem d_M_car_38 : decode prog_7_method_5_code 38 = .ok (.getfield 7, 3) := by decide +kernel
theorem d_M_car_41 : decode prog_7_method_5_code 41 = .ok (.iload 4, 2) := by decide +kernel
theorem d_M_car_43 : decode prog_7_method_5_code 43 = .ok (.laload, 1) := by decide +kernel
theorem d_M_car_44 : decode prog_7_method_5_code 44 = .ok (.lload_n 1, 1) := by decide +kernel
theorem d_M_car_45 : decode prog_7_method_5_code 45 = .ok (.lcmp, 1) := by decide +kernel
theorem d_M_car_46 : decode prog_7_method_5_code 46 = .ok (.ifCond .ne 6, 3) := by decide +kernel
theorem d_M_car_49 : decode prog_7_method_5_code 49 = .ok (.bipush (-3), 2) := by decide +kernel
theorem d_M_car_51 : decode prog_7_method_5_code 51 = .ok (.ireturn, 1) := by decide +kernel
theorem d_M_car_52 : decode prog_7_method_5_code 52 = .ok (.iinc 4 1, 3) := by decide +kernel
theorem d_M_car_55 : decode prog_7_method_5_code 55 = .ok (.goto (-27), 3) := by decide +kernel
theorem d_M_car_58 : decode prog_7_method_5_code 58 = .ok (.aload_n 0, 1) := by decide +kernel
theorem d_M_car_59 : decode prog_7_method_5_code 59 = .ok (.getfield 73, 3) := by decide +kernel
theorem d_M_car_62 : decode prog_7_method_5_code 62 = .ok (.sipush 500, 3) := by decide +kernel
theorem d_M_car_65 : decode prog_7_method_5_code 65 = .ok (.if_icmp .ne 6, 3) := by decide +kernel
theorem d_M_car_68 : decode prog_7_method_5_code 68 = .ok (.bipush (-4), 2) := by decide +kernel
theorem d_M_car_70 : decode prog_7_method_5_code 70 = .ok (.ireturn, 1) := by decide +kernel
theorem d_M_car_71 : decode prog_7_method_5_code 71 = .ok (.aload_n 0, 1) := by decide +kernel
theorem d_M_car_72 : decode prog_7_method_5_code 72 = .ok (.dup, 1) := by decide +kernel
theorem d_M_car_73 : decode prog_7_method_5_code 73 = .ok (.getfield 73, 3) := by decide +kernel
theorem d_M_car_76 : decode prog_7_method_5_code 76 = .ok (.iconst 1, 1) := by decide +kernel
theorem d_M_car_77 : decode prog_7_method_5_code 77 = .ok (.iadd, 1) := by decide +kernel
theorem d_M_car_78 : decode prog_7_method_5_code 78 = .ok (.putfield 73, 3) := by decide +kernel
theorem d_M_car_81 : decode prog_7_method_5_code 81 = .ok (.aload_n 0, 1) := by decide +kernel
theorem d_M_car_82 : decode prog_7_method_5_code 82 = .ok (.getfield 7, 3) := by decide +kernel
theorem d_M_car_85 : decode prog_7_method_5_code 85 = .ok (.aload_n 0, 1) := by decide +kernel
theorem d_M_car_86 : decode prog_7_method_5_code 86 = .ok (.getfield 73, 3) := by decide +kernel
theorem d_M_car_89 : decode prog_7_method_5_code 89 = .ok (.lload_n 1, 1) := by decide +kernel
theorem d_M_car_90 : decode prog_7_method_5_code 90 = .ok (.lastore, 1) := by decide +kernel
theorem d_M_car_91 : decode prog_7_method_5_code 91 = .ok (.iconst 0, 1) := by decide +kernel
theorem d_M_car_92 : decode prog_7_method_5_code 92 = .ok (.istore 4, 2) := by decide +kernel
theorem d_M_car_94 : decode prog_7_method_5_code 94 = .ok (.iload 4, 2) := by decide +kernel
theorem d_M_car_96 : decode prog_7_method_5_code 96 = .ok (.bipush 8, 2) := by decide +kernel
theorem d_M_car_98 : decode prog_7_method_5_code 98 = .ok (.if_icmp .ge 25, 3) := by decide +kernel
theorem d_M_car_101 : decode prog_7_method_5_code 101 = .ok (.aload_n 0, 1) := by decide +kernel
theorem d_M_car_102 : decode prog_7_method_5_code 102 = .ok (.getfield 13, 3) := by decide +kernel
theorem d_M_car_105 : decode prog_7_method_5_code 105 = .ok (.bipush 8, 2) := by decide +kernel
theorem d_M_car_107 : decode prog_7_method_5_code 107 = .ok (.aload_n 0, 1) := by decide +kernel
theorem d_M_car_108 : decode prog_7_method_5_code 108 = .ok (.getfield 73, 3) := by decide +kernel
theorem d_M_car_111 : decode prog_7_method_5_code 111 = .ok (.imul, 1) := by decide +kernel
theorem d_M_car_112 : decode prog_7_method_5_code 112 = .ok (.iload 4, 2) := by decide +kernel
theorem d_M_car_114 : decode prog_7_method_5_code 114 = .ok (.iadd, 1) := by decide +kernel
theorem d_M_car_115 : decode prog_7_method_5_code 115 = .ok (.iload_n 3, 1) := by decide +kernel
theorem d_M_car_116 : decode prog_7_method_5_code 116 = .ok (.iastore, 1) := by decide +kernel
theorem d_M_car_117 : decode prog_7_method_5_code 117 = .ok (.iinc 4 1, 3) := by decide +kernel
theorem d_M_car_120 : decode prog_7_method_5_code 120 = .ok (.goto (-26), 3) := by decide +kernel
theorem d_M_car_123 : decode prog_7_method_5_code 123 = .ok (.aload_n 0, 1) := by decide +kernel
theorem d_M_car_124 : decode prog_7_method_5_code 124 = .ok (.getfield 73, 3) := by decide +kernel
theorem d_M_car_127 : decode prog_7_method_5_code 127 = .ok (.ireturn, 1) := by decide +kernel
-- M_campaign  FleetWavesModel.campaign(II)I  prog_7_method_6_code maxL 4 ret (some .int) code
theorem d_M_campaign_0 : decode prog_7_method_6_code 0 = .ok (.aload_n 0, 1) := by decide +kernel
theorem d_M_campaign_1 : decode prog_7_method_6_code 1 = .ok (.iconst 0, 1) := by decide +kernel
theorem d_M_campaign_2 : decode prog_7_method_6_code 2 = .ok (.putfield 69, 3) := by decide +kernel
theorem d_M_campaign_5 : decode prog_7_method_6_code 5 = .ok (.iload_n 1, 1) := by decide +kernel
theorem d_M_campaign_6 : decode prog_7_method_6_code 6 = .ok (.ifCond .lt 21, 3) := by decide +kernel
theorem d_M_campaign_9 : decode prog_7_method_6_code 9 = .ok (.iload_n 1, 1) := by decide +kernel
theorem d_M_campaign_10 : decode prog_7_method_6_code 10 = .ok (.ldc 79, 2) := by decide +kernel
theorem d_M_campaign_12 : decode prog_7_method_6_code 12 = .ok (.if_icmp .gt 15, 3) := by decide +kernel
theorem d_M_campaign_15 : decode prog_7_method_6_code 15 = .ok (.iload_n 2, 1) := by decide +kernel
theorem d_M_campaign_16 : decode prog_7_method_6_code 16 = .ok (.iconst 1, 1) := by decide +kernel
theorem d_M_campaign_17 : decode prog_7_method_6_code 17 = .ok (.if_icmp .lt 10, 3) := by decide +kernel
theorem d_M_campaign_20 : decode prog_7_method_6_code 20 = .ok (.iload_n 2, 1) := by decide +kernel
theorem d_M_campaign_21 : decode prog_7_method_6_code 21 = .ok (.sipush 1000, 3) := by decide +kernel
theorem d_M_campaign_24 : decode prog_7_method_6_code 24 = .ok (.if_icmp .le 6, 3) := by decide +kernel
theorem d_M_campaign_27 : decode prog_7_method_6_code 27 = .ok (.bipush (-2), 2) := by decide +kernel
theorem d_M_campaign_29 : decode prog_7_method_6_code 29 = .ok (.ireturn, 1) := by decide +kernel
theorem d_M_campaign_30 : decode prog_7_method_6_code 30 = .ok (.aload_n 0, 1) := by decide +kernel
theorem d_M_campaign_31 : decode prog_7_method_6_code 31 = .ok (.getfield 76, 3) := by decide +kernel
theorem d_M_campaign_34 : decode prog_7_method_6_code 34 = .ok (.bipush 40, 2) := by decide +kernel
theorem d_M_campaign_36 : decode prog_7_method_6_code 36 = .ok (.if_icmp .ne 6, 3) := by decide +kernel
theorem d_M_campaign_39 : decode prog_7_method_6_code 39 = .ok (.bipush (-4), 2) := by decide +kernel
theorem d_M_campaign_41 : decode prog_7_method_6_code 41 = .ok (.ireturn, 1) := by decide +kernel
theorem d_M_campaign_42 : decode prog_7_method_6_code 42 = .ok (.iconst 1, 1) := by decide +kernel
theorem d_M_campaign_43 : decode prog_7_method_6_code 43 = .ok (.istore_n 3, 1) := by decide +kernel
theorem d_M_campaign_44 : decode prog_7_method_6_code 44 = .ok (.iload_n 3, 1) := by decide +kernel
theorem d_M_campaign_45 : decode prog_7_method_6_code 45 = .ok (.aload_n 0, 1) := by decide +kernel
theorem d_M_campaign_46 : decode prog_7_method_6_code 46 = .ok (.getfield 76, 3) := by decide +kernel
theorem d_M_campaign_49 : decode prog_7_method_6_code 49 = .ok (.if_icmp .gt 35, 3) := by decide +kernel
theorem d_M_campaign_52 : decode prog_7_method_6_code 52 = .ok (.aload_n 0, 1) := by decide +kernel
theorem d_M_campaign_53 : decode prog_7_method_6_code 53 = .ok (.getfield 21, 3) := by decide +kernel
theorem d_M_campaign_56 : decode prog_7_method_6_code 56 = .ok (.iload_n 3, 1) := by decide +kernel
theorem d_M_campaign_57 : decode prog_7_method_6_code 57 = .ok (.iaload, 1) := by decide +kernel
theorem d_M_campaign_58 : decode prog_7_method_6_code 58 = .ok (.iload_n 1, 1) := by decide +kernel
theorem d_M_campaign_59 : decode prog_7_method_6_code 59 = .ok (.isub, 1) := by decide +kernel
theorem d_M_campaign_60 : decode prog_7_method_6_code 60 = .ok (.bipush 8, 2) := by decide +kernel
theorem d_M_campaign_62 : decode prog_7_method_6_code 62 = .ok (.irem, 1) := by decide +kernel
theorem d_M_campaign_63 : decode prog_7_method_6_code 63 = .ok (.ifCond .ne 15, 3) := by decide +kernel
theorem d_M_campaign_66 : decode prog_7_method_6_code 66 = .ok (.aload_n 0, 1) := by decide +kernel
theorem d_M_campaign_67 : decode prog_7_method_6_code 67 = .ok (.getfield 24, 3) := by decide +kernel
theorem d_M_campaign_70 : decode prog_7_method_6_code 70 = .ok (.iload_n 3, 1) := by decide +kernel
theorem d_M_campaign_71 : decode prog_7_method_6_code 71 = .ok (.iaload, 1) := by decide +kernel
theorem d_M_campaign_72 : decode prog_7_method_6_code 72 = .ok (.iload_n 2, 1) := by decide +kernel
theorem d_M_campaign_73 : decode prog_7_method_6_code 73 = .ok (.if_icmp .ne 5, 3) := by decide +kernel
theorem d_M_campaign_76 : decode prog_7_method_6_code 76 = .ok (.iconst 0, 1) := by decide +kernel
theorem d_M_campaign_77 : decode prog_7_method_6_code 77 = .ok (.ireturn, 1) := by decide +kernel
theorem d_M_campaign_78 : decode prog_7_method_6_code 78 = .ok (.iinc 3 1, 3) := by decide +kernel
theorem d_M_campaign_81 : decode prog_7_method_6_code 81 = .ok (.goto (-37), 3) := by decide +kernel
theorem d_M_campaign_84 : decode prog_7_method_6_code 84 = .ok (.aload_n 0, 1) := by decide +kernel
theorem d_M_campaign_85 : decode prog_7_method_6_code 85 = .ok (.dup, 1) := by decide +kernel
theorem d_M_campaign_86 : decode prog_7_method_6_code 86 = .ok (.getfield 76, 3) := by decide +kernel
theorem d_M_campaign_89 : decode prog_7_method_6_code 89 = .ok (.iconst 1, 1) := by decide +kernel
theorem d_M_campaign_90 : decode prog_7_method_6_code 90 = .ok (.iadd, 1) := by decide +kernel
theorem d_M_campaign_91 : decode prog_7_method_6_code 91 = .ok (.putfield 76, 3) := by decide +kernel
theorem d_M_campaign_94 : decode prog_7_method_6_code 94 = .ok (.aload_n 0, 1) := by decide +kernel
theorem d_M_campaign_95 : decode prog_7_method_6_code 95 = .ok (.getfield 21, 3) := by decide +kernel
theorem d_M_campaign_98 : decode prog_7_method_6_code 98 = .ok (.aload_n 0, 1) := by decide +kernel
theorem d_M_campaign_99 : decode prog_7_method_6_code 99 = .ok (.getfield 76, 3) := by decide +kernel
theorem d_M_campaign_102 : decode prog_7_method_6_code 102 = .ok (.iload_n 1, 1) := by decide +kernel
theorem d_M_campaign_103 : decode prog_7_method_6_code 103 = .ok (.iastore, 1) := by decide +kernel
theorem d_M_campaign_104 : decode prog_7_method_6_code 104 = .ok (.aload_n 0, 1) := by decide +kernel
theorem d_M_campaign_105 : decode prog_7_method_6_code 105 = .ok (.getfield 24, 3) := by decide +kernel
theorem d_M_campaign_108 : decode prog_7_method_6_code 108 = .ok (.aload_n 0, 1) := by decide +kernel
theorem d_M_campaign_109 : decode prog_7_method_6_code 109 = .ok (.getfield 76, 3) := by decide +kernel
theorem d_M_campaign_112 : decode prog_7_method_6_code 112 = .ok (.iload_n 2, 1) := by decide +kernel
theorem d_M_campaign_113 : decode prog_7_method_6_code 113 = .ok (.iastore, 1) := by decide +kernel
theorem d_M_campaign_114 : decode prog_7_method_6_code 114 = .ok (.aload_n 0, 1) := by decide +kernel
theorem d_M_campaign_115 : decode prog_7_method_6_code 115 = .ok (.getfield 76, 3) := by decide +kernel
theorem d_M_campaign_118 : decode prog_7_method_6_code 118 = .ok (.ireturn, 1) := by decide +kernel
-- M_wave  FleetWavesModel.wave(IJJJ)I  prog_7_method_13_code maxL 9 ret (some .int) code
theorem d_M_wave_0 : decode prog_7_method_13_code 0 = .ok (.aload_n 0, 1) := by decide +kernel
theorem d_M_wave_1 : decode prog_7_method_13_code 1 = .ok (.iload_n 1, 1) := by decide +kernel
theorem d_M_wave_2 : decode prog_7_method_13_code 2 = .ok (.invokevirtual 96, 3) := by decide +kernel
theorem d_M_wave_5 : decode prog_7_method_13_code 5 = .ok (.ifCond .eq 5, 3) := by decide +kernel
theorem d_M_wave_8 : decode prog_7_method_13_code 8 = .ok (.iconst (-1), 1) := by decide +kernel
theorem d_M_wave_9 : decode prog_7_method_13_code 9 = .ok (.ireturn, 1) := by decide +kernel
theorem d_M_wave_10 : decode prog_7_method_13_code 10 = .ok (.lload_n 2, 1) := by decide +kernel
theorem d_M_wave_11 : decode prog_7_method_13_code 11 = .ok (.lload 4, 2) := by decide +kernel
theorem d_M_wave_13 : decode prog_7_method_13_code 13 = .ok (.invokestatic 100, 3) := by decide +kernel
theorem d_M_wave_16 : decode prog_7_method_13_code 16 = .ok (.ifCond .ne 13, 3) := by decide +kernel
theorem d_M_wave_19 : decode prog_7_method_13_code 19 = .ok (.lload 6, 2) := by decide +kernel
theorem d_M_wave_21 : decode prog_7_method_13_code 21 = .ok (.aload_n 0, 1) := by decide +kernel
theorem d_M_wave_22 : decode prog_7_method_13_code 22 = .ok (.getfield 104, 3) := by decide +kernel
theorem d_M_wave_25 : decode prog_7_method_13_code 25 = .ok (.lcmp, 1) := by decide +kernel
theorem d_M_wave_26 : decode prog_7_method_13_code 26 = .ok (.ifCond .ge 6, 3) := by decide +kernel
theorem d_M_wave_29 : decode prog_7_method_13_code 29 = .ok (.bipush (-2), 2) := by decide +kernel
theorem d_M_wave_31 : decode prog_7_method_13_code 31 = .ok (.ireturn, 1) := by decide +kernel
theorem d_M_wave_32 : decode prog_7_method_13_code 32 = .ok (.bipush 21, 2) := by decide +kernel
theorem d_M_wave_34 : decode prog_7_method_13_code 34 = .ok (.iload_n 1, 1) := by decide +kernel
theorem d_M_wave_35 : decode prog_7_method_13_code 35 = .ok (.imul, 1) := by decide +kernel
theorem d_M_wave_36 : decode prog_7_method_13_code 36 = .ok (.aload_n 0, 1) := by decide +kernel
theorem d_M_wave_37 : decode prog_7_method_13_code 37 = .ok (.getfield 30, 3) := by decide +kernel
theorem d_M_wave_40 : decode prog_7_method_13_code 40 = .ok (.iload_n 1, 1) := by decide +kernel
theorem d_M_wave_41 : decode prog_7_method_13_code 41 = .ok (.iaload, 1) := by decide +kernel
theorem d_M_wave_42 : decode prog_7_method_13_code 42 = .ok (.iadd, 1) := by decide +kernel
theorem d_M_wave_43 : decode prog_7_method_13_code 43 = .ok (.istore 8, 2) := by decide +kernel
theorem d_M_wave_45 : decode prog_7_method_13_code 45 = .ok (.aload_n 0, 1) := by decide +kernel
theorem d_M_wave_46 : decode prog_7_method_13_code 46 = .ok (.getfield 30, 3) := by decide +kernel
theorem d_M_wave_49 : decode prog_7_method_13_code 49 = .ok (.iload_n 1, 1) := by decide +kernel
theorem d_M_wave_50 : decode prog_7_method_13_code 50 = .ok (.iaload, 1) := by decide +kernel
theorem d_M_wave_51 : decode prog_7_method_13_code 51 = .ok (.ifCond .le 31, 3) := by decide +kernel
theorem d_M_wave_54 : decode prog_7_method_13_code 54 = .ok (.lload_n 2, 1) := by decide +kernel
theorem d_M_wave_55 : decode prog_7_method_13_code 55 = .ok (.lload 4, 2) := by decide +kernel
theorem d_M_wave_57 : decode prog_7_method_13_code 57 = .ok (.aload_n 0, 1) := by decide +kernel
theorem d_M_wave_58 : decode prog_7_method_13_code 58 = .ok (.getfield 33, 3) := by decide +kernel
theorem d_M_wave_61 : decode prog_7_method_13_code 61 = .ok (.iload 8, 2) := by decide +kernel
theorem d_M_wave_63 : decode prog_7_method_13_code 63 = .ok (.laload, 1) := by decide +kernel
theorem d_M_wave_64 : decode prog_7_method_13_code 64 = .ok (.aload_n 0, 1) := by decide +kernel
theorem d_M_wave_65 : decode prog_7_method_13_code 65 = .ok (.getfield 36, 3) := by decide +kernel
theorem d_M_wave_68 : decode prog_7_method_13_code 68 = .ok (.iload 8, 2) := by decide +kernel
theorem d_M_wave_70 : decode prog_7_method_13_code 70 = .ok (.laload, 1) := by decide +kernel
theorem d_M_wave_71 : decode prog_7_method_13_code 71 = .ok (.invokestatic 108, 3) := by decide +kernel
theorem d_M_wave_74 : decode prog_7_method_13_code 74 = .ok (.lconst 0, 1) := by decide +kernel
theorem d_M_wave_75 : decode prog_7_method_13_code 75 = .ok (.lcmp, 1) := by decide +kernel
theorem d_M_wave_76 : decode prog_7_method_13_code 76 = .ok (.ifCond .ge 6, 3) := by decide +kernel
theorem d_M_wave_79 : decode prog_7_method_13_code 79 = .ok (.bipush (-2), 2) := by decide +kernel
theorem d_M_wave_81 : decode prog_7_method_13_code 81 = .ok (.ireturn, 1) := by decide +kernel
theorem d_M_wave_82 : decode prog_7_method_13_code 82 = .ok (.aload_n 0, 1) := by decide +kernel
theorem d_M_wave_83 : decode prog_7_method_13_code 83 = .ok (.getfield 27, 3) := by decide +kernel
theorem d_M_wave_86 : decode prog_7_method_13_code 86 = .ok (.iload_n 1, 1) := by decide +kernel
theorem d_M_wave_87 : decode prog_7_method_13_code 87 = .ok (.iaload, 1) := by decide +kernel
theorem d_M_wave_88 : decode prog_7_method_13_code 88 = .ok (.iconst 3, 1) := by decide +kernel
theorem d_M_wave_89 : decode prog_7_method_13_code 89 = .ok (.if_icmp .ne 6, 3) := by decide +kernel
theorem d_M_wave_92 : decode prog_7_method_13_code 92 = .ok (.bipush (-3), 2) := by decide +kernel
theorem d_M_wave_94 : decode prog_7_method_13_code 94 = .ok (.ireturn, 1) := by decide +kernel
theorem d_M_wave_95 : decode prog_7_method_13_code 95 = .ok (.aload_n 0, 1) := by decide +kernel
theorem d_M_wave_96 : decode prog_7_method_13_code 96 = .ok (.getfield 30, 3) := by decide +kernel
theorem d_M_wave_99 : decode prog_7_method_13_code 99 = .ok (.iload_n 1, 1) := by decide +kernel
theorem d_M_wave_100 : decode prog_7_method_13_code 100 = .ok (.iaload, 1) := by decide +kernel
theorem d_M_wave_101 : decode prog_7_method_13_code 101 = .ok (.bipush 20, 2) := by decide +kernel
theorem d_M_wave_103 : decode prog_7_method_13_code 103 = .ok (.if_icmp .ne 6, 3) := by decide +kernel
theorem d_M_wave_106 : decode prog_7_method_13_code 106 = .ok (.bipush (-4), 2) := by decide +kernel
theorem d_M_wave_108 : decode prog_7_method_13_code 108 = .ok (.ireturn, 1) := by decide +kernel
theorem d_M_wave_109 : decode prog_7_method_13_code 109 = .ok (.aload_n 0, 1) := by decide +kernel
theorem d_M_wave_110 : decode prog_7_method_13_code 110 = .ok (.lload 6, 2) := by decide +kernel
theorem d_M_wave_112 : decode prog_7_method_13_code 112 = .ok (.putfield 104, 3) := by decide +kernel
theorem d_M_wave_115 : decode prog_7_method_13_code 115 = .ok (.aload_n 0, 1) := by decide +kernel
theorem d_M_wave_116 : decode prog_7_method_13_code 116 = .ok (.getfield 30, 3) := by decide +kernel
theorem d_M_wave_119 : decode prog_7_method_13_code 119 = .ok (.iload_n 1, 1) := by decide +kernel
theorem d_M_wave_120 : decode prog_7_method_13_code 120 = .ok (.dup2, 1) := by decide +kernel
theorem d_M_wave_121 : decode prog_7_method_13_code 121 = .ok (.iaload, 1) := by decide +kernel
theorem d_M_wave_122 : decode prog_7_method_13_code 122 = .ok (.iconst 1, 1) := by decide +kernel
theorem d_M_wave_123 : decode prog_7_method_13_code 123 = .ok (.iadd, 1) := by decide +kernel
theorem d_M_wave_124 : decode prog_7_method_13_code 124 = .ok (.iastore, 1) := by decide +kernel
theorem d_M_wave_125 : decode prog_7_method_13_code 125 = .ok (.aload_n 0, 1) := by decide +kernel
theorem d_M_wave_126 : decode prog_7_method_13_code 126 = .ok (.getfield 33, 3) := by decide +kernel
theorem d_M_wave_129 : decode prog_7_method_13_code 129 = .ok (.iload 8, 2) := by decide +kernel
theorem d_M_wave_131 : decode prog_7_method_13_code 131 = .ok (.iconst 1, 1) := by decide +kernel
theorem d_M_wave_132 : decode prog_7_method_13_code 132 = .ok (.iadd, 1) := by decide +kernel
theorem d_M_wave_133 : decode prog_7_method_13_code 133 = .ok (.lload_n 2, 1) := by decide +kernel
theorem d_M_wave_134 : decode prog_7_method_13_code 134 = .ok (.lastore, 1) := by decide +kernel
theorem d_M_wave_135 : decode prog_7_method_13_code 135 = .ok (.aload_n 0, 1) := by decide +kernel
theorem d_M_wave_136 : decode prog_7_method_13_code 136 = .ok (.getfield 36, 3) := by decide +kernel
theorem d_M_wave_139 : decode prog_7_method_13_code 139 = .ok (.iload 8, 2) := by decide +kernel
theorem d_M_wave_141 : decode prog_7_method_13_code 141 = .ok (.iconst 1, 1) := by decide +kernel
theorem d_M_wave_142 : decode prog_7_method_13_code 142 = .ok (.iadd, 1) := by decide +kernel
theorem d_M_wave_143 : decode prog_7_method_13_code 143 = .ok (.lload 4, 2) := by decide +kernel
theorem d_M_wave_145 : decode prog_7_method_13_code 145 = .ok (.lastore, 1) := by decide +kernel
theorem d_M_wave_146 : decode prog_7_method_13_code 146 = .ok (.aload_n 0, 1) := by decide +kernel
theorem d_M_wave_147 : decode prog_7_method_13_code 147 = .ok (.getfield 39, 3) := by decide +kernel
theorem d_M_wave_150 : decode prog_7_method_13_code 150 = .ok (.iload 8, 2) := by decide +kernel
theorem d_M_wave_152 : decode prog_7_method_13_code 152 = .ok (.iconst 1, 1) := by decide +kernel
theorem d_M_wave_153 : decode prog_7_method_13_code 153 = .ok (.iadd, 1) := by decide +kernel
theorem d_M_wave_154 : decode prog_7_method_13_code 154 = .ok (.lload 6, 2) := by decide +kernel
theorem d_M_wave_156 : decode prog_7_method_13_code 156 = .ok (.lastore, 1) := by decide +kernel
theorem d_M_wave_157 : decode prog_7_method_13_code 157 = .ok (.aload_n 0, 1) := by decide +kernel
theorem d_M_wave_158 : decode prog_7_method_13_code 158 = .ok (.getfield 27, 3) := by decide +kernel
theorem d_M_wave_161 : decode prog_7_method_13_code 161 = .ok (.iload_n 1, 1) := by decide +kernel
theorem d_M_wave_162 : decode prog_7_method_13_code 162 = .ok (.iconst 1, 1) := by decide +kernel
theorem d_M_wave_163 : decode prog_7_method_13_code 163 = .ok (.iastore, 1) := by decide +kernel
theorem d_M_wave_164 : decode prog_7_method_13_code 164 = .ok (.aload_n 0, 1) := by decide +kernel
theorem d_M_wave_165 : decode prog_7_method_13_code 165 = .ok (.getfield 30, 3) := by decide +kernel
theorem d_M_wave_168 : decode prog_7_method_13_code 168 = .ok (.iload_n 1, 1) := by decide +kernel
theorem d_M_wave_169 : decode prog_7_method_13_code 169 = .ok (.iaload, 1) := by decide +kernel
theorem d_M_wave_170 : decode prog_7_method_13_code 170 = .ok (.ireturn, 1) := by decide +kernel
-- M_none  FleetWavesModel.none(I)Z  prog_7_method_4_code maxL 2 ret (some .boolean) code
theorem d_M_none_0 : decode prog_7_method_4_code 0 = .ok (.aload_n 0, 1) := by decide +kernel
theorem d_M_none_1 : decode prog_7_method_4_code 1 = .ok (.iconst 0, 1) := by decide +kernel
theorem d_M_none_2 : decode prog_7_method_4_code 2 = .ok (.putfield 69, 3) := by decide +kernel
theorem d_M_none_5 : decode prog_7_method_4_code 5 = .ok (.iload_n 1, 1) := by decide +kernel
theorem d_M_none_6 : decode prog_7_method_4_code 6 = .ok (.iconst 1, 1) := by decide +kernel
theorem d_M_none_7 : decode prog_7_method_4_code 7 = .ok (.if_icmp .lt 11, 3) := by decide +kernel
theorem d_M_none_10 : decode prog_7_method_4_code 10 = .ok (.iload_n 1, 1) := by decide +kernel
theorem d_M_none_11 : decode prog_7_method_4_code 11 = .ok (.aload_n 0, 1) := by decide +kernel
theorem d_M_none_12 : decode prog_7_method_4_code 12 = .ok (.getfield 76, 3) := by decide +kernel
theorem d_M_none_15 : decode prog_7_method_4_code 15 = .ok (.if_icmp .le 7, 3) := by decide +kernel
theorem d_M_none_18 : decode prog_7_method_4_code 18 = .ok (.iconst 1, 1) := by decide +kernel
theorem d_M_none_19 : decode prog_7_method_4_code 19 = .ok (.goto 4, 3) := by decide +kernel
theorem d_M_none_22 : decode prog_7_method_4_code 22 = .ok (.iconst 0, 1) := by decide +kernel
theorem d_M_none_23 : decode prog_7_method_4_code 23 = .ok (.ireturn, 1) := by decide +kernel
-- M_noShare  FleetWavesModel.noShare(JJ)Z  prog_7_method_12_code maxL 4 ret (some .boolean) code
theorem d_M_noShare_0 : decode prog_7_method_12_code 0 = .ok (.lload_n 2, 1) := by decide +kernel
theorem d_M_noShare_1 : decode prog_7_method_12_code 1 = .ok (.lconst 1, 1) := by decide +kernel
theorem d_M_noShare_2 : decode prog_7_method_12_code 2 = .ok (.lcmp, 1) := by decide +kernel
theorem d_M_noShare_3 : decode prog_7_method_12_code 3 = .ok (.ifCond .lt 23, 3) := by decide +kernel
theorem d_M_noShare_6 : decode prog_7_method_12_code 6 = .ok (.lload_n 2, 1) := by decide +kernel
theorem d_M_noShare_7 : decode prog_7_method_12_code 7 = .ok (.ldc2_w 94, 3) := by decide +kernel
theorem d_M_noShare_10 : decode prog_7_method_12_code 10 = .ok (.lcmp, 1) := by decide +kernel
theorem d_M_noShare_11 : decode prog_7_method_12_code 11 = .ok (.ifCond .gt 15, 3) := by decide +kernel
theorem d_M_noShare_14 : decode prog_7_method_12_code 14 = .ok (.lload_n 0, 1) := by decide +kernel
theorem d_M_noShare_15 : decode prog_7_method_12_code 15 = .ok (.lconst 0, 1) := by decide +kernel
theorem d_M_noShare_16 : decode prog_7_method_12_code 16 = .ok (.lcmp, 1) := by decide +kernel
theorem d_M_noShare_17 : decode prog_7_method_12_code 17 = .ok (.ifCond .lt 9, 3) := by decide +kernel
theorem d_M_noShare_20 : decode prog_7_method_12_code 20 = .ok (.lload_n 0, 1) := by decide +kernel
theorem d_M_noShare_21 : decode prog_7_method_12_code 21 = .ok (.lload_n 2, 1) := by decide +kernel
theorem d_M_noShare_22 : decode prog_7_method_12_code 22 = .ok (.lcmp, 1) := by decide +kernel
theorem d_M_noShare_23 : decode prog_7_method_12_code 23 = .ok (.ifCond .le 7, 3) := by decide +kernel
theorem d_M_noShare_26 : decode prog_7_method_12_code 26 = .ok (.iconst 1, 1) := by decide +kernel
theorem d_M_noShare_27 : decode prog_7_method_12_code 27 = .ok (.goto 4, 3) := by decide +kernel
theorem d_M_noShare_30 : decode prog_7_method_12_code 30 = .ok (.iconst 0, 1) := by decide +kernel
theorem d_M_noShare_31 : decode prog_7_method_12_code 31 = .ok (.ireturn, 1) := by decide +kernel
-- M_compare  FleetWavesModel.compare(JJJJ)J  prog_7_method_11_code maxL 8 ret (some .long) code
theorem d_M_compare_0 : decode prog_7_method_11_code 0 = .ok (.lload_n 0, 1) := by decide +kernel
theorem d_M_compare_1 : decode prog_7_method_11_code 1 = .ok (.lload 6, 2) := by decide +kernel
theorem d_M_compare_3 : decode prog_7_method_11_code 3 = .ok (.lmul, 1) := by decide +kernel
theorem d_M_compare_4 : decode prog_7_method_11_code 4 = .ok (.lload 4, 2) := by decide +kernel
theorem d_M_compare_6 : decode prog_7_method_11_code 6 = .ok (.lload_n 2, 1) := by decide +kernel
theorem d_M_compare_7 : decode prog_7_method_11_code 7 = .ok (.lmul, 1) := by decide +kernel
theorem d_M_compare_8 : decode prog_7_method_11_code 8 = .ok (.lsub, 1) := by decide +kernel
theorem d_M_compare_9 : decode prog_7_method_11_code 9 = .ok (.lreturn, 1) := by decide +kernel
-- M_due  FleetWavesModel.due(IJ)I  prog_7_method_17_code maxL 10 ret (some .int) code
theorem d_M_due_0 : decode prog_7_method_17_code 0 = .ok (.aload_n 0, 1) := by decide +kernel
theorem d_M_due_1 : decode prog_7_method_17_code 1 = .ok (.iconst 0, 1) := by decide +kernel
theorem d_M_due_2 : decode prog_7_method_17_code 2 = .ok (.putfield 69, 3) := by decide +kernel
theorem d_M_due_5 : decode prog_7_method_17_code 5 = .ok (.aload_n 0, 1) := by decide +kernel
theorem d_M_due_6 : decode prog_7_method_17_code 6 = .ok (.iload_n 1, 1) := by decide +kernel
theorem d_M_due_7 : decode prog_7_method_17_code 7 = .ok (.invokevirtual 127, 3) := by decide +kernel
theorem d_M_due_10 : decode prog_7_method_17_code 10 = .ok (.ifCond .eq 5, 3) := by decide +kernel
theorem d_M_due_13 : decode prog_7_method_17_code 13 = .ok (.iconst (-1), 1) := by decide +kernel
theorem d_M_due_14 : decode prog_7_method_17_code 14 = .ok (.ireturn, 1) := by decide +kernel
theorem d_M_due_15 : decode prog_7_method_17_code 15 = .ok (.lload_n 2, 1) := by decide +kernel
theorem d_M_due_16 : decode prog_7_method_17_code 16 = .ok (.aload_n 0, 1) := by decide +kernel
theorem d_M_due_17 : decode prog_7_method_17_code 17 = .ok (.getfield 104, 3) := by decide +kernel
theorem d_M_due_20 : decode prog_7_method_17_code 20 = .ok (.lcmp, 1) := by decide +kernel
theorem d_M_due_21 : decode prog_7_method_17_code 21 = .ok (.ifCond .ge 6, 3) := by decide +kernel
theorem d_M_due_24 : decode prog_7_method_17_code 24 = .ok (.bipush (-2), 2) := by decide +kernel
theorem d_M_due_26 : decode prog_7_method_17_code 26 = .ok (.ireturn, 1) := by decide +kernel
theorem d_M_due_27 : decode prog_7_method_17_code 27 = .ok (.aload_n 0, 1) := by decide +kernel
theorem d_M_due_28 : decode prog_7_method_17_code 28 = .ok (.lload_n 2, 1) := by decide +kernel
theorem d_M_due_29 : decode prog_7_method_17_code 29 = .ok (.putfield 104, 3) := by decide +kernel
theorem d_M_due_32 : decode prog_7_method_17_code 32 = .ok (.iconst 1, 1) := by decide +kernel
theorem d_M_due_33 : decode prog_7_method_17_code 33 = .ok (.istore 4, 2) := by decide +kernel
theorem d_M_due_35 : decode prog_7_method_17_code 35 = .ok (.iload 4, 2) := by decide +kernel
theorem d_M_due_37 : decode prog_7_method_17_code 37 = .ok (.aload_n 0, 1) := by decide +kernel
theorem d_M_due_38 : decode prog_7_method_17_code 38 = .ok (.getfield 76, 3) := by decide +kernel
theorem d_M_due_41 : decode prog_7_method_17_code 41 = .ok (.if_icmp .gt 37, 3) := by decide +kernel
theorem d_M_due_44 : decode prog_7_method_17_code 44 = .ok (.aload_n 0, 1) := by decide +kernel
theorem d_M_due_45 : decode prog_7_method_17_code 45 = .ok (.getfield 66, 3) := by decide +kernel
theorem d_M_due_48 : decode prog_7_method_17_code 48 = .ok (.bipush 41, 2) := by decide +kernel
theorem d_M_due_50 : decode prog_7_method_17_code 50 = .ok (.iload_n 1, 1) := by decide +kernel
theorem d_M_due_51 : decode prog_7_method_17_code 51 = .ok (.imul, 1) := by decide +kernel
theorem d_M_due_52 : decode prog_7_method_17_code 52 = .ok (.iload 4, 2) := by decide +kernel
theorem d_M_due_54 : decode prog_7_method_17_code 54 = .ok (.iadd, 1) := by decide +kernel
theorem d_M_due_55 : decode prog_7_method_17_code 55 = .ok (.baload, 1) := by decide +kernel
theorem d_M_due_56 : decode prog_7_method_17_code 56 = .ok (.ifCond .eq 16, 3) := by decide +kernel
theorem d_M_due_59 : decode prog_7_method_17_code 59 = .ok (.aload_n 0, 1) := by decide +kernel
theorem d_M_due_60 : decode prog_7_method_17_code 60 = .ok (.iload 4, 2) := by decide +kernel
theorem d_M_due_62 : decode prog_7_method_17_code 62 = .ok (.iload_n 1, 1) := by decide +kernel
theorem d_M_due_63 : decode prog_7_method_17_code 63 = .ok (.invokevirtual 118, 3) := by decide +kernel
theorem d_M_due_66 : decode prog_7_method_17_code 66 = .ok (.ifCond .eq 6, 3) := by decide +kernel
theorem d_M_due_69 : decode prog_7_method_17_code 69 = .ok (.iload 4, 2) := by decide +kernel
theorem d_M_due_71 : decode prog_7_method_17_code 71 = .ok (.ireturn, 1) := by decide +kernel
theorem d_M_due_72 : decode prog_7_method_17_code 72 = .ok (.iinc 4 1, 3) := by decide +kernel
theorem d_M_due_75 : decode prog_7_method_17_code 75 = .ok (.goto (-40), 3) := by decide +kernel
theorem d_M_due_78 : decode prog_7_method_17_code 78 = .ok (.iconst 0, 1) := by decide +kernel
theorem d_M_due_79 : decode prog_7_method_17_code 79 = .ok (.istore 4, 2) := by decide +kernel
theorem d_M_due_81 : decode prog_7_method_17_code 81 = .ok (.lconst 0, 1) := by decide +kernel
theorem d_M_due_82 : decode prog_7_method_17_code 82 = .ok (.lstore 5, 2) := by decide +kernel
theorem d_M_due_84 : decode prog_7_method_17_code 84 = .ok (.iconst 1, 1) := by decide +kernel
theorem d_M_due_85 : decode prog_7_method_17_code 85 = .ok (.istore 7, 2) := by decide +kernel
theorem d_M_due_87 : decode prog_7_method_17_code 87 = .ok (.iload 7, 2) := by decide +kernel
theorem d_M_due_89 : decode prog_7_method_17_code 89 = .ok (.aload_n 0, 1) := by decide +kernel
theorem d_M_due_90 : decode prog_7_method_17_code 90 = .ok (.getfield 76, 3) := by decide +kernel
theorem d_M_due_93 : decode prog_7_method_17_code 93 = .ok (.if_icmp .gt 62, 3) := by decide +kernel
theorem d_M_due_96 : decode prog_7_method_17_code 96 = .ok (.aload_n 0, 1) := by decide +kernel
theorem d_M_due_97 : decode prog_7_method_17_code 97 = .ok (.iload 7, 2) := by decide +kernel
theorem d_M_due_99 : decode prog_7_method_17_code 99 = .ok (.iload_n 1, 1) := by decide +kernel
theorem d_M_due_100 : decode prog_7_method_17_code 100 = .ok (.invokevirtual 130, 3) := by decide +kernel
theorem d_M_due_103 : decode prog_7_method_17_code 103 = .ok (.ifCond .eq 13, 3) := by decide +kernel
theorem d_M_due_106 : decode prog_7_method_17_code 106 = .ok (.aload_n 0, 1) := by decide +kernel
theorem d_M_due_107 : decode prog_7_method_17_code 107 = .ok (.iload 7, 2) := by decide +kernel
theorem d_M_due_109 : decode prog_7_method_17_code 109 = .ok (.iload_n 1, 1) := by decide +kernel
theorem d_M_due_110 : decode prog_7_method_17_code 110 = .ok (.invokevirtual 133, 3) := by decide +kernel
theorem d_M_due_113 : decode prog_7_method_17_code 113 = .ok (.goto 6, 3) := by decide +kernel
theorem d_M_due_116 : decode prog_7_method_17_code 116 = .ok (.ldc2_w 112, 3) := by decide +kernel
theorem d_M_due_119 : decode prog_7_method_17_code 119 = .ok (.lstore 8, 2) := by decide +kernel
theorem d_M_due_121 : decode prog_7_method_17_code 121 = .ok (.lload 8, 2) := by decide +kernel
theorem d_M_due_123 : decode prog_7_method_17_code 123 = .ok (.lconst 0, 1) := by decide +kernel
theorem d_M_due_124 : decode prog_7_method_17_code 124 = .ok (.lcmp, 1) := by decide +kernel
theorem d_M_due_125 : decode prog_7_method_17_code 125 = .ok (.ifCond .lt 24, 3) := by decide +kernel
theorem d_M_due_128 : decode prog_7_method_17_code 128 = .ok (.iload 4, 2) := by decide +kernel
theorem d_M_due_130 : decode prog_7_method_17_code 130 = .ok (.ifCond .eq 11, 3) := by decide +kernel
theorem d_M_due_133 : decode prog_7_method_17_code 133 = .ok (.lload 8, 2) := by decide +kernel
theorem d_M_due_135 : decode prog_7_method_17_code 135 = .ok (.lload 5, 2) := by decide +kernel
theorem d_M_due_137 : decode prog_7_method_17_code 137 = .ok (.lcmp, 1) := by decide +kernel
theorem d_M_due_138 : decode prog_7_method_17_code 138 = .ok (.ifCond .ge 11, 3) := by decide +kernel
theorem d_M_due_141 : decode prog_7_method_17_code 141 = .ok (.iload 7, 2) := by decide +kernel
theorem d_M_due_143 : decode prog_7_method_17_code 143 = .ok (.istore 4, 2) := by decide +kernel
theorem d_M_due_145 : decode prog_7_method_17_code 145 = .ok (.lload 8, 2) := by decide +kernel
theorem d_M_due_147 : decode prog_7_method_17_code 147 = .ok (.lstore 5, 2) := by decide +kernel
theorem d_M_due_149 : decode prog_7_method_17_code 149 = .ok (.iinc 7 1, 3) := by decide +kernel
theorem d_M_due_152 : decode prog_7_method_17_code 152 = .ok (.goto (-65), 3) := by decide +kernel
theorem d_M_due_155 : decode prog_7_method_17_code 155 = .ok (.iload 4, 2) := by decide +kernel
theorem d_M_due_157 : decode prog_7_method_17_code 157 = .ok (.ifCond .le 16, 3) := by decide +kernel
theorem d_M_due_160 : decode prog_7_method_17_code 160 = .ok (.aload_n 0, 1) := by decide +kernel
theorem d_M_due_161 : decode prog_7_method_17_code 161 = .ok (.getfield 66, 3) := by decide +kernel
theorem d_M_due_164 : decode prog_7_method_17_code 164 = .ok (.bipush 41, 2) := by decide +kernel
theorem d_M_due_166 : decode prog_7_method_17_code 166 = .ok (.iload_n 1, 1) := by decide +kernel
theorem d_M_due_167 : decode prog_7_method_17_code 167 = .ok (.imul, 1) := by decide +kernel
theorem d_M_due_168 : decode prog_7_method_17_code 168 = .ok (.iload 4, 2) := by decide +kernel
theorem d_M_due_170 : decode prog_7_method_17_code 170 = .ok (.iadd, 1) := by decide +kernel
theorem d_M_due_171 : decode prog_7_method_17_code 171 = .ok (.iconst 1, 1) := by decide +kernel
theorem d_M_due_172 : decode prog_7_method_17_code 172 = .ok (.bastore, 1) := by decide +kernel
theorem d_M_due_173 : decode prog_7_method_17_code 173 = .ok (.iload 4, 2) := by decide +kernel
theorem d_M_due_175 : decode prog_7_method_17_code 175 = .ok (.ireturn, 1) := by decide +kernel
-- M_noCar  FleetWavesModel.noCar(I)Z  prog_7_method_3_code maxL 2 ret (some .boolean) code
theorem d_M_noCar_0 : decode prog_7_method_3_code 0 = .ok (.iload_n 1, 1) := by decide +kernel
theorem d_M_noCar_1 : decode prog_7_method_3_code 1 = .ok (.iconst 1, 1) := by decide +kernel
theorem d_M_noCar_2 : decode prog_7_method_3_code 2 = .ok (.if_icmp .lt 11, 3) := by decide +kernel
theorem d_M_noCar_5 : decode prog_7_method_3_code 5 = .ok (.iload_n 1, 1) := by decide +kernel
theorem d_M_noCar_6 : decode prog_7_method_3_code 6 = .ok (.aload_n 0, 1) := by decide +kernel
theorem d_M_noCar_7 : decode prog_7_method_3_code 7 = .ok (.getfield 73, 3) := by decide +kernel
theorem d_M_noCar_10 : decode prog_7_method_3_code 10 = .ok (.if_icmp .le 7, 3) := by decide +kernel
theorem d_M_noCar_13 : decode prog_7_method_3_code 13 = .ok (.iconst 1, 1) := by decide +kernel
theorem d_M_noCar_14 : decode prog_7_method_3_code 14 = .ok (.goto 4, 3) := by decide +kernel
theorem d_M_noCar_17 : decode prog_7_method_3_code 17 = .ok (.iconst 0, 1) := by decide +kernel
theorem d_M_noCar_18 : decode prog_7_method_3_code 18 = .ok (.ireturn, 1) := by decide +kernel
-- M_meant  FleetWavesModel.meant(II)Z  prog_7_method_7_code maxL 5 ret (some .boolean) code
theorem d_M_meant_0 : decode prog_7_method_7_code 0 = .ok (.iconst 1, 1) := by decide +kernel
theorem d_M_meant_1 : decode prog_7_method_7_code 1 = .ok (.aload_n 0, 1) := by decide +kernel
theorem d_M_meant_2 : decode prog_7_method_7_code 2 = .ok (.getfield 21, 3) := by decide +kernel
theorem d_M_meant_5 : decode prog_7_method_7_code 5 = .ok (.iload_n 1, 1) := by decide +kernel
theorem d_M_meant_6 : decode prog_7_method_7_code 6 = .ok (.iaload, 1) := by decide +kernel
theorem d_M_meant_7 : decode prog_7_method_7_code 7 = .ok (.iconst 3, 1) := by decide +kernel
theorem d_M_meant_8 : decode prog_7_method_7_code 8 = .ok (.ishr, 1) := by decide +kernel
theorem d_M_meant_9 : decode prog_7_method_7_code 9 = .ok (.sipush 1023, 3) := by decide +kernel
theorem d_M_meant_12 : decode prog_7_method_7_code 12 = .ok (.iand, 1) := by decide +kernel
theorem d_M_meant_13 : decode prog_7_method_7_code 13 = .ok (.iadd, 1) := by decide +kernel
theorem d_M_meant_14 : decode prog_7_method_7_code 14 = .ok (.istore_n 3, 1) := by decide +kernel
theorem d_M_meant_15 : decode prog_7_method_7_code 15 = .ok (.aload_n 0, 1) := by decide +kernel
theorem d_M_meant_16 : decode prog_7_method_7_code 16 = .ok (.getfield 21, 3) := by decide +kernel
theorem d_M_meant_19 : decode prog_7_method_7_code 19 = .ok (.iload_n 1, 1) := by decide +kernel
theorem d_M_meant_20 : decode prog_7_method_7_code 20 = .ok (.iaload, 1) := by decide +kernel
theorem d_M_meant_21 : decode prog_7_method_7_code 21 = .ok (.bipush 13, 2) := by decide +kernel
theorem d_M_meant_23 : decode prog_7_method_7_code 23 = .ok (.ishr, 1) := by decide +kernel
theorem d_M_meant_24 : decode prog_7_method_7_code 24 = .ok (.iload_n 3, 1) := by decide +kernel
theorem d_M_meant_25 : decode prog_7_method_7_code 25 = .ok (.irem, 1) := by decide +kernel
theorem d_M_meant_26 : decode prog_7_method_7_code 26 = .ok (.istore 4, 2) := by decide +kernel
theorem d_M_meant_28 : decode prog_7_method_7_code 28 = .ok (.aload_n 0, 1) := by decide +kernel
theorem d_M_meant_29 : decode prog_7_method_7_code 29 = .ok (.getfield 7, 3) := by decide +kernel
theorem d_M_meant_32 : decode prog_7_method_7_code 32 = .ok (.iload_n 2, 1) := by decide +kernel
theorem d_M_meant_33 : decode prog_7_method_7_code 33 = .ok (.laload, 1) := by decide +kernel
theorem d_M_meant_34 : decode prog_7_method_7_code 34 = .ok (.iload 4, 2) := by decide +kernel
theorem d_M_meant_36 : decode prog_7_method_7_code 36 = .ok (.i2l, 1) := by decide +kernel
theorem d_M_meant_37 : decode prog_7_method_7_code 37 = .ok (.lsub, 1) := by decide +kernel
theorem d_M_meant_38 : decode prog_7_method_7_code 38 = .ok (.iload_n 3, 1) := by decide +kernel
theorem d_M_meant_39 : decode prog_7_method_7_code 39 = .ok (.i2l, 1) := by decide +kernel
theorem d_M_meant_40 : decode prog_7_method_7_code 40 = .ok (.lrem, 1) := by decide +kernel
theorem d_M_meant_41 : decode prog_7_method_7_code 41 = .ok (.lconst 0, 1) := by decide +kernel
theorem d_M_meant_42 : decode prog_7_method_7_code 42 = .ok (.lcmp, 1) := by decide +kernel
theorem d_M_meant_43 : decode prog_7_method_7_code 43 = .ok (.ifCond .ne 35, 3) := by decide +kernel
theorem d_M_meant_46 : decode prog_7_method_7_code 46 = .ok (.aload_n 0, 1) := by decide +kernel
theorem d_M_meant_47 : decode prog_7_method_7_code 47 = .ok (.getfield 13, 3) := by decide +kernel
theorem d_M_meant_50 : decode prog_7_method_7_code 50 = .ok (.bipush 8, 2) := by decide +kernel
theorem d_M_meant_52 : decode prog_7_method_7_code 52 = .ok (.iload_n 2, 1) := by decide +kernel
theorem d_M_meant_53 : decode prog_7_method_7_code 53 = .ok (.imul, 1) := by decide +kernel
theorem d_M_meant_54 : decode prog_7_method_7_code 54 = .ok (.aload_n 0, 1) := by decide +kernel
theorem d_M_meant_55 : decode prog_7_method_7_code 55 = .ok (.getfield 21, 3) := by decide +kernel
theorem d_M_meant_58 : decode prog_7_method_7_code 58 = .ok (.iload_n 1, 1) := by decide +kernel
theorem d_M_meant_59 : decode prog_7_method_7_code 59 = .ok (.iaload, 1) := by decide +kernel
theorem d_M_meant_60 : decode prog_7_method_7_code 60 = .ok (.bipush 7, 2) := by decide +kernel
theorem d_M_meant_62 : decode prog_7_method_7_code 62 = .ok (.iand, 1) := by decide +kernel
theorem d_M_meant_63 : decode prog_7_method_7_code 63 = .ok (.iadd, 1) := by decide +kernel
theorem d_M_meant_64 : decode prog_7_method_7_code 64 = .ok (.iaload, 1) := by decide +kernel
theorem d_M_meant_65 : decode prog_7_method_7_code 65 = .ok (.aload_n 0, 1) := by decide +kernel
theorem d_M_meant_66 : decode prog_7_method_7_code 66 = .ok (.getfield 24, 3) := by decide +kernel
theorem d_M_meant_69 : decode prog_7_method_7_code 69 = .ok (.iload_n 1, 1) := by decide +kernel
theorem d_M_meant_70 : decode prog_7_method_7_code 70 = .ok (.iaload, 1) := by decide +kernel
theorem d_M_meant_71 : decode prog_7_method_7_code 71 = .ok (.if_icmp .ge 7, 3) := by decide +kernel
theorem d_M_meant_74 : decode prog_7_method_7_code 74 = .ok (.iconst 1, 1) := by decide +kernel
theorem d_M_meant_75 : decode prog_7_method_7_code 75 = .ok (.goto 4, 3) := by decide +kernel
theorem d_M_meant_78 : decode prog_7_method_7_code 78 = .ok (.iconst 0, 1) := by decide +kernel
theorem d_M_meant_79 : decode prog_7_method_7_code 79 = .ok (.ireturn, 1) := by decide +kernel
-- M_may  FleetWavesModel.may(II)Z  prog_7_method_16_code maxL 7 ret (some .boolean) code
theorem d_M_may_0 : decode prog_7_method_16_code 0 = .ok (.bipush 41, 2) := by decide +kernel
theorem d_M_may_2 : decode prog_7_method_16_code 2 = .ok (.iload_n 2, 1) := by decide +kernel
theorem d_M_may_3 : decode prog_7_method_16_code 3 = .ok (.imul, 1) := by decide +kernel
theorem d_M_may_4 : decode prog_7_method_16_code 4 = .ok (.iload_n 1, 1) := by decide +kernel
theorem d_M_may_5 : decode prog_7_method_16_code 5 = .ok (.iadd, 1) := by decide +kernel
theorem d_M_may_6 : decode prog_7_method_16_code 6 = .ok (.istore_n 3, 1) := by decide +kernel
theorem d_M_may_7 : decode prog_7_method_16_code 7 = .ok (.aload_n 0, 1) := by decide +kernel
theorem d_M_may_8 : decode prog_7_method_16_code 8 = .ok (.getfield 27, 3) := by decide +kernel
theorem d_M_may_11 : decode prog_7_method_16_code 11 = .ok (.iload_n 1, 1) := by decide +kernel
theorem d_M_may_12 : decode prog_7_method_16_code 12 = .ok (.iaload, 1) := by decide +kernel
theorem d_M_may_13 : decode prog_7_method_16_code 13 = .ok (.iconst 1, 1) := by decide +kernel
theorem d_M_may_14 : decode prog_7_method_16_code 14 = .ok (.if_icmp .ne 63, 3) := by decide +kernel
theorem d_M_may_17 : decode prog_7_method_16_code 17 = .ok (.aload_n 0, 1) := by decide +kernel
theorem d_M_may_18 : decode prog_7_method_16_code 18 = .ok (.getfield 17, 3) := by decide +kernel
theorem d_M_may_21 : decode prog_7_method_16_code 21 = .ok (.iload_n 2, 1) := by decide +kernel
theorem d_M_may_22 : decode prog_7_method_16_code 22 = .ok (.baload, 1) := by decide +kernel
theorem d_M_may_23 : decode prog_7_method_16_code 23 = .ok (.ifCond .ne 54, 3) := by decide +kernel
theorem d_M_may_26 : decode prog_7_method_16_code 26 = .ok (.aload_n 0, 1) := by decide +kernel
theorem d_M_may_27 : decode prog_7_method_16_code 27 = .ok (.iload_n 1, 1) := by decide +kernel
theorem d_M_may_28 : decode prog_7_method_16_code 28 = .ok (.iload_n 2, 1) := by decide +kernel
theorem d_M_may_29 : decode prog_7_method_16_code 29 = .ok (.invokevirtual 118, 3) := by decide +kernel
theorem d_M_may_32 : decode prog_7_method_16_code 32 = .ok (.ifCond .eq 45, 3) := by decide +kernel
theorem d_M_may_35 : decode prog_7_method_16_code 35 = .ok (.aload_n 0, 1) := by decide +kernel
theorem d_M_may_36 : decode prog_7_method_16_code 36 = .ok (.getfield 60, 3) := by decide +kernel
theorem d_M_may_39 : decode prog_7_method_16_code 39 = .ok (.iload_n 3, 1) := by decide +kernel
theorem d_M_may_40 : decode prog_7_method_16_code 40 = .ok (.iaload, 1) := by decide +kernel
theorem d_M_may_41 : decode prog_7_method_16_code 41 = .ok (.iconst 2, 1) := by decide +kernel
theorem d_M_may_42 : decode prog_7_method_16_code 42 = .ok (.if_icmp .ge 35, 3) := by decide +kernel
theorem d_M_may_45 : decode prog_7_method_16_code 45 = .ok (.aload_n 0, 1) := by decide +kernel
theorem d_M_may_46 : decode prog_7_method_16_code 46 = .ok (.getfield 60, 3) := by decide +kernel
theorem d_M_may_49 : decode prog_7_method_16_code 49 = .ok (.iload_n 3, 1) := by decide +kernel
theorem d_M_may_50 : decode prog_7_method_16_code 50 = .ok (.iaload, 1) := by decide +kernel
theorem d_M_may_51 : decode prog_7_method_16_code 51 = .ok (.iconst 1, 1) := by decide +kernel
theorem d_M_may_52 : decode prog_7_method_16_code 52 = .ok (.if_icmp .ne 21, 3) := by decide +kernel
theorem d_M_may_55 : decode prog_7_method_16_code 55 = .ok (.aload_n 0, 1) := by decide +kernel
theorem d_M_may_56 : decode prog_7_method_16_code 56 = .ok (.getfield 104, 3) := by decide +kernel
theorem d_M_may_59 : decode prog_7_method_16_code 59 = .ok (.aload_n 0, 1) := by decide +kernel
theorem d_M_may_60 : decode prog_7_method_16_code 60 = .ok (.getfield 63, 3) := by decide +kernel
theorem d_M_may_63 : decode prog_7_method_16_code 63 = .ok (.iload_n 3, 1) := by decide +kernel
theorem d_M_may_64 : decode prog_7_method_16_code 64 = .ok (.laload, 1) := by decide +kernel
theorem d_M_may_65 : decode prog_7_method_16_code 65 = .ok (.lsub, 1) := by decide +kernel
theorem d_M_may_66 : decode prog_7_method_16_code 66 = .ok (.ldc2_w 122, 3) := by decide +kernel
theorem d_M_may_69 : decode prog_7_method_16_code 69 = .ok (.lcmp, 1) := by decide +kernel
theorem d_M_may_70 : decode prog_7_method_16_code 70 = .ok (.ifCond .lt 7, 3) := by decide +kernel
theorem d_M_may_73 : decode prog_7_method_16_code 73 = .ok (.iconst 1, 1) := by decide +kernel
theorem d_M_may_74 : decode prog_7_method_16_code 74 = .ok (.goto 4, 3) := by decide +kernel
theorem d_M_may_77 : decode prog_7_method_16_code 77 = .ok (.iconst 0, 1) := by decide +kernel
theorem d_M_may_78 : decode prog_7_method_16_code 78 = .ok (.istore 4, 2) := by decide +kernel
theorem d_M_may_80 : decode prog_7_method_16_code 80 = .ok (.iconst 1, 1) := by decide +kernel
theorem d_M_may_81 : decode prog_7_method_16_code 81 = .ok (.istore 5, 2) := by decide +kernel
theorem d_M_may_83 : decode prog_7_method_16_code 83 = .ok (.iload 5, 2) := by decide +kernel
theorem d_M_may_85 : decode prog_7_method_16_code 85 = .ok (.aload_n 0, 1) := by decide +kernel
theorem d_M_may_86 : decode prog_7_method_16_code 86 = .ok (.getfield 76, 3) := by decide +kernel
theorem d_M_may_89 : decode prog_7_method_16_code 89 = .ok (.if_icmp .gt 85, 3) := by decide +kernel
theorem d_M_may_92 : decode prog_7_method_16_code 92 = .ok (.iload 5, 2) := by decide +kernel
theorem d_M_may_94 : decode prog_7_method_16_code 94 = .ok (.iload_n 1, 1) := by decide +kernel
theorem d_M_may_95 : decode prog_7_method_16_code 95 = .ok (.if_icmp .eq 53, 3) := by decide +kernel
theorem d_M_may_98 : decode prog_7_method_16_code 98 = .ok (.aload_n 0, 1) := by decide +kernel
theorem d_M_may_99 : decode prog_7_method_16_code 99 = .ok (.iload 5, 2) := by decide +kernel
theorem d_M_may_101 : decode prog_7_method_16_code 101 = .ok (.iload_n 1, 1) := by decide +kernel
theorem d_M_may_102 : decode prog_7_method_16_code 102 = .ok (.invokevirtual 124, 3) := by decide +kernel
theorem d_M_may_105 : decode prog_7_method_16_code 105 = .ok (.ifCond .eq 43, 3) := by decide +kernel
theorem d_M_may_108 : decode prog_7_method_16_code 108 = .ok (.aload_n 0, 1) := by decide +kernel
theorem d_M_may_109 : decode prog_7_method_16_code 109 = .ok (.iload 5, 2) := by decide +kernel
theorem d_M_may_111 : decode prog_7_method_16_code 111 = .ok (.iload_n 2, 1) := by decide +kernel
theorem d_M_may_112 : decode prog_7_method_16_code 112 = .ok (.invokevirtual 118, 3) := by decide +kernel
theorem d_M_may_115 : decode prog_7_method_16_code 115 = .ok (.ifCond .eq 33, 3) := by decide +kernel
theorem d_M_may_118 : decode prog_7_method_16_code 118 = .ok (.aload_n 0, 1) := by decide +kernel
theorem d_M_may_119 : decode prog_7_method_16_code 119 = .ok (.getfield 27, 3) := by decide +kernel
theorem d_M_may_122 : decode prog_7_method_16_code 122 = .ok (.iload 5, 2) := by decide +kernel
theorem d_M_may_124 : decode prog_7_method_16_code 124 = .ok (.iaload, 1) := by decide +kernel
theorem d_M_may_125 : decode prog_7_method_16_code 125 = .ok (.iconst 3, 1) := by decide +kernel
theorem d_M_may_126 : decode prog_7_method_16_code 126 = .ok (.if_icmp .ne 18, 3) := by decide +kernel
theorem d_M_may_129 : decode prog_7_method_16_code 129 = .ok (.aload_n 0, 1) := by decide +kernel
theorem d_M_may_130 : decode prog_7_method_16_code 130 = .ok (.getfield 66, 3) := by decide +kernel
theorem d_M_may_133 : decode prog_7_method_16_code 133 = .ok (.bipush 41, 2) := by decide +kernel
theorem d_M_may_135 : decode prog_7_method_16_code 135 = .ok (.iload_n 2, 1) := by decide +kernel
theorem d_M_may_136 : decode prog_7_method_16_code 136 = .ok (.imul, 1) := by decide +kernel
theorem d_M_may_137 : decode prog_7_method_16_code 137 = .ok (.iload 5, 2) := by decide +kernel
theorem d_M_may_139 : decode prog_7_method_16_code 139 = .ok (.iadd, 1) := by decide +kernel
theorem d_M_may_140 : decode prog_7_method_16_code 140 = .ok (.baload, 1) := by decide +kernel
theorem d_M_may_141 : decode prog_7_method_16_code 141 = .ok (.ifCond .eq 7, 3) := by decide +kernel
theorem d_M_may_144 : decode prog_7_method_16_code 144 = .ok (.iconst 1, 1) := by decide +kernel
theorem d_M_may_145 : decode prog_7_method_16_code 145 = .ok (.goto 4, 3) := by decide +kernel
theorem d_M_may_148 : decode prog_7_method_16_code 148 = .ok (.iconst 0, 1) := by decide +kernel
theorem d_M_may_149 : decode prog_7_method_16_code 149 = .ok (.istore 6, 2) := by decide +kernel
theorem d_M_may_151 : decode prog_7_method_16_code 151 = .ok (.iload 4, 2) := by decide +kernel
theorem d_M_may_153 : decode prog_7_method_16_code 153 = .ok (.ifCond .eq 12, 3) := by decide +kernel
theorem d_M_may_156 : decode prog_7_method_16_code 156 = .ok (.iload 6, 2) := by decide +kernel
theorem d_M_may_158 : decode prog_7_method_16_code 158 = .ok (.ifCond .ne 7, 3) := by decide +kernel
theorem d_M_may_161 : decode prog_7_method_16_code 161 = .ok (.iconst 1, 1) := by decide +kernel
theorem d_M_may_162 : decode prog_7_method_16_code 162 = .ok (.goto 4, 3) := by decide +kernel
theorem d_M_may_165 : decode prog_7_method_16_code 165 = .ok (.iconst 0, 1) := by decide +kernel
theorem d_M_may_166 : decode prog_7_method_16_code 166 = .ok (.istore 4, 2) := by decide +kernel
theorem d_M_may_168 : decode prog_7_method_16_code 168 = .ok (.iinc 5 1, 3) := by decide +kernel
theorem d_M_may_171 : decode prog_7_method_16_code 171 = .ok (.goto (-88), 3) := by decide +kernel
theorem d_M_may_174 : decode prog_7_method_16_code 174 = .ok (.iload 4, 2) := by decide +kernel
theorem d_M_may_176 : decode prog_7_method_16_code 176 = .ok (.ireturn, 1) := by decide +kernel
-- M_before  FleetWavesModel.before(II)Z  prog_7_method_14_code maxL 3 ret (some .boolean) code
theorem d_M_before_0 : decode prog_7_method_14_code 0 = .ok (.aload_n 0, 1) := by decide +kernel
theorem d_M_before_1 : decode prog_7_method_14_code 1 = .ok (.getfield 54, 3) := by decide +kernel
theorem d_M_before_4 : decode prog_7_method_14_code 4 = .ok (.bipush 41, 2) := by decide +kernel
theorem d_M_before_6 : decode prog_7_method_14_code 6 = .ok (.iload_n 2, 1) := by decide +kernel
theorem d_M_before_7 : decode prog_7_method_14_code 7 = .ok (.imul, 1) := by decide +kernel
theorem d_M_before_8 : decode prog_7_method_14_code 8 = .ok (.iload_n 1, 1) := by decide +kernel
theorem d_M_before_9 : decode prog_7_method_14_code 9 = .ok (.iadd, 1) := by decide +kernel
theorem d_M_before_10 : decode prog_7_method_14_code 10 = .ok (.baload, 1) := by decide +kernel
theorem d_M_before_11 : decode prog_7_method_14_code 11 = .ok (.ifCond .ne 39, 3) := by decide +kernel
theorem d_M_before_14 : decode prog_7_method_14_code 14 = .ok (.aload_n 0, 1) := by decide +kernel
theorem d_M_before_15 : decode prog_7_method_14_code 15 = .ok (.getfield 21, 3) := by decide +kernel
theorem d_M_before_18 : decode prog_7_method_14_code 18 = .ok (.iload_n 1, 1) := by decide +kernel
theorem d_M_before_19 : decode prog_7_method_14_code 19 = .ok (.iaload, 1) := by decide +kernel
theorem d_M_before_20 : decode prog_7_method_14_code 20 = .ok (.bipush 7, 2) := by decide +kernel
theorem d_M_before_22 : decode prog_7_method_14_code 22 = .ok (.iand, 1) := by decide +kernel
theorem d_M_before_23 : decode prog_7_method_14_code 23 = .ok (.aload_n 0, 1) := by decide +kernel
theorem d_M_before_24 : decode prog_7_method_14_code 24 = .ok (.getfield 21, 3) := by decide +kernel
theorem d_M_before_27 : decode prog_7_method_14_code 27 = .ok (.iload_n 2, 1) := by decide +kernel
theorem d_M_before_28 : decode prog_7_method_14_code 28 = .ok (.iaload, 1) := by decide +kernel
theorem d_M_before_29 : decode prog_7_method_14_code 29 = .ok (.bipush 7, 2) := by decide +kernel
theorem d_M_before_31 : decode prog_7_method_14_code 31 = .ok (.iand, 1) := by decide +kernel
theorem d_M_before_32 : decode prog_7_method_14_code 32 = .ok (.if_icmp .ne 22, 3) := by decide +kernel
theorem d_M_before_35 : decode prog_7_method_14_code 35 = .ok (.aload_n 0, 1) := by decide +kernel
theorem d_M_before_36 : decode prog_7_method_14_code 36 = .ok (.getfield 24, 3) := by decide +kernel
theorem d_M_before_39 : decode prog_7_method_14_code 39 = .ok (.iload_n 1, 1) := by decide +kernel
theorem d_M_before_40 : decode prog_7_method_14_code 40 = .ok (.iaload, 1) := by decide +kernel
theorem d_M_before_41 : decode prog_7_method_14_code 41 = .ok (.aload_n 0, 1) := by decide +kernel
theorem d_M_before_42 : decode prog_7_method_14_code 42 = .ok (.getfield 24, 3) := by decide +kernel
theorem d_M_before_45 : decode prog_7_method_14_code 45 = .ok (.iload_n 2, 1) := by decide +kernel
theorem d_M_before_46 : decode prog_7_method_14_code 46 = .ok (.iaload, 1) := by decide +kernel
theorem d_M_before_47 : decode prog_7_method_14_code 47 = .ok (.if_icmp .ge 7, 3) := by decide +kernel
theorem d_M_before_50 : decode prog_7_method_14_code 50 = .ok (.iconst 1, 1) := by decide +kernel
theorem d_M_before_51 : decode prog_7_method_14_code 51 = .ok (.goto 4, 3) := by decide +kernel
theorem d_M_before_54 : decode prog_7_method_14_code 54 = .ok (.iconst 0, 1) := by decide +kernel
theorem d_M_before_55 : decode prog_7_method_14_code 55 = .ok (.ireturn, 1) := by decide +kernel
-- M_since  FleetWavesModel.since(II)J  prog_7_method_15_code maxL 8 ret (some .long) code
theorem d_M_since_0 : decode prog_7_method_15_code 0 = .ok (.ldc2_w 112, 3) := by decide +kernel
theorem d_M_since_3 : decode prog_7_method_15_code 3 = .ok (.lstore_n 3, 1) := by decide +kernel
theorem d_M_since_4 : decode prog_7_method_15_code 4 = .ok (.iconst 1, 1) := by decide +kernel
theorem d_M_since_5 : decode prog_7_method_15_code 5 = .ok (.istore 5, 2) := by decide +kernel
theorem d_M_since_7 : decode prog_7_method_15_code 7 = .ok (.iload 5, 2) := by decide +kernel
theorem d_M_since_9 : decode prog_7_method_15_code 9 = .ok (.aload_n 0, 1) := by decide +kernel
theorem d_M_since_10 : decode prog_7_method_15_code 10 = .ok (.getfield 30, 3) := by decide +kernel
theorem d_M_since_13 : decode prog_7_method_15_code 13 = .ok (.iload_n 1, 1) := by decide +kernel
theorem d_M_since_14 : decode prog_7_method_15_code 14 = .ok (.iaload, 1) := by decide +kernel
theorem d_M_since_15 : decode prog_7_method_15_code 15 = .ok (.if_icmp .gt 64, 3) := by decide +kernel
theorem d_M_since_18 : decode prog_7_method_15_code 18 = .ok (.aload_n 0, 1) := by decide +kernel
theorem d_M_since_19 : decode prog_7_method_15_code 19 = .ok (.getfield 39, 3) := by decide +kernel
theorem d_M_since_22 : decode prog_7_method_15_code 22 = .ok (.bipush 21, 2) := by decide +kernel
theorem d_M_since_24 : decode prog_7_method_15_code 24 = .ok (.iload_n 1, 1) := by decide +kernel
theorem d_M_since_25 : decode prog_7_method_15_code 25 = .ok (.imul, 1) := by decide +kernel
theorem d_M_since_26 : decode prog_7_method_15_code 26 = .ok (.iload 5, 2) := by decide +kernel
theorem d_M_since_28 : decode prog_7_method_15_code 28 = .ok (.iadd, 1) := by decide +kernel
theorem d_M_since_29 : decode prog_7_method_15_code 29 = .ok (.laload, 1) := by decide +kernel
theorem d_M_since_30 : decode prog_7_method_15_code 30 = .ok (.lstore 6, 2) := by decide +kernel
theorem d_M_since_32 : decode prog_7_method_15_code 32 = .ok (.lload 6, 2) := by decide +kernel
theorem d_M_since_34 : decode prog_7_method_15_code 34 = .ok (.aload_n 0, 1) := by decide +kernel
theorem d_M_since_35 : decode prog_7_method_15_code 35 = .ok (.getfield 104, 3) := by decide +kernel
theorem d_M_since_38 : decode prog_7_method_15_code 38 = .ok (.lcmp, 1) := by decide +kernel
theorem d_M_since_39 : decode prog_7_method_15_code 39 = .ok (.ifCond .gt 32, 3) := by decide +kernel
theorem d_M_since_42 : decode prog_7_method_15_code 42 = .ok (.aload_n 0, 1) := by decide +kernel
theorem d_M_since_43 : decode prog_7_method_15_code 43 = .ok (.iload_n 1, 1) := by decide +kernel
theorem d_M_since_44 : decode prog_7_method_15_code 44 = .ok (.iload 5, 2) := by decide +kernel
theorem d_M_since_46 : decode prog_7_method_15_code 46 = .ok (.iload_n 2, 1) := by decide +kernel
theorem d_M_since_47 : decode prog_7_method_15_code 47 = .ok (.invokevirtual 114, 3) := by decide +kernel
theorem d_M_since_50 : decode prog_7_method_15_code 50 = .ok (.ifCond .eq 21, 3) := by decide +kernel
theorem d_M_since_53 : decode prog_7_method_15_code 53 = .ok (.lload_n 3, 1) := by decide +kernel
theorem d_M_since_54 : decode prog_7_method_15_code 54 = .ok (.lconst 0, 1) := by decide +kernel
theorem d_M_since_55 : decode prog_7_method_15_code 55 = .ok (.lcmp, 1) := by decide +kernel
theorem d_M_since_56 : decode prog_7_method_15_code 56 = .ok (.ifCond .lt 10, 3) := by decide +kernel
theorem d_M_since_59 : decode prog_7_method_15_code 59 = .ok (.lload 6, 2) := by decide +kernel
theorem d_M_since_61 : decode prog_7_method_15_code 61 = .ok (.lload_n 3, 1) := by decide +kernel
theorem d_M_since_62 : decode prog_7_method_15_code 62 = .ok (.lcmp, 1) := by decide +kernel
theorem d_M_since_63 : decode prog_7_method_15_code 63 = .ok (.ifCond .ge 8, 3) := by decide +kernel
theorem d_M_since_66 : decode prog_7_method_15_code 66 = .ok (.lload 6, 2) := by decide +kernel
theorem d_M_since_68 : decode prog_7_method_15_code 68 = .ok (.goto 4, 3) := by decide +kernel
theorem d_M_since_71 : decode prog_7_method_15_code 71 = .ok (.lload_n 3, 1) := by decide +kernel
theorem d_M_since_72 : decode prog_7_method_15_code 72 = .ok (.lstore_n 3, 1) := by decide +kernel
theorem d_M_since_73 : decode prog_7_method_15_code 73 = .ok (.iinc 5 1, 3) := by decide +kernel
theorem d_M_since_76 : decode prog_7_method_15_code 76 = .ok (.goto (-69), 3) := by decide +kernel
theorem d_M_since_79 : decode prog_7_method_15_code 79 = .ok (.lload_n 3, 1) := by decide +kernel
theorem d_M_since_80 : decode prog_7_method_15_code 80 = .ok (.lreturn, 1) := by decide +kernel
-- M_isIn  FleetWavesModel.isIn(III)Z  prog_7_method_10_code maxL 4 ret (some .boolean) code
theorem d_M_isIn_0 : decode prog_7_method_10_code 0 = .ok (.aload_n 0, 1) := by decide +kernel
theorem d_M_isIn_1 : decode prog_7_method_10_code 1 = .ok (.getfield 7, 3) := by decide +kernel
theorem d_M_isIn_4 : decode prog_7_method_10_code 4 = .ok (.iload_n 3, 1) := by decide +kernel
theorem d_M_isIn_5 : decode prog_7_method_10_code 5 = .ok (.laload, 1) := by decide +kernel
theorem d_M_isIn_6 : decode prog_7_method_10_code 6 = .ok (.iload_n 1, 1) := by decide +kernel
theorem d_M_isIn_7 : decode prog_7_method_10_code 7 = .ok (.invokestatic 86, 3) := by decide +kernel
theorem d_M_isIn_10 : decode prog_7_method_10_code 10 = .ok (.aload_n 0, 1) := by decide +kernel
theorem d_M_isIn_11 : decode prog_7_method_10_code 11 = .ok (.getfield 33, 3) := by decide +kernel
theorem d_M_isIn_14 : decode prog_7_method_10_code 14 = .ok (.bipush 21, 2) := by decide +kernel
theorem d_M_isIn_16 : decode prog_7_method_10_code 16 = .ok (.iload_n 1, 1) := by decide +kernel
theorem d_M_isIn_17 : decode prog_7_method_10_code 17 = .ok (.imul, 1) := by decide +kernel
theorem d_M_isIn_18 : decode prog_7_method_10_code 18 = .ok (.iload_n 2, 1) := by decide +kernel
theorem d_M_isIn_19 : decode prog_7_method_10_code 19 = .ok (.iadd, 1) := by decide +kernel
theorem d_M_isIn_20 : decode prog_7_method_10_code 20 = .ok (.laload, 1) := by decide +kernel
theorem d_M_isIn_21 : decode prog_7_method_10_code 21 = .ok (.aload_n 0, 1) := by decide +kernel
theorem d_M_isIn_22 : decode prog_7_method_10_code 22 = .ok (.getfield 36, 3) := by decide +kernel
theorem d_M_isIn_25 : decode prog_7_method_10_code 25 = .ok (.bipush 21, 2) := by decide +kernel
theorem d_M_isIn_27 : decode prog_7_method_10_code 27 = .ok (.iload_n 1, 1) := by decide +kernel
theorem d_M_isIn_28 : decode prog_7_method_10_code 28 = .ok (.imul, 1) := by decide +kernel
theorem d_M_isIn_29 : decode prog_7_method_10_code 29 = .ok (.iload_n 2, 1) := by decide +kernel
theorem d_M_isIn_30 : decode prog_7_method_10_code 30 = .ok (.iadd, 1) := by decide +kernel
theorem d_M_isIn_31 : decode prog_7_method_10_code 31 = .ok (.laload, 1) := by decide +kernel
theorem d_M_isIn_32 : decode prog_7_method_10_code 32 = .ok (.invokestatic 90, 3) := by decide +kernel
theorem d_M_isIn_35 : decode prog_7_method_10_code 35 = .ok (.ireturn, 1) := by decide +kernel
-- M_digestOf  FleetWavesModel.digestOf(JI)J  prog_7_method_8_code maxL 6 ret (some .long) code
theorem d_M_digestOf_0 : decode prog_7_method_8_code 0 = .ok (.lload_n 0, 1) := by decide +kernel
theorem d_M_digestOf_1 : decode prog_7_method_8_code 1 = .ok (.ldc2_w 80, 3) := by decide +kernel
theorem d_M_digestOf_4 : decode prog_7_method_8_code 4 = .ok (.lmul, 1) := by decide +kernel
theorem d_M_digestOf_5 : decode prog_7_method_8_code 5 = .ok (.iload_n 2, 1) := by decide +kernel
theorem d_M_digestOf_6 : decode prog_7_method_8_code 6 = .ok (.i2l, 1) := by decide +kernel
theorem d_M_digestOf_7 : decode prog_7_method_8_code 7 = .ok (.ladd, 1) := by decide +kernel
theorem d_M_digestOf_8 : decode prog_7_method_8_code 8 = .ok (.lstore_n 3, 1) := by decide +kernel
theorem d_M_digestOf_9 : decode prog_7_method_8_code 9 = .ok (.iconst 0, 1) := by decide +kernel
theorem d_M_digestOf_10 : decode prog_7_method_8_code 10 = .ok (.istore 5, 2) := by decide +kernel
theorem d_M_digestOf_12 : decode prog_7_method_8_code 12 = .ok (.iload 5, 2) := by decide +kernel
theorem d_M_digestOf_14 : decode prog_7_method_8_code 14 = .ok (.iconst 3, 1) := by decide +kernel
theorem d_M_digestOf_15 : decode prog_7_method_8_code 15 = .ok (.if_icmp .ge 39, 3) := by decide +kernel
theorem d_M_digestOf_18 : decode prog_7_method_8_code 18 = .ok (.lload_n 3, 1) := by decide +kernel
theorem d_M_digestOf_19 : decode prog_7_method_8_code 19 = .ok (.lload_n 3, 1) := by decide +kernel
theorem d_M_digestOf_20 : decode prog_7_method_8_code 20 = .ok (.bipush 33, 2) := by decide +kernel
theorem d_M_digestOf_22 : decode prog_7_method_8_code 22 = .ok (.lushr, 1) := by decide +kernel
theorem d_M_digestOf_23 : decode prog_7_method_8_code 23 = .ok (.lxor, 1) := by decide +kernel
theorem d_M_digestOf_24 : decode prog_7_method_8_code 24 = .ok (.lstore_n 3, 1) := by decide +kernel
theorem d_M_digestOf_25 : decode prog_7_method_8_code 25 = .ok (.iload 5, 2) := by decide +kernel
theorem d_M_digestOf_27 : decode prog_7_method_8_code 27 = .ok (.ifCond .ne 9, 3) := by decide +kernel
theorem d_M_digestOf_30 : decode prog_7_method_8_code 30 = .ok (.lload_n 3, 1) := by decide +kernel
theorem d_M_digestOf_31 : decode prog_7_method_8_code 31 = .ok (.ldc2_w 82, 3) := by decide +kernel
theorem d_M_digestOf_34 : decode prog_7_method_8_code 34 = .ok (.lmul, 1) := by decide +kernel
theorem d_M_digestOf_35 : decode prog_7_method_8_code 35 = .ok (.lstore_n 3, 1) := by decide +kernel
theorem d_M_digestOf_36 : decode prog_7_method_8_code 36 = .ok (.iload 5, 2) := by decide +kernel
theorem d_M_digestOf_38 : decode prog_7_method_8_code 38 = .ok (.iconst 1, 1) := by decide +kernel
theorem d_M_digestOf_39 : decode prog_7_method_8_code 39 = .ok (.if_icmp .ne 9, 3) := by decide +kernel
theorem d_M_digestOf_42 : decode prog_7_method_8_code 42 = .ok (.lload_n 3, 1) := by decide +kernel
theorem d_M_digestOf_43 : decode prog_7_method_8_code 43 = .ok (.ldc2_w 84, 3) := by decide +kernel
theorem d_M_digestOf_46 : decode prog_7_method_8_code 46 = .ok (.lmul, 1) := by decide +kernel
theorem d_M_digestOf_47 : decode prog_7_method_8_code 47 = .ok (.lstore_n 3, 1) := by decide +kernel
theorem d_M_digestOf_48 : decode prog_7_method_8_code 48 = .ok (.iinc 5 1, 3) := by decide +kernel
theorem d_M_digestOf_51 : decode prog_7_method_8_code 51 = .ok (.goto (-39), 3) := by decide +kernel
theorem d_M_digestOf_54 : decode prog_7_method_8_code 54 = .ok (.lload_n 3, 1) := by decide +kernel
theorem d_M_digestOf_55 : decode prog_7_method_8_code 55 = .ok (.bipush 32, 2) := by decide +kernel
theorem d_M_digestOf_57 : decode prog_7_method_8_code 57 = .ok (.lushr, 1) := by decide +kernel
theorem d_M_digestOf_58 : decode prog_7_method_8_code 58 = .ok (.lreturn, 1) := by decide +kernel
-- M_less  FleetWavesModel.less(JJJ)Z  prog_7_method_9_code maxL 8 ret (some .boolean) code
theorem d_M_less_0 : decode prog_7_method_9_code 0 = .ok (.lload_n 0, 1) := by decide +kernel
theorem d_M_less_1 : decode prog_7_method_9_code 1 = .ok (.lload 4, 2) := by decide +kernel
theorem d_M_less_3 : decode prog_7_method_9_code 3 = .ok (.lmul, 1) := by decide +kernel
theorem d_M_less_4 : decode prog_7_method_9_code 4 = .ok (.bipush 32, 2) := by decide +kernel
theorem d_M_less_6 : decode prog_7_method_9_code 6 = .ok (.lshr, 1) := by decide +kernel
theorem d_M_less_7 : decode prog_7_method_9_code 7 = .ok (.lstore 6, 2) := by decide +kernel
theorem d_M_less_9 : decode prog_7_method_9_code 9 = .ok (.lload 6, 2) := by decide +kernel
theorem d_M_less_11 : decode prog_7_method_9_code 11 = .ok (.lload_n 2, 1) := by decide +kernel
theorem d_M_less_12 : decode prog_7_method_9_code 12 = .ok (.lcmp, 1) := by decide +kernel
theorem d_M_less_13 : decode prog_7_method_9_code 13 = .ok (.ifCond .ge 7, 3) := by decide +kernel
theorem d_M_less_16 : decode prog_7_method_9_code 16 = .ok (.iconst 1, 1) := by decide +kernel
theorem d_M_less_17 : decode prog_7_method_9_code 17 = .ok (.goto 4, 3) := by decide +kernel
theorem d_M_less_20 : decode prog_7_method_9_code 20 = .ok (.iconst 0, 1) := by decide +kernel
theorem d_M_less_21 : decode prog_7_method_9_code 21 = .ok (.ireturn, 1) := by decide +kernel
-- M_report  FleetWavesModel.report(IIZ)I  prog_7_method_19_code maxL 5 ret (some .int) code
theorem d_M_report_0 : decode prog_7_method_19_code 0 = .ok (.aload_n 0, 1) := by decide +kernel
theorem d_M_report_1 : decode prog_7_method_19_code 1 = .ok (.iload_n 2, 1) := by decide +kernel
theorem d_M_report_2 : decode prog_7_method_19_code 2 = .ok (.invokevirtual 96, 3) := by decide +kernel
theorem d_M_report_5 : decode prog_7_method_19_code 5 = .ok (.ifCond .ne 11, 3) := by decide +kernel
theorem d_M_report_8 : decode prog_7_method_19_code 8 = .ok (.aload_n 0, 1) := by decide +kernel
theorem d_M_report_9 : decode prog_7_method_19_code 9 = .ok (.iload_n 1, 1) := by decide +kernel
theorem d_M_report_10 : decode prog_7_method_19_code 10 = .ok (.invokevirtual 127, 3) := by decide +kernel
theorem d_M_report_13 : decode prog_7_method_19_code 13 = .ok (.ifCond .eq 5, 3) := by decide +kernel
theorem d_M_report_16 : decode prog_7_method_19_code 16 = .ok (.iconst (-1), 1) := by decide +kernel
theorem d_M_report_17 : decode prog_7_method_19_code 17 = .ok (.ireturn, 1) := by decide +kernel
theorem d_M_report_18 : decode prog_7_method_19_code 18 = .ok (.bipush 41, 2) := by decide +kernel
theorem d_M_report_20 : decode prog_7_method_19_code 20 = .ok (.iload_n 1, 1) := by decide +kernel
theorem d_M_report_21 : decode prog_7_method_19_code 21 = .ok (.imul, 1) := by decide +kernel
theorem d_M_report_22 : decode prog_7_method_19_code 22 = .ok (.iload_n 2, 1) := by decide +kernel
theorem d_M_report_23 : decode prog_7_method_19_code 23 = .ok (.iadd, 1) := by decide +kernel
theorem d_M_report_24 : decode prog_7_method_19_code 24 = .ok (.istore 4, 2) := by decide +kernel
theorem d_M_report_26 : decode prog_7_method_19_code 26 = .ok (.aload_n 0, 1) := by decide +kernel
theorem d_M_report_27 : decode prog_7_method_19_code 27 = .ok (.getfield 66, 3) := by decide +kernel
theorem d_M_report_30 : decode prog_7_method_19_code 30 = .ok (.iload 4, 2) := by decide +kernel
theorem d_M_report_32 : decode prog_7_method_19_code 32 = .ok (.baload, 1) := by decide +kernel
theorem d_M_report_33 : decode prog_7_method_19_code 33 = .ok (.ifCond .ne 6, 3) := by decide +kernel
theorem d_M_report_36 : decode prog_7_method_19_code 36 = .ok (.bipush (-3), 2) := by decide +kernel
theorem d_M_report_38 : decode prog_7_method_19_code 38 = .ok (.ireturn, 1) := by decide +kernel
theorem d_M_report_39 : decode prog_7_method_19_code 39 = .ok (.aload_n 0, 1) := by decide +kernel
theorem d_M_report_40 : decode prog_7_method_19_code 40 = .ok (.getfield 66, 3) := by decide +kernel
theorem d_M_report_43 : decode prog_7_method_19_code 43 = .ok (.iload 4, 2) := by decide +kernel
theorem d_M_report_45 : decode prog_7_method_19_code 45 = .ok (.iconst 0, 1) := by decide +kernel
theorem d_M_report_46 : decode prog_7_method_19_code 46 = .ok (.bastore, 1) := by decide +kernel
theorem d_M_report_47 : decode prog_7_method_19_code 47 = .ok (.iload_n 3, 1) := by decide +kernel
theorem d_M_report_48 : decode prog_7_method_19_code 48 = .ok (.ifCond .eq 41, 3) := by decide +kernel
theorem d_M_report_51 : decode prog_7_method_19_code 51 = .ok (.aload_n 0, 1) := by decide +kernel
theorem d_M_report_52 : decode prog_7_method_19_code 52 = .ok (.getfield 48, 3) := by decide +kernel
theorem d_M_report_55 : decode prog_7_method_19_code 55 = .ok (.iload_n 2, 1) := by decide +kernel
theorem d_M_report_56 : decode prog_7_method_19_code 56 = .ok (.dup2, 1) := by decide +kernel
theorem d_M_report_57 : decode prog_7_method_19_code 57 = .ok (.iaload, 1) := by decide +kernel
theorem d_M_report_58 : decode prog_7_method_19_code 58 = .ok (.iconst 1, 1) := by decide +kernel
theorem d_M_report_59 : decode prog_7_method_19_code 59 = .ok (.iadd, 1) := by decide +kernel
theorem d_M_report_60 : decode prog_7_method_19_code 60 = .ok (.iastore, 1) := by decide +kernel
theorem d_M_report_61 : decode prog_7_method_19_code 61 = .ok (.aload_n 0, 1) := by decide +kernel
theorem d_M_report_62 : decode prog_7_method_19_code 62 = .ok (.getfield 13, 3) := by decide +kernel
theorem d_M_report_65 : decode prog_7_method_19_code 65 = .ok (.bipush 8, 2) := by decide +kernel
theorem d_M_report_67 : decode prog_7_method_19_code 67 = .ok (.iload_n 1, 1) := by decide +kernel
theorem d_M_report_68 : decode prog_7_method_19_code 68 = .ok (.imul, 1) := by decide +kernel
theorem d_M_report_69 : decode prog_7_method_19_code 69 = .ok (.aload_n 0, 1) := by decide +kernel
theorem d_M_report_70 : decode prog_7_method_19_code 70 = .ok (.getfield 21, 3) := by decide +kernel
theorem d_M_report_73 : decode prog_7_method_19_code 73 = .ok (.iload_n 2, 1) := by decide +kernel
theorem d_M_report_74 : decode prog_7_method_19_code 74 = .ok (.iaload, 1) := by decide +kernel
theorem d_M_report_75 : decode prog_7_method_19_code 75 = .ok (.bipush 7, 2) := by decide +kernel
theorem d_M_report_77 : decode prog_7_method_19_code 77 = .ok (.iand, 1) := by decide +kernel
theorem d_M_report_78 : decode prog_7_method_19_code 78 = .ok (.iadd, 1) := by decide +kernel
theorem d_M_report_79 : decode prog_7_method_19_code 79 = .ok (.aload_n 0, 1) := by decide +kernel
theorem d_M_report_80 : decode prog_7_method_19_code 80 = .ok (.getfield 24, 3) := by decide +kernel
theorem d_M_report_83 : decode prog_7_method_19_code 83 = .ok (.iload_n 2, 1) := by decide +kernel
theorem d_M_report_84 : decode prog_7_method_19_code 84 = .ok (.iaload, 1) := by decide +kernel
theorem d_M_report_85 : decode prog_7_method_19_code 85 = .ok (.iastore, 1) := by decide +kernel
theorem d_M_report_86 : decode prog_7_method_19_code 86 = .ok (.goto 35, 3) := by decide +kernel
theorem d_M_report_89 : decode prog_7_method_19_code 89 = .ok (.aload_n 0, 1) := by decide +kernel
theorem d_M_report_90 : decode prog_7_method_19_code 90 = .ok (.getfield 51, 3) := by decide +kernel
theorem d_M_report_93 : decode prog_7_method_19_code 93 = .ok (.iload_n 2, 1) := by decide +kernel
theorem d_M_report_94 : decode prog_7_method_19_code 94 = .ok (.dup2, 1) := by decide +kernel
theorem d_M_report_95 : decode prog_7_method_19_code 95 = .ok (.iaload, 1) := by decide +kernel
theorem d_M_report_96 : decode prog_7_method_19_code 96 = .ok (.iconst 1, 1) := by decide +kernel
theorem d_M_report_97 : decode prog_7_method_19_code 97 = .ok (.iadd, 1) := by decide +kernel
theorem d_M_report_98 : decode prog_7_method_19_code 98 = .ok (.iastore, 1) := by decide +kernel
theorem d_M_report_99 : decode prog_7_method_19_code 99 = .ok (.aload_n 0, 1) := by decide +kernel
theorem d_M_report_100 : decode prog_7_method_19_code 100 = .ok (.getfield 60, 3) := by decide +kernel
theorem d_M_report_103 : decode prog_7_method_19_code 103 = .ok (.iload 4, 2) := by decide +kernel
theorem d_M_report_105 : decode prog_7_method_19_code 105 = .ok (.dup2, 1) := by decide +kernel
theorem d_M_report_106 : decode prog_7_method_19_code 106 = .ok (.iaload, 1) := by decide +kernel
theorem d_M_report_107 : decode prog_7_method_19_code 107 = .ok (.iconst 1, 1) := by decide +kernel
theorem d_M_report_108 : decode prog_7_method_19_code 108 = .ok (.iadd, 1) := by decide +kernel
theorem d_M_report_109 : decode prog_7_method_19_code 109 = .ok (.iastore, 1) := by decide +kernel
theorem d_M_report_110 : decode prog_7_method_19_code 110 = .ok (.aload_n 0, 1) := by decide +kernel
theorem d_M_report_111 : decode prog_7_method_19_code 111 = .ok (.getfield 63, 3) := by decide +kernel
theorem d_M_report_114 : decode prog_7_method_19_code 114 = .ok (.iload 4, 2) := by decide +kernel
theorem d_M_report_116 : decode prog_7_method_19_code 116 = .ok (.aload_n 0, 1) := by decide +kernel
theorem d_M_report_117 : decode prog_7_method_19_code 117 = .ok (.getfield 104, 3) := by decide +kernel
theorem d_M_report_120 : decode prog_7_method_19_code 120 = .ok (.lastore, 1) := by decide +kernel
theorem d_M_report_121 : decode prog_7_method_19_code 121 = .ok (.aload_n 0, 1) := by decide +kernel
theorem d_M_report_122 : decode prog_7_method_19_code 122 = .ok (.iload_n 2, 1) := by decide +kernel
theorem d_M_report_123 : decode prog_7_method_19_code 123 = .ok (.invokevirtual 137, 3) := by decide +kernel
theorem d_M_report_126 : decode prog_7_method_19_code 126 = .ok (.iconst 1, 1) := by decide +kernel
theorem d_M_report_127 : decode prog_7_method_19_code 127 = .ok (.ireturn, 1) := by decide +kernel
-- M_look  FleetWavesModel.look(I)V  prog_7_method_18_code maxL 3 ret none code
theorem d_M_look_0 : decode prog_7_method_18_code 0 = .ok (.aload_n 0, 1) := by decide +kernel
theorem d_M_look_1 : decode prog_7_method_18_code 1 = .ok (.getfield 48, 3) := by decide +kernel
theorem d_M_look_4 : decode prog_7_method_18_code 4 = .ok (.iload_n 1, 1) := by decide +kernel
theorem d_M_look_5 : decode prog_7_method_18_code 5 = .ok (.iaload, 1) := by decide +kernel
theorem d_M_look_6 : decode prog_7_method_18_code 6 = .ok (.aload_n 0, 1) := by decide +kernel
theorem d_M_look_7 : decode prog_7_method_18_code 7 = .ok (.getfield 51, 3) := by decide +kernel
theorem d_M_look_10 : decode prog_7_method_18_code 10 = .ok (.iload_n 1, 1) := by decide +kernel
theorem d_M_look_11 : decode prog_7_method_18_code 11 = .ok (.iaload, 1) := by decide +kernel
theorem d_M_look_12 : decode prog_7_method_18_code 12 = .ok (.iadd, 1) := by decide +kernel
theorem d_M_look_13 : decode prog_7_method_18_code 13 = .ok (.istore_n 2, 1) := by decide +kernel
theorem d_M_look_14 : decode prog_7_method_18_code 14 = .ok (.aload_n 0, 1) := by decide +kernel
theorem d_M_look_15 : decode prog_7_method_18_code 15 = .ok (.getfield 27, 3) := by decide +kernel
theorem d_M_look_18 : decode prog_7_method_18_code 18 = .ok (.iload_n 1, 1) := by decide +kernel
theorem d_M_look_19 : decode prog_7_method_18_code 19 = .ok (.iaload, 1) := by decide +kernel
theorem d_M_look_20 : decode prog_7_method_18_code 20 = .ok (.iconst 1, 1) := by decide +kernel
theorem d_M_look_21 : decode prog_7_method_18_code 21 = .ok (.if_icmp .ne 54, 3) := by decide +kernel
theorem d_M_look_24 : decode prog_7_method_18_code 24 = .ok (.aload_n 0, 1) := by decide +kernel
theorem d_M_look_25 : decode prog_7_method_18_code 25 = .ok (.getfield 45, 3) := by decide +kernel
theorem d_M_look_28 : decode prog_7_method_18_code 28 = .ok (.iload_n 1, 1) := by decide +kernel
theorem d_M_look_29 : decode prog_7_method_18_code 29 = .ok (.laload, 1) := by decide +kernel
theorem d_M_look_30 : decode prog_7_method_18_code 30 = .ok (.lconst 0, 1) := by decide +kernel
theorem d_M_look_31 : decode prog_7_method_18_code 31 = .ok (.lcmp, 1) := by decide +kernel
theorem d_M_look_32 : decode prog_7_method_18_code 32 = .ok (.ifCond .le 43, 3) := by decide +kernel
theorem d_M_look_35 : decode prog_7_method_18_code 35 = .ok (.iload_n 2, 1) := by decide +kernel
theorem d_M_look_36 : decode prog_7_method_18_code 36 = .ok (.ifCond .le 39, 3) := by decide +kernel
theorem d_M_look_39 : decode prog_7_method_18_code 39 = .ok (.aload_n 0, 1) := by decide +kernel
theorem d_M_look_40 : decode prog_7_method_18_code 40 = .ok (.getfield 51, 3) := by decide +kernel
theorem d_M_look_43 : decode prog_7_method_18_code 43 = .ok (.iload_n 1, 1) := by decide +kernel
theorem d_M_look_44 : decode prog_7_method_18_code 44 = .ok (.iaload, 1) := by decide +kernel
theorem d_M_look_45 : decode prog_7_method_18_code 45 = .ok (.i2l, 1) := by decide +kernel
theorem d_M_look_46 : decode prog_7_method_18_code 46 = .ok (.iload_n 2, 1) := by decide +kernel
theorem d_M_look_47 : decode prog_7_method_18_code 47 = .ok (.i2l, 1) := by decide +kernel
theorem d_M_look_48 : decode prog_7_method_18_code 48 = .ok (.aload_n 0, 1) := by decide +kernel
theorem d_M_look_49 : decode prog_7_method_18_code 49 = .ok (.getfield 42, 3) := by decide +kernel
theorem d_M_look_52 : decode prog_7_method_18_code 52 = .ok (.iload_n 1, 1) := by decide +kernel
theorem d_M_look_53 : decode prog_7_method_18_code 53 = .ok (.laload, 1) := by decide +kernel
theorem d_M_look_54 : decode prog_7_method_18_code 54 = .ok (.aload_n 0, 1) := by decide +kernel
theorem d_M_look_55 : decode prog_7_method_18_code 55 = .ok (.getfield 45, 3) := by decide +kernel
theorem d_M_look_58 : decode prog_7_method_18_code 58 = .ok (.iload_n 1, 1) := by decide +kernel
theorem d_M_look_59 : decode prog_7_method_18_code 59 = .ok (.laload, 1) := by decide +kernel
theorem d_M_look_60 : decode prog_7_method_18_code 60 = .ok (.invokestatic 108, 3) := by decide +kernel
theorem d_M_look_63 : decode prog_7_method_18_code 63 = .ok (.lconst 0, 1) := by decide +kernel
theorem d_M_look_64 : decode prog_7_method_18_code 64 = .ok (.lcmp, 1) := by decide +kernel
theorem d_M_look_65 : decode prog_7_method_18_code 65 = .ok (.ifCond .le 10, 3) := by decide +kernel
theorem d_M_look_68 : decode prog_7_method_18_code 68 = .ok (.aload_n 0, 1) := by decide +kernel
theorem d_M_look_69 : decode prog_7_method_18_code 69 = .ok (.getfield 27, 3) := by decide +kernel
theorem d_M_look_72 : decode prog_7_method_18_code 72 = .ok (.iload_n 1, 1) := by decide +kernel
theorem d_M_look_73 : decode prog_7_method_18_code 73 = .ok (.iconst 2, 1) := by decide +kernel
theorem d_M_look_74 : decode prog_7_method_18_code 74 = .ok (.iastore, 1) := by decide +kernel
theorem d_M_look_75 : decode prog_7_method_18_code 75 = .ok (.return_, 1) := by decide +kernel
-- M_share  FleetWavesModel.share(II)J  prog_7_method_20_code maxL 5 ret (some .long) code
theorem d_M_share_0 : decode prog_7_method_20_code 0 = .ok (.aload_n 0, 1) := by decide +kernel
theorem d_M_share_1 : decode prog_7_method_20_code 1 = .ok (.iload_n 1, 1) := by decide +kernel
theorem d_M_share_2 : decode prog_7_method_20_code 2 = .ok (.invokevirtual 96, 3) := by decide +kernel
theorem d_M_share_5 : decode prog_7_method_20_code 5 = .ok (.ifCond .eq 7, 3) := by decide +kernel
theorem d_M_share_8 : decode prog_7_method_20_code 8 = .ok (.ldc2_w 112, 3) := by decide +kernel
theorem d_M_share_11 : decode prog_7_method_20_code 11 = .ok (.lreturn, 1) := by decide +kernel
theorem d_M_share_12 : decode prog_7_method_20_code 12 = .ok (.aload_n 0, 1) := by decide +kernel
theorem d_M_share_13 : decode prog_7_method_20_code 13 = .ok (.getfield 48, 3) := by decide +kernel
theorem d_M_share_16 : decode prog_7_method_20_code 16 = .ok (.iload_n 1, 1) := by decide +kernel
theorem d_M_share_17 : decode prog_7_method_20_code 17 = .ok (.iaload, 1) := by decide +kernel
theorem d_M_share_18 : decode prog_7_method_20_code 18 = .ok (.aload_n 0, 1) := by decide +kernel
theorem d_M_share_19 : decode prog_7_method_20_code 19 = .ok (.getfield 51, 3) := by decide +kernel
theorem d_M_share_22 : decode prog_7_method_20_code 22 = .ok (.iload_n 1, 1) := by decide +kernel
theorem d_M_share_23 : decode prog_7_method_20_code 23 = .ok (.iaload, 1) := by decide +kernel
theorem d_M_share_24 : decode prog_7_method_20_code 24 = .ok (.iadd, 1) := by decide +kernel
theorem d_M_share_25 : decode prog_7_method_20_code 25 = .ok (.istore_n 3, 1) := by decide +kernel
theorem d_M_share_26 : decode prog_7_method_20_code 26 = .ok (.aload_n 0, 1) := by decide +kernel
theorem d_M_share_27 : decode prog_7_method_20_code 27 = .ok (.iload_n 3, 1) := by decide +kernel
theorem d_M_share_28 : decode prog_7_method_20_code 28 = .ok (.ifCond .ne 7, 3) := by decide +kernel
theorem d_M_share_31 : decode prog_7_method_20_code 31 = .ok (.iconst 1, 1) := by decide +kernel
theorem d_M_share_32 : decode prog_7_method_20_code 32 = .ok (.goto 4, 3) := by decide +kernel
theorem d_M_share_35 : decode prog_7_method_20_code 35 = .ok (.iconst 0, 1) := by decide +kernel
theorem d_M_share_36 : decode prog_7_method_20_code 36 = .ok (.putfield 69, 3) := by decide +kernel
theorem d_M_share_39 : decode prog_7_method_20_code 39 = .ok (.aload_n 0, 1) := by decide +kernel
theorem d_M_share_40 : decode prog_7_method_20_code 40 = .ok (.getfield 69, 3) := by decide +kernel
theorem d_M_share_43 : decode prog_7_method_20_code 43 = .ok (.ifCond .le 5, 3) := by decide +kernel
theorem d_M_share_46 : decode prog_7_method_20_code 46 = .ok (.lconst 0, 1) := by decide +kernel
theorem d_M_share_47 : decode prog_7_method_20_code 47 = .ok (.lreturn, 1) := by decide +kernel
theorem d_M_share_48 : decode prog_7_method_20_code 48 = .ok (.iload_n 3, 1) := by decide +kernel
theorem d_M_share_49 : decode prog_7_method_20_code 49 = .ok (.istore 4, 2) := by decide +kernel
theorem d_M_share_51 : decode prog_7_method_20_code 51 = .ok (.iload_n 3, 1) := by decide +kernel
theorem d_M_share_52 : decode prog_7_method_20_code 52 = .ok (.iload 4, 2) := by decide +kernel
theorem d_M_share_54 : decode prog_7_method_20_code 54 = .ok (.irem, 1) := by decide +kernel
theorem d_M_share_55 : decode prog_7_method_20_code 55 = .ok (.ifCond .gt 15, 3) := by decide +kernel
theorem d_M_share_58 : decode prog_7_method_20_code 58 = .ok (.aload_n 0, 1) := by decide +kernel
theorem d_M_share_59 : decode prog_7_method_20_code 59 = .ok (.getfield 51, 3) := by decide +kernel
theorem d_M_share_62 : decode prog_7_method_20_code 62 = .ok (.iload_n 1, 1) := by decide +kernel
theorem d_M_share_63 : decode prog_7_method_20_code 63 = .ok (.iaload, 1) := by decide +kernel
theorem d_M_share_64 : decode prog_7_method_20_code 64 = .ok (.iload 4, 2) := by decide +kernel
theorem d_M_share_66 : decode prog_7_method_20_code 66 = .ok (.irem, 1) := by decide +kernel
theorem d_M_share_67 : decode prog_7_method_20_code 67 = .ok (.ifCond .le 9, 3) := by decide +kernel
theorem d_M_share_70 : decode prog_7_method_20_code 70 = .ok (.iinc 4 (-1), 3) := by decide +kernel
theorem d_M_share_73 : decode prog_7_method_20_code 73 = .ok (.goto (-22), 3) := by decide +kernel
theorem d_M_share_76 : decode prog_7_method_20_code 76 = .ok (.iload_n 2, 1) := by decide +kernel
theorem d_M_share_77 : decode prog_7_method_20_code 77 = .ok (.ifCond .ne 16, 3) := by decide +kernel
theorem d_M_share_80 : decode prog_7_method_20_code 80 = .ok (.aload_n 0, 1) := by decide +kernel
theorem d_M_share_81 : decode prog_7_method_20_code 81 = .ok (.getfield 51, 3) := by decide +kernel
theorem d_M_share_84 : decode prog_7_method_20_code 84 = .ok (.iload_n 1, 1) := by decide +kernel
theorem d_M_share_85 : decode prog_7_method_20_code 85 = .ok (.iaload, 1) := by decide +kernel
theorem d_M_share_86 : decode prog_7_method_20_code 86 = .ok (.iload 4, 2) := by decide +kernel
theorem d_M_share_88 : decode prog_7_method_20_code 88 = .ok (.idiv, 1) := by decide +kernel
theorem d_M_share_89 : decode prog_7_method_20_code 89 = .ok (.i2l, 1) := by decide +kernel
theorem d_M_share_90 : decode prog_7_method_20_code 90 = .ok (.goto 8, 3) := by decide +kernel
theorem d_M_share_93 : decode prog_7_method_20_code 93 = .ok (.iload_n 3, 1) := by decide +kernel
theorem d_M_share_94 : decode prog_7_method_20_code 94 = .ok (.iload 4, 2) := by decide +kernel
theorem d_M_share_96 : decode prog_7_method_20_code 96 = .ok (.idiv, 1) := by decide +kernel
theorem d_M_share_97 : decode prog_7_method_20_code 97 = .ok (.i2l, 1) := by decide +kernel
theorem d_M_share_98 : decode prog_7_method_20_code 98 = .ok (.lreturn, 1) := by decide +kernel
-- M_rule  FleetWavesModel.rule(IJJ)I  prog_7_method_21_code maxL 7 ret (some .int) code
theorem d_M_rule_0 : decode prog_7_method_21_code 0 = .ok (.aload_n 0, 1) := by decide +kernel
theorem d_M_rule_1 : decode prog_7_method_21_code 1 = .ok (.iload_n 1, 1) := by decide +kernel
theorem d_M_rule_2 : decode prog_7_method_21_code 2 = .ok (.invokevirtual 96, 3) := by decide +kernel
theorem d_M_rule_5 : decode prog_7_method_21_code 5 = .ok (.ifCond .eq 5, 3) := by decide +kernel
theorem d_M_rule_8 : decode prog_7_method_21_code 8 = .ok (.iconst (-1), 1) := by decide +kernel
theorem d_M_rule_9 : decode prog_7_method_21_code 9 = .ok (.ireturn, 1) := by decide +kernel
theorem d_M_rule_10 : decode prog_7_method_21_code 10 = .ok (.lload_n 2, 1) := by decide +kernel
theorem d_M_rule_11 : decode prog_7_method_21_code 11 = .ok (.lload 4, 2) := by decide +kernel
theorem d_M_rule_13 : decode prog_7_method_21_code 13 = .ok (.invokestatic 100, 3) := by decide +kernel
theorem d_M_rule_16 : decode prog_7_method_21_code 16 = .ok (.ifCond .eq 6, 3) := by decide +kernel
theorem d_M_rule_19 : decode prog_7_method_21_code 19 = .ok (.bipush (-2), 2) := by decide +kernel
theorem d_M_rule_21 : decode prog_7_method_21_code 21 = .ok (.ireturn, 1) := by decide +kernel
theorem d_M_rule_22 : decode prog_7_method_21_code 22 = .ok (.aload_n 0, 1) := by decide +kernel
theorem d_M_rule_23 : decode prog_7_method_21_code 23 = .ok (.getfield 42, 3) := by decide +kernel
theorem d_M_rule_26 : decode prog_7_method_21_code 26 = .ok (.iload_n 1, 1) := by decide +kernel
theorem d_M_rule_27 : decode prog_7_method_21_code 27 = .ok (.lload_n 2, 1) := by decide +kernel
theorem d_M_rule_28 : decode prog_7_method_21_code 28 = .ok (.lastore, 1) := by decide +kernel
theorem d_M_rule_29 : decode prog_7_method_21_code 29 = .ok (.aload_n 0, 1) := by decide +kernel
theorem d_M_rule_30 : decode prog_7_method_21_code 30 = .ok (.getfield 45, 3) := by decide +kernel
theorem d_M_rule_33 : decode prog_7_method_21_code 33 = .ok (.iload_n 1, 1) := by decide +kernel
theorem d_M_rule_34 : decode prog_7_method_21_code 34 = .ok (.lload 4, 2) := by decide +kernel
theorem d_M_rule_36 : decode prog_7_method_21_code 36 = .ok (.lastore, 1) := by decide +kernel
theorem d_M_rule_37 : decode prog_7_method_21_code 37 = .ok (.aload_n 0, 1) := by decide +kernel
theorem d_M_rule_38 : decode prog_7_method_21_code 38 = .ok (.getfield 27, 3) := by decide +kernel
theorem d_M_rule_41 : decode prog_7_method_21_code 41 = .ok (.iload_n 1, 1) := by decide +kernel
theorem d_M_rule_42 : decode prog_7_method_21_code 42 = .ok (.iaload, 1) := by decide +kernel
theorem d_M_rule_43 : decode prog_7_method_21_code 43 = .ok (.istore 6, 2) := by decide +kernel
theorem d_M_rule_45 : decode prog_7_method_21_code 45 = .ok (.aload_n 0, 1) := by decide +kernel
theorem d_M_rule_46 : decode prog_7_method_21_code 46 = .ok (.iload_n 1, 1) := by decide +kernel
theorem d_M_rule_47 : decode prog_7_method_21_code 47 = .ok (.invokevirtual 137, 3) := by decide +kernel
theorem d_M_rule_50 : decode prog_7_method_21_code 50 = .ok (.aload_n 0, 1) := by decide +kernel
theorem d_M_rule_51 : decode prog_7_method_21_code 51 = .ok (.getfield 27, 3) := by decide +kernel
theorem d_M_rule_54 : decode prog_7_method_21_code 54 = .ok (.iload_n 1, 1) := by decide +kernel
theorem d_M_rule_55 : decode prog_7_method_21_code 55 = .ok (.iaload, 1) := by decide +kernel
theorem d_M_rule_56 : decode prog_7_method_21_code 56 = .ok (.iload 6, 2) := by decide +kernel
theorem d_M_rule_58 : decode prog_7_method_21_code 58 = .ok (.if_icmp .ne 7, 3) := by decide +kernel
theorem d_M_rule_61 : decode prog_7_method_21_code 61 = .ok (.iconst 0, 1) := by decide +kernel
theorem d_M_rule_62 : decode prog_7_method_21_code 62 = .ok (.goto 4, 3) := by decide +kernel
theorem d_M_rule_65 : decode prog_7_method_21_code 65 = .ok (.iconst 1, 1) := by decide +kernel
theorem d_M_rule_66 : decode prog_7_method_21_code 66 = .ok (.ireturn, 1) := by decide +kernel
-- M_state  FleetWavesModel.state(I)I  prog_7_method_22_code maxL 2 ret (some .int) code
theorem d_M_state_0 : decode prog_7_method_22_code 0 = .ok (.aload_n 0, 1) := by decide +kernel
theorem d_M_state_1 : decode prog_7_method_22_code 1 = .ok (.iload_n 1, 1) := by decide +kernel
theorem d_M_state_2 : decode prog_7_method_22_code 2 = .ok (.invokevirtual 96, 3) := by decide +kernel
theorem d_M_state_5 : decode prog_7_method_22_code 5 = .ok (.ifCond .eq 7, 3) := by decide +kernel
theorem d_M_state_8 : decode prog_7_method_22_code 8 = .ok (.iconst (-1), 1) := by decide +kernel
theorem d_M_state_9 : decode prog_7_method_22_code 9 = .ok (.goto 9, 3) := by decide +kernel
theorem d_M_state_12 : decode prog_7_method_22_code 12 = .ok (.aload_n 0, 1) := by decide +kernel
theorem d_M_state_13 : decode prog_7_method_22_code 13 = .ok (.getfield 27, 3) := by decide +kernel
theorem d_M_state_16 : decode prog_7_method_22_code 16 = .ok (.iload_n 1, 1) := by decide +kernel
theorem d_M_state_17 : decode prog_7_method_22_code 17 = .ok (.iaload, 1) := by decide +kernel
theorem d_M_state_18 : decode prog_7_method_22_code 18 = .ok (.ireturn, 1) := by decide +kernel
-- M_stop  FleetWavesModel.stop(I)I  prog_7_method_23_code maxL 4 ret (some .int) code
theorem d_M_stop_0 : decode prog_7_method_23_code 0 = .ok (.aload_n 0, 1) := by decide +kernel
theorem d_M_stop_1 : decode prog_7_method_23_code 1 = .ok (.iload_n 1, 1) := by decide +kernel
theorem d_M_stop_2 : decode prog_7_method_23_code 2 = .ok (.invokevirtual 96, 3) := by decide +kernel
theorem d_M_stop_5 : decode prog_7_method_23_code 5 = .ok (.ifCond .eq 5, 3) := by decide +kernel
theorem d_M_stop_8 : decode prog_7_method_23_code 8 = .ok (.iconst (-1), 1) := by decide +kernel
theorem d_M_stop_9 : decode prog_7_method_23_code 9 = .ok (.ireturn, 1) := by decide +kernel
theorem d_M_stop_10 : decode prog_7_method_23_code 10 = .ok (.aload_n 0, 1) := by decide +kernel
theorem d_M_stop_11 : decode prog_7_method_23_code 11 = .ok (.getfield 27, 3) := by decide +kernel
theorem d_M_stop_14 : decode prog_7_method_23_code 14 = .ok (.iload_n 1, 1) := by decide +kernel
theorem d_M_stop_15 : decode prog_7_method_23_code 15 = .ok (.iaload, 1) := by decide +kernel
theorem d_M_stop_16 : decode prog_7_method_23_code 16 = .ok (.iconst 3, 1) := by decide +kernel
theorem d_M_stop_17 : decode prog_7_method_23_code 17 = .ok (.if_icmp .ne 6, 3) := by decide +kernel
theorem d_M_stop_20 : decode prog_7_method_23_code 20 = .ok (.bipush (-3), 2) := by decide +kernel
theorem d_M_stop_22 : decode prog_7_method_23_code 22 = .ok (.ireturn, 1) := by decide +kernel
theorem d_M_stop_23 : decode prog_7_method_23_code 23 = .ok (.aload_n 0, 1) := by decide +kernel
theorem d_M_stop_24 : decode prog_7_method_23_code 24 = .ok (.getfield 27, 3) := by decide +kernel
theorem d_M_stop_27 : decode prog_7_method_23_code 27 = .ok (.iload_n 1, 1) := by decide +kernel
theorem d_M_stop_28 : decode prog_7_method_23_code 28 = .ok (.iconst 3, 1) := by decide +kernel
theorem d_M_stop_29 : decode prog_7_method_23_code 29 = .ok (.iastore, 1) := by decide +kernel
theorem d_M_stop_30 : decode prog_7_method_23_code 30 = .ok (.iconst 0, 1) := by decide +kernel
theorem d_M_stop_31 : decode prog_7_method_23_code 31 = .ok (.istore_n 2, 1) := by decide +kernel
theorem d_M_stop_32 : decode prog_7_method_23_code 32 = .ok (.iconst 1, 1) := by decide +kernel
theorem d_M_stop_33 : decode prog_7_method_23_code 33 = .ok (.istore_n 3, 1) := by decide +kernel
theorem d_M_stop_34 : decode prog_7_method_23_code 34 = .ok (.iload_n 3, 1) := by decide +kernel
theorem d_M_stop_35 : decode prog_7_method_23_code 35 = .ok (.aload_n 0, 1) := by decide +kernel
theorem d_M_stop_36 : decode prog_7_method_23_code 36 = .ok (.getfield 73, 3) := by decide +kernel
theorem d_M_stop_39 : decode prog_7_method_23_code 39 = .ok (.if_icmp .gt 40, 3) := by decide +kernel
theorem d_M_stop_42 : decode prog_7_method_23_code 42 = .ok (.aload_n 0, 1) := by decide +kernel
theorem d_M_stop_43 : decode prog_7_method_23_code 43 = .ok (.iload_n 1, 1) := by decide +kernel
theorem d_M_stop_44 : decode prog_7_method_23_code 44 = .ok (.iload_n 3, 1) := by decide +kernel
theorem d_M_stop_45 : decode prog_7_method_23_code 45 = .ok (.invokevirtual 118, 3) := by decide +kernel
theorem d_M_stop_48 : decode prog_7_method_23_code 48 = .ok (.ifCond .eq 23, 3) := by decide +kernel
theorem d_M_stop_51 : decode prog_7_method_23_code 51 = .ok (.aload_n 0, 1) := by decide +kernel
theorem d_M_stop_52 : decode prog_7_method_23_code 52 = .ok (.getfield 66, 3) := by decide +kernel
theorem d_M_stop_55 : decode prog_7_method_23_code 55 = .ok (.bipush 41, 2) := by decide +kernel
theorem d_M_stop_57 : decode prog_7_method_23_code 57 = .ok (.iload_n 3, 1) := by decide +kernel
theorem d_M_stop_58 : decode prog_7_method_23_code 58 = .ok (.imul, 1) := by decide +kernel
theorem d_M_stop_59 : decode prog_7_method_23_code 59 = .ok (.iload_n 1, 1) := by decide +kernel
theorem d_M_stop_60 : decode prog_7_method_23_code 60 = .ok (.iadd, 1) := by decide +kernel
theorem d_M_stop_61 : decode prog_7_method_23_code 61 = .ok (.baload, 1) := by decide +kernel
theorem d_M_stop_62 : decode prog_7_method_23_code 62 = .ok (.ifCond .ne 9, 3) := by decide +kernel
theorem d_M_stop_65 : decode prog_7_method_23_code 65 = .ok (.iload_n 2, 1) := by decide +kernel
theorem d_M_stop_66 : decode prog_7_method_23_code 66 = .ok (.iconst 1, 1) := by decide +kernel
theorem d_M_stop_67 : decode prog_7_method_23_code 67 = .ok (.iadd, 1) := by decide +kernel
theorem d_M_stop_68 : decode prog_7_method_23_code 68 = .ok (.goto 4, 3) := by decide +kernel
theorem d_M_stop_71 : decode prog_7_method_23_code 71 = .ok (.iload_n 2, 1) := by decide +kernel
theorem d_M_stop_72 : decode prog_7_method_23_code 72 = .ok (.istore_n 2, 1) := by decide +kernel
theorem d_M_stop_73 : decode prog_7_method_23_code 73 = .ok (.iinc 3 1, 3) := by decide +kernel
theorem d_M_stop_76 : decode prog_7_method_23_code 76 = .ok (.goto (-42), 3) := by decide +kernel
theorem d_M_stop_79 : decode prog_7_method_23_code 79 = .ok (.iload_n 2, 1) := by decide +kernel
theorem d_M_stop_80 : decode prog_7_method_23_code 80 = .ok (.ireturn, 1) := by decide +kernel
-- M_consent  FleetWavesModel.consent(IZ)I  prog_7_method_24_code maxL 4 ret (some .int) code
theorem d_M_consent_0 : decode prog_7_method_24_code 0 = .ok (.aload_n 0, 1) := by decide +kernel
theorem d_M_consent_1 : decode prog_7_method_24_code 1 = .ok (.iconst 0, 1) := by decide +kernel
theorem d_M_consent_2 : decode prog_7_method_24_code 2 = .ok (.putfield 69, 3) := by decide +kernel
theorem d_M_consent_5 : decode prog_7_method_24_code 5 = .ok (.aload_n 0, 1) := by decide +kernel
theorem d_M_consent_6 : decode prog_7_method_24_code 6 = .ok (.iload_n 1, 1) := by decide +kernel
theorem d_M_consent_7 : decode prog_7_method_24_code 7 = .ok (.invokevirtual 127, 3) := by decide +kernel
theorem d_M_consent_10 : decode prog_7_method_24_code 10 = .ok (.ifCond .eq 5, 3) := by decide +kernel
theorem d_M_consent_13 : decode prog_7_method_24_code 13 = .ok (.iconst (-1), 1) := by decide +kernel
theorem d_M_consent_14 : decode prog_7_method_24_code 14 = .ok (.ireturn, 1) := by decide +kernel
theorem d_M_consent_15 : decode prog_7_method_24_code 15 = .ok (.aload_n 0, 1) := by decide +kernel
theorem d_M_consent_16 : decode prog_7_method_24_code 16 = .ok (.getfield 17, 3) := by decide +kernel
theorem d_M_consent_19 : decode prog_7_method_24_code 19 = .ok (.iload_n 1, 1) := by decide +kernel
theorem d_M_consent_20 : decode prog_7_method_24_code 20 = .ok (.baload, 1) := by decide +kernel
theorem d_M_consent_21 : decode prog_7_method_24_code 21 = .ok (.iload_n 2, 1) := by decide +kernel
theorem d_M_consent_22 : decode prog_7_method_24_code 22 = .ok (.if_icmp .ne 7, 3) := by decide +kernel
theorem d_M_consent_25 : decode prog_7_method_24_code 25 = .ok (.iconst 1, 1) := by decide +kernel
theorem d_M_consent_26 : decode prog_7_method_24_code 26 = .ok (.goto 4, 3) := by decide +kernel
theorem d_M_consent_29 : decode prog_7_method_24_code 29 = .ok (.iconst 0, 1) := by decide +kernel
theorem d_M_consent_30 : decode prog_7_method_24_code 30 = .ok (.istore_n 3, 1) := by decide +kernel
theorem d_M_consent_31 : decode prog_7_method_24_code 31 = .ok (.aload_n 0, 1) := by decide +kernel
theorem d_M_consent_32 : decode prog_7_method_24_code 32 = .ok (.getfield 17, 3) := by decide +kernel
theorem d_M_consent_35 : decode prog_7_method_24_code 35 = .ok (.iload_n 1, 1) := by decide +kernel
theorem d_M_consent_36 : decode prog_7_method_24_code 36 = .ok (.iload_n 2, 1) := by decide +kernel
theorem d_M_consent_37 : decode prog_7_method_24_code 37 = .ok (.ifCond .ne 7, 3) := by decide +kernel
theorem d_M_consent_40 : decode prog_7_method_24_code 40 = .ok (.iconst 1, 1) := by decide +kernel
theorem d_M_consent_41 : decode prog_7_method_24_code 41 = .ok (.goto 4, 3) := by decide +kernel
theorem d_M_consent_44 : decode prog_7_method_24_code 44 = .ok (.iconst 0, 1) := by decide +kernel
theorem d_M_consent_45 : decode prog_7_method_24_code 45 = .ok (.bastore, 1) := by decide +kernel
theorem d_M_consent_46 : decode prog_7_method_24_code 46 = .ok (.iload_n 3, 1) := by decide +kernel
theorem d_M_consent_47 : decode prog_7_method_24_code 47 = .ok (.ireturn, 1) := by decide +kernel
-- M_failed  FleetWavesModel.failed(I)I  prog_7_method_25_code maxL 4 ret (some .int) code
theorem d_M_failed_0 : decode prog_7_method_25_code 0 = .ok (.aload_n 0, 1) := by decide +kernel
theorem d_M_failed_1 : decode prog_7_method_25_code 1 = .ok (.iconst 0, 1) := by decide +kernel
theorem d_M_failed_2 : decode prog_7_method_25_code 2 = .ok (.putfield 69, 3) := by decide +kernel
theorem d_M_failed_5 : decode prog_7_method_25_code 5 = .ok (.aload_n 0, 1) := by decide +kernel
theorem d_M_failed_6 : decode prog_7_method_25_code 6 = .ok (.iload_n 1, 1) := by decide +kernel
theorem d_M_failed_7 : decode prog_7_method_25_code 7 = .ok (.invokevirtual 127, 3) := by decide +kernel
theorem d_M_failed_10 : decode prog_7_method_25_code 10 = .ok (.ifCond .eq 5, 3) := by decide +kernel
theorem d_M_failed_13 : decode prog_7_method_25_code 13 = .ok (.iconst (-1), 1) := by decide +kernel
theorem d_M_failed_14 : decode prog_7_method_25_code 14 = .ok (.ireturn, 1) := by decide +kernel
theorem d_M_failed_15 : decode prog_7_method_25_code 15 = .ok (.iconst 0, 1) := by decide +kernel
theorem d_M_failed_16 : decode prog_7_method_25_code 16 = .ok (.istore_n 2, 1) := by decide +kernel
theorem d_M_failed_17 : decode prog_7_method_25_code 17 = .ok (.iconst 1, 1) := by decide +kernel
theorem d_M_failed_18 : decode prog_7_method_25_code 18 = .ok (.istore_n 3, 1) := by decide +kernel
theorem d_M_failed_19 : decode prog_7_method_25_code 19 = .ok (.iload_n 3, 1) := by decide +kernel
theorem d_M_failed_20 : decode prog_7_method_25_code 20 = .ok (.aload_n 0, 1) := by decide +kernel
theorem d_M_failed_21 : decode prog_7_method_25_code 21 = .ok (.getfield 76, 3) := by decide +kernel
theorem d_M_failed_24 : decode prog_7_method_25_code 24 = .ok (.if_icmp .gt 32, 3) := by decide +kernel
theorem d_M_failed_27 : decode prog_7_method_25_code 27 = .ok (.aload_n 0, 1) := by decide +kernel
theorem d_M_failed_28 : decode prog_7_method_25_code 28 = .ok (.getfield 60, 3) := by decide +kernel
theorem d_M_failed_31 : decode prog_7_method_25_code 31 = .ok (.bipush 41, 2) := by decide +kernel
theorem d_M_failed_33 : decode prog_7_method_25_code 33 = .ok (.iload_n 1, 1) := by decide +kernel
theorem d_M_failed_34 : decode prog_7_method_25_code 34 = .ok (.imul, 1) := by decide +kernel
theorem d_M_failed_35 : decode prog_7_method_25_code 35 = .ok (.iload_n 3, 1) := by decide +kernel
theorem d_M_failed_36 : decode prog_7_method_25_code 36 = .ok (.iadd, 1) := by decide +kernel
theorem d_M_failed_37 : decode prog_7_method_25_code 37 = .ok (.iaload, 1) := by decide +kernel
theorem d_M_failed_38 : decode prog_7_method_25_code 38 = .ok (.iconst 1, 1) := by decide +kernel
theorem d_M_failed_39 : decode prog_7_method_25_code 39 = .ok (.if_icmp .le 9, 3) := by decide +kernel
theorem d_M_failed_42 : decode prog_7_method_25_code 42 = .ok (.iload_n 2, 1) := by decide +kernel
theorem d_M_failed_43 : decode prog_7_method_25_code 43 = .ok (.iconst 1, 1) := by decide +kernel
theorem d_M_failed_44 : decode prog_7_method_25_code 44 = .ok (.iadd, 1) := by decide +kernel
theorem d_M_failed_45 : decode prog_7_method_25_code 45 = .ok (.goto 4, 3) := by decide +kernel
theorem d_M_failed_48 : decode prog_7_method_25_code 48 = .ok (.iload_n 2, 1) := by decide +kernel
theorem d_M_failed_49 : decode prog_7_method_25_code 49 = .ok (.istore_n 2, 1) := by decide +kernel
theorem d_M_failed_50 : decode prog_7_method_25_code 50 = .ok (.iinc 3 1, 3) := by decide +kernel
theorem d_M_failed_53 : decode prog_7_method_25_code 53 = .ok (.goto (-34), 3) := by decide +kernel
theorem d_M_failed_56 : decode prog_7_method_25_code 56 = .ok (.iload_n 2, 1) := by decide +kernel
theorem d_M_failed_57 : decode prog_7_method_25_code 57 = .ok (.ireturn, 1) := by decide +kernel
-- M_in  FleetWavesModel.in(II)I  prog_7_method_26_code maxL 5 ret (some .int) code
theorem d_M_in_0 : decode prog_7_method_26_code 0 = .ok (.aload_n 0, 1) := by decide +kernel
theorem d_M_in_1 : decode prog_7_method_26_code 1 = .ok (.iload_n 1, 1) := by decide +kernel
theorem d_M_in_2 : decode prog_7_method_26_code 2 = .ok (.invokevirtual 96, 3) := by decide +kernel
theorem d_M_in_5 : decode prog_7_method_26_code 5 = .ok (.ifCond .ne 18, 3) := by decide +kernel
theorem d_M_in_8 : decode prog_7_method_26_code 8 = .ok (.iload_n 2, 1) := by decide +kernel
theorem d_M_in_9 : decode prog_7_method_26_code 9 = .ok (.iconst 1, 1) := by decide +kernel
theorem d_M_in_10 : decode prog_7_method_26_code 10 = .ok (.if_icmp .lt 13, 3) := by decide +kernel
theorem d_M_in_13 : decode prog_7_method_26_code 13 = .ok (.iload_n 2, 1) := by decide +kernel
theorem d_M_in_14 : decode prog_7_method_26_code 14 = .ok (.aload_n 0, 1) := by decide +kernel
theorem d_M_in_15 : decode prog_7_method_26_code 15 = .ok (.getfield 30, 3) := by decide +kernel
theorem d_M_in_18 : decode prog_7_method_26_code 18 = .ok (.iload_n 1, 1) := by decide +kernel
theorem d_M_in_19 : decode prog_7_method_26_code 19 = .ok (.iaload, 1) := by decide +kernel
theorem d_M_in_20 : decode prog_7_method_26_code 20 = .ok (.if_icmp .le 5, 3) := by decide +kernel
theorem d_M_in_23 : decode prog_7_method_26_code 23 = .ok (.iconst (-1), 1) := by decide +kernel
theorem d_M_in_24 : decode prog_7_method_26_code 24 = .ok (.ireturn, 1) := by decide +kernel
theorem d_M_in_25 : decode prog_7_method_26_code 25 = .ok (.iconst 0, 1) := by decide +kernel
theorem d_M_in_26 : decode prog_7_method_26_code 26 = .ok (.istore_n 3, 1) := by decide +kernel
theorem d_M_in_27 : decode prog_7_method_26_code 27 = .ok (.iconst 1, 1) := by decide +kernel
theorem d_M_in_28 : decode prog_7_method_26_code 28 = .ok (.istore 4, 2) := by decide +kernel
theorem d_M_in_30 : decode prog_7_method_26_code 30 = .ok (.iload 4, 2) := by decide +kernel
theorem d_M_in_32 : decode prog_7_method_26_code 32 = .ok (.aload_n 0, 1) := by decide +kernel
theorem d_M_in_33 : decode prog_7_method_26_code 33 = .ok (.getfield 73, 3) := by decide +kernel
theorem d_M_in_36 : decode prog_7_method_26_code 36 = .ok (.if_icmp .gt 38, 3) := by decide +kernel
theorem d_M_in_39 : decode prog_7_method_26_code 39 = .ok (.aload_n 0, 1) := by decide +kernel
theorem d_M_in_40 : decode prog_7_method_26_code 40 = .ok (.iload_n 1, 1) := by decide +kernel
theorem d_M_in_41 : decode prog_7_method_26_code 41 = .ok (.iload 4, 2) := by decide +kernel
theorem d_M_in_43 : decode prog_7_method_26_code 43 = .ok (.invokevirtual 118, 3) := by decide +kernel
theorem d_M_in_46 : decode prog_7_method_26_code 46 = .ok (.ifCond .eq 20, 3) := by decide +kernel
theorem d_M_in_49 : decode prog_7_method_26_code 49 = .ok (.aload_n 0, 1) := by decide +kernel
theorem d_M_in_50 : decode prog_7_method_26_code 50 = .ok (.iload_n 1, 1) := by decide +kernel
theorem d_M_in_51 : decode prog_7_method_26_code 51 = .ok (.iload_n 2, 1) := by decide +kernel
theorem d_M_in_52 : decode prog_7_method_26_code 52 = .ok (.iload 4, 2) := by decide +kernel
theorem d_M_in_54 : decode prog_7_method_26_code 54 = .ok (.invokevirtual 114, 3) := by decide +kernel
theorem d_M_in_57 : decode prog_7_method_26_code 57 = .ok (.ifCond .eq 9, 3) := by decide +kernel
theorem d_M_in_60 : decode prog_7_method_26_code 60 = .ok (.iload_n 3, 1) := by decide +kernel
theorem d_M_in_61 : decode prog_7_method_26_code 61 = .ok (.iconst 1, 1) := by decide +kernel
theorem d_M_in_62 : decode prog_7_method_26_code 62 = .ok (.iadd, 1) := by decide +kernel
theorem d_M_in_63 : decode prog_7_method_26_code 63 = .ok (.goto 4, 3) := by decide +kernel
theorem d_M_in_66 : decode prog_7_method_26_code 66 = .ok (.iload_n 3, 1) := by decide +kernel
theorem d_M_in_67 : decode prog_7_method_26_code 67 = .ok (.istore_n 3, 1) := by decide +kernel
theorem d_M_in_68 : decode prog_7_method_26_code 68 = .ok (.iinc 4 1, 3) := by decide +kernel
theorem d_M_in_71 : decode prog_7_method_26_code 71 = .ok (.goto (-41), 3) := by decide +kernel
theorem d_M_in_74 : decode prog_7_method_26_code 74 = .ok (.iload_n 3, 1) := by decide +kernel
theorem d_M_in_75 : decode prog_7_method_26_code 75 = .ok (.ireturn, 1) := by decide +kernel
-- M_order  FleetWavesModel.order(II)I  prog_7_method_27_code maxL 6 ret (some .int) code
theorem d_M_order_0 : decode prog_7_method_27_code 0 = .ok (.aload_n 0, 1) := by decide +kernel
theorem d_M_order_1 : decode prog_7_method_27_code 1 = .ok (.iload_n 1, 1) := by decide +kernel
theorem d_M_order_2 : decode prog_7_method_27_code 2 = .ok (.invokevirtual 96, 3) := by decide +kernel
theorem d_M_order_5 : decode prog_7_method_27_code 5 = .ok (.ifCond .ne 11, 3) := by decide +kernel
theorem d_M_order_8 : decode prog_7_method_27_code 8 = .ok (.aload_n 0, 1) := by decide +kernel
theorem d_M_order_9 : decode prog_7_method_27_code 9 = .ok (.iload_n 2, 1) := by decide +kernel
theorem d_M_order_10 : decode prog_7_method_27_code 10 = .ok (.invokevirtual 96, 3) := by decide +kernel
theorem d_M_order_13 : decode prog_7_method_27_code 13 = .ok (.ifCond .eq 5, 3) := by decide +kernel
theorem d_M_order_16 : decode prog_7_method_27_code 16 = .ok (.iconst (-1), 1) := by decide +kernel
theorem d_M_order_17 : decode prog_7_method_27_code 17 = .ok (.ireturn, 1) := by decide +kernel
theorem d_M_order_18 : decode prog_7_method_27_code 18 = .ok (.iload_n 1, 1) := by decide +kernel
theorem d_M_order_19 : decode prog_7_method_27_code 19 = .ok (.iload_n 2, 1) := by decide +kernel
theorem d_M_order_20 : decode prog_7_method_27_code 20 = .ok (.if_icmp .ne 6, 3) := by decide +kernel
theorem d_M_order_23 : decode prog_7_method_27_code 23 = .ok (.bipush (-2), 2) := by decide +kernel
theorem d_M_order_25 : decode prog_7_method_27_code 25 = .ok (.ireturn, 1) := by decide +kernel
theorem d_M_order_26 : decode prog_7_method_27_code 26 = .ok (.iconst 0, 1) := by decide +kernel
theorem d_M_order_27 : decode prog_7_method_27_code 27 = .ok (.istore_n 3, 1) := by decide +kernel
theorem d_M_order_28 : decode prog_7_method_27_code 28 = .ok (.iload_n 3, 1) := by decide +kernel
theorem d_M_order_29 : decode prog_7_method_27_code 29 = .ok (.bipush 41, 2) := by decide +kernel
theorem d_M_order_31 : decode prog_7_method_27_code 31 = .ok (.if_icmp .ge 25, 3) := by decide +kernel
theorem d_M_order_34 : decode prog_7_method_27_code 34 = .ok (.aload_n 0, 1) := by decide +kernel
theorem d_M_order_35 : decode prog_7_method_27_code 35 = .ok (.getfield 57, 3) := by decide +kernel
theorem d_M_order_38 : decode prog_7_method_27_code 38 = .ok (.iload_n 3, 1) := by decide +kernel
theorem d_M_order_39 : decode prog_7_method_27_code 39 = .ok (.iload_n 3, 1) := by decide +kernel
theorem d_M_order_40 : decode prog_7_method_27_code 40 = .ok (.iload_n 1, 1) := by decide +kernel
theorem d_M_order_41 : decode prog_7_method_27_code 41 = .ok (.if_icmp .ne 7, 3) := by decide +kernel
theorem d_M_order_44 : decode prog_7_method_27_code 44 = .ok (.iconst 1, 1) := by decide +kernel
theorem d_M_order_45 : decode prog_7_method_27_code 45 = .ok (.goto 4, 3) := by decide +kernel
theorem d_M_order_48 : decode prog_7_method_27_code 48 = .ok (.iconst 0, 1) := by decide +kernel
theorem d_M_order_49 : decode prog_7_method_27_code 49 = .ok (.bastore, 1) := by decide +kernel
theorem d_M_order_50 : decode prog_7_method_27_code 50 = .ok (.iinc 3 1, 3) := by decide +kernel
theorem d_M_order_53 : decode prog_7_method_27_code 53 = .ok (.goto (-25), 3) := by decide +kernel
theorem d_M_order_56 : decode prog_7_method_27_code 56 = .ok (.iconst 1, 1) := by decide +kernel
theorem d_M_order_57 : decode prog_7_method_27_code 57 = .ok (.istore_n 3, 1) := by decide +kernel
theorem d_M_order_58 : decode prog_7_method_27_code 58 = .ok (.iload_n 3, 1) := by decide +kernel
theorem d_M_order_59 : decode prog_7_method_27_code 59 = .ok (.ifCond .eq 85, 3) := by decide +kernel
theorem d_M_order_62 : decode prog_7_method_27_code 62 = .ok (.iconst 0, 1) := by decide +kernel
theorem d_M_order_63 : decode prog_7_method_27_code 63 = .ok (.istore_n 3, 1) := by decide +kernel
theorem d_M_order_64 : decode prog_7_method_27_code 64 = .ok (.iconst 1, 1) := by decide +kernel
theorem d_M_order_65 : decode prog_7_method_27_code 65 = .ok (.istore 4, 2) := by decide +kernel
theorem d_M_order_67 : decode prog_7_method_27_code 67 = .ok (.iload 4, 2) := by decide +kernel
theorem d_M_order_69 : decode prog_7_method_27_code 69 = .ok (.aload_n 0, 1) := by decide +kernel
theorem d_M_order_70 : decode prog_7_method_27_code 70 = .ok (.getfield 76, 3) := by decide +kernel
theorem d_M_order_73 : decode prog_7_method_27_code 73 = .ok (.if_icmp .gt 68, 3) := by decide +kernel
theorem d_M_order_76 : decode prog_7_method_27_code 76 = .ok (.iconst 1, 1) := by decide +kernel
theorem d_M_order_77 : decode prog_7_method_27_code 77 = .ok (.istore 5, 2) := by decide +kernel
theorem d_M_order_79 : decode prog_7_method_27_code 79 = .ok (.iload 5, 2) := by decide +kernel
theorem d_M_order_81 : decode prog_7_method_27_code 81 = .ok (.aload_n 0, 1) := by decide +kernel
theorem d_M_order_82 : decode prog_7_method_27_code 82 = .ok (.getfield 76, 3) := by decide +kernel
theorem d_M_order_85 : decode prog_7_method_27_code 85 = .ok (.if_icmp .gt 50, 3) := by decide +kernel
theorem d_M_order_88 : decode prog_7_method_27_code 88 = .ok (.aload_n 0, 1) := by decide +kernel
theorem d_M_order_89 : decode prog_7_method_27_code 89 = .ok (.getfield 57, 3) := by decide +kernel
theorem d_M_order_92 : decode prog_7_method_27_code 92 = .ok (.iload 4, 2) := by decide +kernel
theorem d_M_order_94 : decode prog_7_method_27_code 94 = .ok (.baload, 1) := by decide +kernel
theorem d_M_order_95 : decode prog_7_method_27_code 95 = .ok (.ifCond .eq 34, 3) := by decide +kernel
theorem d_M_order_98 : decode prog_7_method_27_code 98 = .ok (.aload_n 0, 1) := by decide +kernel
theorem d_M_order_99 : decode prog_7_method_27_code 99 = .ok (.getfield 57, 3) := by decide +kernel
theorem d_M_order_102 : decode prog_7_method_27_code 102 = .ok (.iload 5, 2) := by decide +kernel
theorem d_M_order_104 : decode prog_7_method_27_code 104 = .ok (.baload, 1) := by decide +kernel
theorem d_M_order_105 : decode prog_7_method_27_code 105 = .ok (.ifCond .ne 24, 3) := by decide +kernel
theorem d_M_order_108 : decode prog_7_method_27_code 108 = .ok (.aload_n 0, 1) := by decide +kernel
theorem d_M_order_109 : decode prog_7_method_27_code 109 = .ok (.iload 4, 2) := by decide +kernel
theorem d_M_order_111 : decode prog_7_method_27_code 111 = .ok (.iload 5, 2) := by decide +kernel
theorem d_M_order_113 : decode prog_7_method_27_code 113 = .ok (.invokevirtual 124, 3) := by decide +kernel
theorem d_M_order_116 : decode prog_7_method_27_code 116 = .ok (.ifCond .eq 13, 3) := by decide +kernel
theorem d_M_order_119 : decode prog_7_method_27_code 119 = .ok (.aload_n 0, 1) := by decide +kernel
theorem d_M_order_120 : decode prog_7_method_27_code 120 = .ok (.getfield 57, 3) := by decide +kernel
theorem d_M_order_123 : decode prog_7_method_27_code 123 = .ok (.iload 5, 2) := by decide +kernel
theorem d_M_order_125 : decode prog_7_method_27_code 125 = .ok (.iconst 1, 1) := by decide +kernel
theorem d_M_order_126 : decode prog_7_method_27_code 126 = .ok (.bastore, 1) := by decide +kernel
theorem d_M_order_127 : decode prog_7_method_27_code 127 = .ok (.iconst 1, 1) := by decide +kernel
theorem d_M_order_128 : decode prog_7_method_27_code 128 = .ok (.istore_n 3, 1) := by decide +kernel
theorem d_M_order_129 : decode prog_7_method_27_code 129 = .ok (.iinc 5 1, 3) := by decide +kernel
theorem d_M_order_132 : decode prog_7_method_27_code 132 = .ok (.goto (-53), 3) := by decide +kernel
theorem d_M_order_135 : decode prog_7_method_27_code 135 = .ok (.iinc 4 1, 3) := by decide +kernel
theorem d_M_order_138 : decode prog_7_method_27_code 138 = .ok (.goto (-71), 3) := by decide +kernel
theorem d_M_order_141 : decode prog_7_method_27_code 141 = .ok (.goto (-83), 3) := by decide +kernel
theorem d_M_order_144 : decode prog_7_method_27_code 144 = .ok (.aload_n 0, 1) := by decide +kernel
theorem d_M_order_145 : decode prog_7_method_27_code 145 = .ok (.getfield 57, 3) := by decide +kernel
theorem d_M_order_148 : decode prog_7_method_27_code 148 = .ok (.iload_n 2, 1) := by decide +kernel
theorem d_M_order_149 : decode prog_7_method_27_code 149 = .ok (.baload, 1) := by decide +kernel
theorem d_M_order_150 : decode prog_7_method_27_code 150 = .ok (.ifCond .eq 5, 3) := by decide +kernel
theorem d_M_order_153 : decode prog_7_method_27_code 153 = .ok (.iconst 0, 1) := by decide +kernel
theorem d_M_order_154 : decode prog_7_method_27_code 154 = .ok (.ireturn, 1) := by decide +kernel
theorem d_M_order_155 : decode prog_7_method_27_code 155 = .ok (.aload_n 0, 1) := by decide +kernel
theorem d_M_order_156 : decode prog_7_method_27_code 156 = .ok (.getfield 54, 3) := by decide +kernel
theorem d_M_order_159 : decode prog_7_method_27_code 159 = .ok (.bipush 41, 2) := by decide +kernel
theorem d_M_order_161 : decode prog_7_method_27_code 161 = .ok (.iload_n 1, 1) := by decide +kernel
theorem d_M_order_162 : decode prog_7_method_27_code 162 = .ok (.imul, 1) := by decide +kernel
theorem d_M_order_163 : decode prog_7_method_27_code 163 = .ok (.iload_n 2, 1) := by decide +kernel
theorem d_M_order_164 : decode prog_7_method_27_code 164 = .ok (.iadd, 1) := by decide +kernel
theorem d_M_order_165 : decode prog_7_method_27_code 165 = .ok (.iconst 1, 1) := by decide +kernel
theorem d_M_order_166 : decode prog_7_method_27_code 166 = .ok (.bastore, 1) := by decide +kernel
theorem d_M_order_167 : decode prog_7_method_27_code 167 = .ok (.iconst 1, 1) := by decide +kernel
theorem d_M_order_168 : decode prog_7_method_27_code 168 = .ok (.ireturn, 1) := by decide +kernel
