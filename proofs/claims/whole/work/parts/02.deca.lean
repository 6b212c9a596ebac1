-- F_init  FleetWaves.<init>()V  prog_1_method_1_code maxL 1 ret none code
theorem d_F_init_0 : decode prog_1_method_1_code 0 = .ok (.aload_n 0, 1) := by decide +kernel
theorem d_F_init_1 : decode prog_1_method_1_code 1 = .ok (.invokespecial 1, 3) := by decide +kernel
theorem d_F_init_4 : decode prog_1_method_1_code 4 = .ok (.aload_n 0, 1) := by decide +kernel
theorem d_F_init_5 : decode prog_1_method_1_code 5 = .ok (.new 7, 3) := by decide +kernel
theorem d_F_init_8 : decode prog_1_method_1_code 8 = .ok (.dup, 1) := by decide +kernel
theorem d_F_init_9 : decode prog_1_method_1_code 9 = .ok (.invokespecial 9, 3) := by decide +kernel
theorem d_F_init_12 : decode prog_1_method_1_code 12 = .ok (.putfield 10, 3) := by decide +kernel
theorem d_F_init_15 : decode prog_1_method_1_code 15 = .ok (.aload_n 0, 1) := by decide +kernel
theorem d_F_init_16 : decode prog_1_method_1_code 16 = .ok (.new 7, 3) := by decide +kernel
theorem d_F_init_19 : decode prog_1_method_1_code 19 = .ok (.dup, 1) := by decide +kernel
theorem d_F_init_20 : decode prog_1_method_1_code 20 = .ok (.invokespecial 9, 3) := by decide +kernel
theorem d_F_init_23 : decode prog_1_method_1_code 23 = .ok (.putfield 16, 3) := by decide +kernel
theorem d_F_init_26 : decode prog_1_method_1_code 26 = .ok (.return_, 1) := by decide +kernel
-- O_init  java/lang/Object.<init>()V  object_method_1_code maxL 1 ret none code
theorem d_O_init_0 : decode object_method_1_code 0 = .ok (.return_, 1) := by decide +kernel
-- A_init  java/util/ArrayList.<init>()V  prog_20_method_2_code maxL 1 ret none code
theorem d_A_init_0 : decode prog_20_method_2_code 0 = .ok (.aload_n 0, 1) := by decide +kernel
theorem d_A_init_1 : decode prog_20_method_2_code 1 = .ok (.invokespecial 1, 3) := by decide +kernel
theorem d_A_init_4 : decode prog_20_method_2_code 4 = .ok (.aload_n 0, 1) := by decide +kernel
theorem d_A_init_5 : decode prog_20_method_2_code 5 = .ok (.getstatic 39, 3) := by decide +kernel
theorem d_A_init_8 : decode prog_20_method_2_code 8 = .ok (.putfield 9, 3) := by decide +kernel
theorem d_A_init_11 : decode prog_20_method_2_code 11 = .ok (.return_, 1) := by decide +kernel
-- AL_init  java/util/AbstractList.<init>()V  prog_19_method_1_code maxL 1 ret none code
theorem d_AL_init_0 : decode prog_19_method_1_code 0 = .ok (.aload_n 0, 1) := by decide +kernel
theorem d_AL_init_1 : decode prog_19_method_1_code 1 = .ok (.invokespecial 1, 3) := by decide +kernel
theorem d_AL_init_4 : decode prog_19_method_1_code 4 = .ok (.aload_n 0, 1) := by decide +kernel
theorem d_AL_init_5 : decode prog_19_method_1_code 5 = .ok (.iconst 0, 1) := by decide +kernel
theorem d_AL_init_6 : decode prog_19_method_1_code 6 = .ok (.putfield 7, 3) := by decide +kernel
theorem d_AL_init_9 : decode prog_19_method_1_code 9 = .ok (.return_, 1) := by decide +kernel
-- AC_init  java/util/AbstractCollection.<init>()V  prog_18_method_1_code maxL 1 ret none code
theorem d_AC_init_0 : decode prog_18_method_1_code 0 = .ok (.aload_n 0, 1) := by decide +kernel
theorem d_AC_init_1 : decode prog_18_method_1_code 1 = .ok (.invokespecial 1, 3) := by decide +kernel
theorem d_AC_init_4 : decode prog_18_method_1_code 4 = .ok (.return_, 1) := by decide +kernel
-- F_car  FleetWaves.car(JI)I  prog_1_method_2_code maxL 4 ret (some .int) code
theorem d_F_car_0 : decode prog_1_method_2_code 0 = .ok (.lload_n 1, 1) := by decide +kernel
theorem d_F_car_1 : decode prog_1_method_2_code 1 = .ok (.lconst 1, 1) := by decide +kernel
theorem d_F_car_2 : decode prog_1_method_2_code 2 = .ok (.lcmp, 1) := by decide +kernel
theorem d_F_car_3 : decode prog_1_method_2_code 3 = .ok (.ifCond .lt 14, 3) := by decide +kernel
theorem d_F_car_6 : decode prog_1_method_2_code 6 = .ok (.iload_n 3, 1) := by decide +kernel
theorem d_F_car_7 : decode prog_1_method_2_code 7 = .ok (.ifCond .lt 10, 3) := by decide +kernel
theorem d_F_car_10 : decode prog_1_method_2_code 10 = .ok (.iload_n 3, 1) := by decide +kernel
theorem d_F_car_11 : decode prog_1_method_2_code 11 = .ok (.sipush 1000, 3) := by decide +kernel
theorem d_F_car_14 : decode prog_1_method_2_code 14 = .ok (.if_icmp .le 6, 3) := by decide +kernel
theorem d_F_car_17 : decode prog_1_method_2_code 17 = .ok (.bipush (-2), 2) := by decide +kernel
theorem d_F_car_19 : decode prog_1_method_2_code 19 = .ok (.ireturn, 1) := by decide +kernel
theorem d_F_car_20 : decode prog_1_method_2_code 20 = .ok (.aload_n 0, 1) := by decide +kernel
theorem d_F_car_21 : decode prog_1_method_2_code 21 = .ok (.lload_n 1, 1) := by decide +kernel
theorem d_F_car_22 : decode prog_1_method_2_code 22 = .ok (.invokevirtual 19, 3) := by decide +kernel
theorem d_F_car_25 : decode prog_1_method_2_code 25 = .ok (.ifCond .eq 6, 3) := by decide +kernel
theorem d_F_car_28 : decode prog_1_method_2_code 28 = .ok (.bipush (-3), 2) := by decide +kernel
theorem d_F_car_30 : decode prog_1_method_2_code 30 = .ok (.ireturn, 1) := by decide +kernel
theorem d_F_car_31 : decode prog_1_method_2_code 31 = .ok (.aload_n 0, 1) := by decide +kernel
theorem d_F_car_32 : decode prog_1_method_2_code 32 = .ok (.getfield 10, 3) := by decide +kernel
theorem d_F_car_35 : decode prog_1_method_2_code 35 = .ok (.invokevirtual 23, 3) := by decide +kernel
theorem d_F_car_38 : decode prog_1_method_2_code 38 = .ok (.sipush 500, 3) := by decide +kernel
theorem d_F_car_41 : decode prog_1_method_2_code 41 = .ok (.if_icmp .lt 6, 3) := by decide +kernel
theorem d_F_car_44 : decode prog_1_method_2_code 44 = .ok (.bipush (-4), 2) := by decide +kernel
theorem d_F_car_46 : decode prog_1_method_2_code 46 = .ok (.ireturn, 1) := by decide +kernel
theorem d_F_car_47 : decode prog_1_method_2_code 47 = .ok (.aload_n 0, 1) := by decide +kernel
theorem d_F_car_48 : decode prog_1_method_2_code 48 = .ok (.getfield 10, 3) := by decide +kernel
theorem d_F_car_51 : decode prog_1_method_2_code 51 = .ok (.new 27, 3) := by decide +kernel
theorem d_F_car_54 : decode prog_1_method_2_code 54 = .ok (.dup, 1) := by decide +kernel
theorem d_F_car_55 : decode prog_1_method_2_code 55 = .ok (.lload_n 1, 1) := by decide +kernel
theorem d_F_car_56 : decode prog_1_method_2_code 56 = .ok (.iload_n 3, 1) := by decide +kernel
theorem d_F_car_57 : decode prog_1_method_2_code 57 = .ok (.invokespecial 29, 3) := by decide +kernel
theorem d_F_car_60 : decode prog_1_method_2_code 60 = .ok (.invokevirtual 32, 3) := by decide +kernel
theorem d_F_car_63 : decode prog_1_method_2_code 63 = .ok (.pop, 1) := by decide +kernel
theorem d_F_car_64 : decode prog_1_method_2_code 64 = .ok (.aload_n 0, 1) := by decide +kernel
theorem d_F_car_65 : decode prog_1_method_2_code 65 = .ok (.getfield 10, 3) := by decide +kernel
theorem d_F_car_68 : decode prog_1_method_2_code 68 = .ok (.invokevirtual 23, 3) := by decide +kernel
theorem d_F_car_71 : decode prog_1_method_2_code 71 = .ok (.ireturn, 1) := by decide +kernel
-- F_hasCarOfNumber  FleetWaves.hasCarOfNumber(J)Z  prog_1_method_17_code maxL 4 ret (some .boolean) code
theorem d_F_hasCarOfNumber_0 : decode prog_1_method_17_code 0 = .ok (.iconst 0, 1) := by decide +kernel
theorem d_F_hasCarOfNumber_1 : decode prog_1_method_17_code 1 = .ok (.istore_n 3, 1) := by decide +kernel
theorem d_F_hasCarOfNumber_2 : decode prog_1_method_17_code 2 = .ok (.iload_n 3, 1) := by decide +kernel
theorem d_F_hasCarOfNumber_3 : decode prog_1_method_17_code 3 = .ok (.aload_n 0, 1) := by decide +kernel
theorem d_F_hasCarOfNumber_4 : decode prog_1_method_17_code 4 = .ok (.getfield 10, 3) := by decide +kernel
theorem d_F_hasCarOfNumber_7 : decode prog_1_method_17_code 7 = .ok (.invokevirtual 23, 3) := by decide +kernel
theorem d_F_hasCarOfNumber_10 : decode prog_1_method_17_code 10 = .ok (.if_icmp .ge 30, 3) := by decide +kernel
theorem d_F_hasCarOfNumber_13 : decode prog_1_method_17_code 13 = .ok (.aload_n 0, 1) := by decide +kernel
theorem d_F_hasCarOfNumber_14 : decode prog_1_method_17_code 14 = .ok (.getfield 10, 3) := by decide +kernel
theorem d_F_hasCarOfNumber_17 : decode prog_1_method_17_code 17 = .ok (.iload_n 3, 1) := by decide +kernel
theorem d_F_hasCarOfNumber_18 : decode prog_1_method_17_code 18 = .ok (.invokevirtual 149, 3) := by decide +kernel
theorem d_F_hasCarOfNumber_21 : decode prog_1_method_17_code 21 = .ok (.checkcast 27, 3) := by decide +kernel
theorem d_F_hasCarOfNumber_24 : decode prog_1_method_17_code 24 = .ok (.getfield 179, 3) := by decide +kernel
theorem d_F_hasCarOfNumber_27 : decode prog_1_method_17_code 27 = .ok (.lload_n 1, 1) := by decide +kernel
theorem d_F_hasCarOfNumber_28 : decode prog_1_method_17_code 28 = .ok (.lcmp, 1) := by decide +kernel
theorem d_F_hasCarOfNumber_29 : decode prog_1_method_17_code 29 = .ok (.ifCond .ne 5, 3) := by decide +kernel
theorem d_F_hasCarOfNumber_32 : decode prog_1_method_17_code 32 = .ok (.iconst 1, 1) := by decide +kernel
theorem d_F_hasCarOfNumber_33 : decode prog_1_method_17_code 33 = .ok (.ireturn, 1) := by decide +kernel
theorem d_F_hasCarOfNumber_34 : decode prog_1_method_17_code 34 = .ok (.iinc 3 1, 3) := by decide +kernel
theorem d_F_hasCarOfNumber_37 : decode prog_1_method_17_code 37 = .ok (.goto (-35), 3) := by decide +kernel
theorem d_F_hasCarOfNumber_40 : decode prog_1_method_17_code 40 = .ok (.iconst 0, 1) := by decide +kernel
theorem d_F_hasCarOfNumber_41 : decode prog_1_method_17_code 41 = .ok (.ireturn, 1) := by decide +kernel
-- A_size  java/util/ArrayList.size()I  prog_20_method_8_code maxL 1 ret (some .int) code
theorem d_A_size_0 : decode prog_20_method_8_code 0 = .ok (.aload_n 0, 1) := by decide +kernel
theorem d_A_size_1 : decode prog_20_method_8_code 1 = .ok (.getfield 48, 3) := by decide +kernel
theorem d_A_size_4 : decode prog_20_method_8_code 4 = .ok (.ireturn, 1) := by decide +kernel
-- A_get  java/util/ArrayList.get(I)Ljava/lang/Object;  prog_20_method_20_code maxL 2 ret (some (.object "java/lang/Object")) code
theorem d_A_get_0 : decode prog_20_method_20_code 0 = .ok (.iload_n 1, 1) := by decide +kernel
theorem d_A_get_1 : decode prog_20_method_20_code 1 = .ok (.aload_n 0, 1) := by decide +kernel
theorem d_A_get_2 : decode prog_20_method_20_code 2 = .ok (.getfield 48, 3) := by decide +kernel
theorem d_A_get_5 : decode prog_20_method_20_code 5 = .ok (.invokestatic 118, 3) := by decide +kernel
theorem d_A_get_8 : decode prog_20_method_20_code 8 = .ok (.pop, 1) := by decide +kernel
theorem d_A_get_9 : decode prog_20_method_20_code 9 = .ok (.aload_n 0, 1) := by decide +kernel
theorem d_A_get_10 : decode prog_20_method_20_code 10 = .ok (.iload_n 1, 1) := by decide +kernel
theorem d_A_get_11 : decode prog_20_method_20_code 11 = .ok (.invokevirtual 123, 3) := by decide +kernel
theorem d_A_get_14 : decode prog_20_method_20_code 14 = .ok (.areturn, 1) := by decide +kernel
-- JO_checkIndex  java/util/Objects.checkIndex(II)I  prog_24_method_17_code maxL 2 ret (some .int) code
theorem d_JO_checkIndex_0 : decode prog_24_method_17_code 0 = .ok (.iload_n 0, 1) := by decide +kernel
theorem d_JO_checkIndex_1 : decode prog_24_method_17_code 1 = .ok (.iload_n 1, 1) := by decide +kernel
theorem d_JO_checkIndex_2 : decode prog_24_method_17_code 2 = .ok (.aconst_null, 1) := by decide +kernel
theorem d_JO_checkIndex_3 : decode prog_24_method_17_code 3 = .ok (.invokestatic 105, 3) := by decide +kernel
theorem d_JO_checkIndex_6 : decode prog_24_method_17_code 6 = .ok (.ireturn, 1) := by decide +kernel
-- JP_checkIndex  jdk/internal/util/Preconditions.checkIndex(IILjava/util/function/BiFunction;)I  prog_28_method_11_code maxL 3 ret (some .int) code
theorem d_JP_checkIndex_0 : decode prog_28_method_11_code 0 = .ok (.iload_n 0, 1) := by decide +kernel
theorem d_JP_checkIndex_1 : decode prog_28_method_11_code 1 = .ok (.ifCond .lt 8, 3) := by decide +kernel
theorem d_JP_checkIndex_4 : decode prog_28_method_11_code 4 = .ok (.iload_n 0, 1) := by decide +kernel
theorem d_JP_checkIndex_5 : decode prog_28_method_11_code 5 = .ok (.iload_n 1, 1) := by decide +kernel
theorem d_JP_checkIndex_6 : decode prog_28_method_11_code 6 = .ok (.if_icmp .lt 10, 3) := by decide +kernel
theorem d_JP_checkIndex_9 : decode prog_28_method_11_code 9 = .ok (.aload_n 2, 1) := by decide +kernel
theorem d_JP_checkIndex_10 : decode prog_28_method_11_code 10 = .ok (.iload_n 0, 1) := by decide +kernel
theorem d_JP_checkIndex_11 : decode prog_28_method_11_code 11 = .ok (.iload_n 1, 1) := by decide +kernel
theorem d_JP_checkIndex_12 : decode prog_28_method_11_code 12 = .ok (.invokestatic 95, 3) := by decide +kernel
theorem d_JP_checkIndex_15 : decode prog_28_method_11_code 15 = .ok (.athrow, 1) := by decide +kernel
theorem d_JP_checkIndex_16 : decode prog_28_method_11_code 16 = .ok (.iload_n 0, 1) := by decide +kernel
theorem d_JP_checkIndex_17 : decode prog_28_method_11_code 17 = .ok (.ireturn, 1) := by decide +kernel
-- A_elementData  java/util/ArrayList.elementData(I)Ljava/lang/Object;  prog_20_method_18_code maxL 2 ret (some (.object "java/lang/Object")) code
theorem d_A_elementData_0 : decode prog_20_method_18_code 0 = .ok (.aload_n 0, 1) := by decide +kernel
theorem d_A_elementData_1 : decode prog_20_method_18_code 1 = .ok (.getfield 9, 3) := by decide +kernel
theorem d_A_elementData_4 : decode prog_20_method_18_code 4 = .ok (.iload_n 1, 1) := by decide +kernel
theorem d_A_elementData_5 : decode prog_20_method_18_code 5 = .ok (.aaload, 1) := by decide +kernel
theorem d_A_elementData_6 : decode prog_20_method_18_code 6 = .ok (.areturn, 1) := by decide +kernel
-- C_init  FleetWaves$Car.<init>(JI)V  prog_3_method_1_code maxL 5 ret none code
theorem d_C_init_0 : decode prog_3_method_1_code 0 = .ok (.aload_n 0, 1) := by decide +kernel
theorem d_C_init_1 : decode prog_3_method_1_code 1 = .ok (.invokespecial 3, 3) := by decide +kernel
theorem d_C_init_4 : decode prog_3_method_1_code 4 = .ok (.aload_n 0, 1) := by decide +kernel
theorem d_C_init_5 : decode prog_3_method_1_code 5 = .ok (.bipush 8, 2) := by decide +kernel
theorem d_C_init_7 : decode prog_3_method_1_code 7 = .ok (.newarray .int, 2) := by decide +kernel
theorem d_C_init_9 : decode prog_3_method_1_code 9 = .ok (.putfield 9, 3) := by decide +kernel
theorem d_C_init_12 : decode prog_3_method_1_code 12 = .ok (.aload_n 0, 1) := by decide +kernel
theorem d_C_init_13 : decode prog_3_method_1_code 13 = .ok (.iconst 1, 1) := by decide +kernel
theorem d_C_init_14 : decode prog_3_method_1_code 14 = .ok (.putfield 15, 3) := by decide +kernel
theorem d_C_init_17 : decode prog_3_method_1_code 17 = .ok (.aload_n 0, 1) := by decide +kernel
theorem d_C_init_18 : decode prog_3_method_1_code 18 = .ok (.lload_n 1, 1) := by decide +kernel
theorem d_C_init_19 : decode prog_3_method_1_code 19 = .ok (.putfield 19, 3) := by decide +kernel
theorem d_C_init_22 : decode prog_3_method_1_code 22 = .ok (.iconst 0, 1) := by decide +kernel
theorem d_C_init_23 : decode prog_3_method_1_code 23 = .ok (.istore 4, 2) := by decide +kernel
theorem d_C_init_25 : decode prog_3_method_1_code 25 = .ok (.iload 4, 2) := by decide +kernel
theorem d_C_init_27 : decode prog_3_method_1_code 27 = .ok (.aload_n 0, 1) := by decide +kernel
theorem d_C_init_28 : decode prog_3_method_1_code 28 = .ok (.getfield 9, 3) := by decide +kernel
theorem d_C_init_31 : decode prog_3_method_1_code 31 = .ok (.arraylength, 1) := by decide +kernel
theorem d_C_init_32 : decode prog_3_method_1_code 32 = .ok (.if_icmp .ge 17, 3) := by decide +kernel
theorem d_C_init_35 : decode prog_3_method_1_code 35 = .ok (.aload_n 0, 1) := by decide +kernel
theorem d_C_init_36 : decode prog_3_method_1_code 36 = .ok (.getfield 9, 3) := by decide +kernel
theorem d_C_init_39 : decode prog_3_method_1_code 39 = .ok (.iload 4, 2) := by decide +kernel
theorem d_C_init_41 : decode prog_3_method_1_code 41 = .ok (.iload_n 3, 1) := by decide +kernel
theorem d_C_init_42 : decode prog_3_method_1_code 42 = .ok (.iastore, 1) := by decide +kernel
theorem d_C_init_43 : decode prog_3_method_1_code 43 = .ok (.iinc 4 1, 3) := by decide +kernel
theorem d_C_init_46 : decode prog_3_method_1_code 46 = .ok (.goto (-21), 3) := by decide +kernel
theorem d_C_init_49 : decode prog_3_method_1_code 49 = .ok (.return_, 1) := by decide +kernel
-- A_add  java/util/ArrayList.add(Ljava/lang/Object;)Z  prog_20_method_25_code maxL 2 ret (some .boolean) code
theorem d_A_add_0 : decode prog_20_method_25_code 0 = .ok (.aload_n 0, 1) := by decide +kernel
theorem d_A_add_1 : decode prog_20_method_25_code 1 = .ok (.dup, 1) := by decide +kernel
theorem d_A_add_2 : decode prog_20_method_25_code 2 = .ok (.getfield 63, 3) := by decide +kernel
theorem d_A_add_5 : decode prog_20_method_25_code 5 = .ok (.iconst 1, 1) := by decide +kernel
theorem d_A_add_6 : decode prog_20_method_25_code 6 = .ok (.iadd, 1) := by decide +kernel
theorem d_A_add_7 : decode prog_20_method_25_code 7 = .ok (.putfield 63, 3) := by decide +kernel
theorem d_A_add_10 : decode prog_20_method_25_code 10 = .ok (.aload_n 0, 1) := by decide +kernel
theorem d_A_add_11 : decode prog_20_method_25_code 11 = .ok (.aload_n 1, 1) := by decide +kernel
theorem d_A_add_12 : decode prog_20_method_25_code 12 = .ok (.aload_n 0, 1) := by decide +kernel
theorem d_A_add_13 : decode prog_20_method_25_code 13 = .ok (.getfield 9, 3) := by decide +kernel
theorem d_A_add_16 : decode prog_20_method_25_code 16 = .ok (.aload_n 0, 1) := by decide +kernel
theorem d_A_add_17 : decode prog_20_method_25_code 17 = .ok (.getfield 48, 3) := by decide +kernel
theorem d_A_add_20 : decode prog_20_method_25_code 20 = .ok (.invokevirtual 131, 3) := by decide +kernel
theorem d_A_add_23 : decode prog_20_method_25_code 23 = .ok (.iconst 1, 1) := by decide +kernel
theorem d_A_add_24 : decode prog_20_method_25_code 24 = .ok (.ireturn, 1) := by decide +kernel
-- A_add2  java/util/ArrayList.add(Ljava/lang/Object;[Ljava/lang/Object;I)V  prog_20_method_24_code maxL 4 ret none code
theorem d_A_add2_0 : decode prog_20_method_24_code 0 = .ok (.iload_n 3, 1) := by decide +kernel
theorem d_A_add2_1 : decode prog_20_method_24_code 1 = .ok (.aload_n 2, 1) := by decide +kernel
theorem d_A_add2_2 : decode prog_20_method_24_code 2 = .ok (.arraylength, 1) := by decide +kernel
theorem d_A_add2_3 : decode prog_20_method_24_code 3 = .ok (.if_icmp .ne 8, 3) := by decide +kernel
theorem d_A_add2_6 : decode prog_20_method_24_code 6 = .ok (.aload_n 0, 1) := by decide +kernel
theorem d_A_add2_7 : decode prog_20_method_24_code 7 = .ok (.invokevirtual 129, 3) := by decide +kernel
theorem d_A_add2_10 : decode prog_20_method_24_code 10 = .ok (.astore_n 2, 1) := by decide +kernel
theorem d_A_add2_11 : decode prog_20_method_24_code 11 = .ok (.aload_n 2, 1) := by decide +kernel
theorem d_A_add2_12 : decode prog_20_method_24_code 12 = .ok (.iload_n 3, 1) := by decide +kernel
theorem d_A_add2_13 : decode prog_20_method_24_code 13 = .ok (.aload_n 1, 1) := by decide +kernel
theorem d_A_add2_14 : decode prog_20_method_24_code 14 = .ok (.aastore, 1) := by decide +kernel
theorem d_A_add2_15 : decode prog_20_method_24_code 15 = .ok (.aload_n 0, 1) := by decide +kernel
theorem d_A_add2_16 : decode prog_20_method_24_code 16 = .ok (.iload_n 3, 1) := by decide +kernel
theorem d_A_add2_17 : decode prog_20_method_24_code 17 = .ok (.iconst 1, 1) := by decide +kernel
theorem d_A_add2_18 : decode prog_20_method_24_code 18 = .ok (.iadd, 1) := by decide +kernel
theorem d_A_add2_19 : decode prog_20_method_24_code 19 = .ok (.putfield 48, 3) := by decide +kernel
theorem d_A_add2_22 : decode prog_20_method_24_code 22 = .ok (.return_, 1) := by decide +kernel
-- A_grow  java/util/ArrayList.grow()[Ljava/lang/Object;  prog_20_method_7_code maxL 1 ret (some (.array (.object "java/lang/Object"))) code
theorem d_A_grow_0 : decode prog_20_method_7_code 0 = .ok (.aload_n 0, 1) := by decide +kernel
theorem d_A_grow_1 : decode prog_20_method_7_code 1 = .ok (.aload_n 0, 1) := by decide +kernel
theorem d_A_grow_2 : decode prog_20_method_7_code 2 = .ok (.getfield 48, 3) := by decide +kernel
theorem d_A_grow_5 : decode prog_20_method_7_code 5 = .ok (.iconst 1, 1) := by decide +kernel
theorem d_A_grow_6 : decode prog_20_method_7_code 6 = .ok (.iadd, 1) := by decide +kernel
theorem d_A_grow_7 : decode prog_20_method_7_code 7 = .ok (.invokevirtual 69, 3) := by decide +kernel
theorem d_A_grow_10 : decode prog_20_method_7_code 10 = .ok (.areturn, 1) := by decide +kernel
-- A_grow2  java/util/ArrayList.grow(I)[Ljava/lang/Object;  prog_20_method_6_code maxL 4 ret (some (.array (.object "java/lang/Object"))) code
theorem d_A_grow2_0 : decode prog_20_method_6_code 0 = .ok (.aload_n 0, 1) := by decide +kernel
theorem d_A_grow2_1 : decode prog_20_method_6_code 1 = .ok (.getfield 9, 3) := by decide +kernel
theorem d_A_grow2_4 : decode prog_20_method_6_code 4 = .ok (.arraylength, 1) := by decide +kernel
theorem d_A_grow2_5 : decode prog_20_method_6_code 5 = .ok (.istore_n 2, 1) := by decide +kernel
theorem d_A_grow2_6 : decode prog_20_method_6_code 6 = .ok (.iload_n 2, 1) := by decide +kernel
theorem d_A_grow2_7 : decode prog_20_method_6_code 7 = .ok (.ifCond .gt 13, 3) := by decide +kernel
theorem d_A_grow2_10 : decode prog_20_method_6_code 10 = .ok (.aload_n 0, 1) := by decide +kernel
theorem d_A_grow2_11 : decode prog_20_method_6_code 11 = .ok (.getfield 9, 3) := by decide +kernel
theorem d_A_grow2_14 : decode prog_20_method_6_code 14 = .ok (.getstatic 39, 3) := by decide +kernel
theorem d_A_grow2_17 : decode prog_20_method_6_code 17 = .ok (.if_acmp .eq 28, 3) := by decide +kernel
theorem d_A_grow2_20 : decode prog_20_method_6_code 20 = .ok (.iload_n 2, 1) := by decide +kernel
theorem d_A_grow2_21 : decode prog_20_method_6_code 21 = .ok (.iload_n 1, 1) := by decide +kernel
theorem d_A_grow2_22 : decode prog_20_method_6_code 22 = .ok (.iload_n 2, 1) := by decide +kernel
theorem d_A_grow2_23 : decode prog_20_method_6_code 23 = .ok (.isub, 1) := by decide +kernel
theorem d_A_grow2_24 : decode prog_20_method_6_code 24 = .ok (.iload_n 2, 1) := by decide +kernel
theorem d_A_grow2_25 : decode prog_20_method_6_code 25 = .ok (.iconst 1, 1) := by decide +kernel
theorem d_A_grow2_26 : decode prog_20_method_6_code 26 = .ok (.ishr, 1) := by decide +kernel
theorem d_A_grow2_27 : decode prog_20_method_6_code 27 = .ok (.invokestatic 73, 3) := by decide +kernel
theorem d_A_grow2_30 : decode prog_20_method_6_code 30 = .ok (.istore_n 3, 1) := by decide +kernel
theorem d_A_grow2_31 : decode prog_20_method_6_code 31 = .ok (.aload_n 0, 1) := by decide +kernel
theorem d_A_grow2_32 : decode prog_20_method_6_code 32 = .ok (.aload_n 0, 1) := by decide +kernel
theorem d_A_grow2_33 : decode prog_20_method_6_code 33 = .ok (.getfield 9, 3) := by decide +kernel
theorem d_A_grow2_36 : decode prog_20_method_6_code 36 = .ok (.iload_n 3, 1) := by decide +kernel
theorem d_A_grow2_37 : decode prog_20_method_6_code 37 = .ok (.invokestatic 66, 3) := by decide +kernel
theorem d_A_grow2_40 : decode prog_20_method_6_code 40 = .ok (.dup_x1, 1) := by decide +kernel
theorem d_A_grow2_41 : decode prog_20_method_6_code 41 = .ok (.putfield 9, 3) := by decide +kernel
theorem d_A_grow2_44 : decode prog_20_method_6_code 44 = .ok (.areturn, 1) := by decide +kernel
theorem d_A_grow2_45 : decode prog_20_method_6_code 45 = .ok (.aload_n 0, 1) := by decide +kernel
theorem d_A_grow2_46 : decode prog_20_method_6_code 46 = .ok (.bipush 10, 2) := by decide +kernel
theorem d_A_grow2_48 : decode prog_20_method_6_code 48 = .ok (.iload_n 1, 1) := by decide +kernel
theorem d_A_grow2_49 : decode prog_20_method_6_code 49 = .ok (.invokestatic 79, 3) := by decide +kernel
theorem d_A_grow2_52 : decode prog_20_method_6_code 52 = .ok (.anewarray 7, 3) := by decide +kernel
theorem d_A_grow2_55 : decode prog_20_method_6_code 55 = .ok (.dup_x1, 1) := by decide +kernel
theorem d_A_grow2_56 : decode prog_20_method_6_code 56 = .ok (.putfield 9, 3) := by decide +kernel
theorem d_A_grow2_59 : decode prog_20_method_6_code 59 = .ok (.areturn, 1) := by decide +kernel
-- JS_newLength  jdk/internal/util/ArraysSupport.newLength(III)I  prog_27_method_27_code maxL 4 ret (some .int) code
theorem d_JS_newLength_0 : decode prog_27_method_27_code 0 = .ok (.iload_n 0, 1) := by decide +kernel
theorem d_JS_newLength_1 : decode prog_27_method_27_code 1 = .ok (.iload_n 1, 1) := by decide +kernel
theorem d_JS_newLength_2 : decode prog_27_method_27_code 2 = .ok (.iload_n 2, 1) := by decide +kernel
theorem d_JS_newLength_3 : decode prog_27_method_27_code 3 = .ok (.invokestatic 194, 3) := by decide +kernel
theorem d_JS_newLength_6 : decode prog_27_method_27_code 6 = .ok (.iadd, 1) := by decide +kernel
theorem d_JS_newLength_7 : decode prog_27_method_27_code 7 = .ok (.istore_n 3, 1) := by decide +kernel
theorem d_JS_newLength_8 : decode prog_27_method_27_code 8 = .ok (.iconst 0, 1) := by decide +kernel
theorem d_JS_newLength_9 : decode prog_27_method_27_code 9 = .ok (.iload_n 3, 1) := by decide +kernel
theorem d_JS_newLength_10 : decode prog_27_method_27_code 10 = .ok (.if_icmp .ge 11, 3) := by decide +kernel
theorem d_JS_newLength_13 : decode prog_27_method_27_code 13 = .ok (.iload_n 3, 1) := by decide +kernel
theorem d_JS_newLength_14 : decode prog_27_method_27_code 14 = .ok (.ldc 200, 2) := by decide +kernel
theorem d_JS_newLength_16 : decode prog_27_method_27_code 16 = .ok (.if_icmp .gt 5, 3) := by decide +kernel
theorem d_JS_newLength_19 : decode prog_27_method_27_code 19 = .ok (.iload_n 3, 1) := by decide +kernel
theorem d_JS_newLength_20 : decode prog_27_method_27_code 20 = .ok (.ireturn, 1) := by decide +kernel
theorem d_JS_newLength_21 : decode prog_27_method_27_code 21 = .ok (.iload_n 0, 1) := by decide +kernel
theorem d_JS_newLength_22 : decode prog_27_method_27_code 22 = .ok (.iload_n 1, 1) := by decide +kernel
theorem d_JS_newLength_23 : decode prog_27_method_27_code 23 = .ok (.invokestatic 201, 3) := by decide +kernel
theorem d_JS_newLength_26 : decode prog_27_method_27_code 26 = .ok (.ireturn, 1) := by decide +kernel
-- JM_max  java/lang/Math.max(II)I  prog_13_method_65_code maxL 2 ret (some .int) code
theorem d_JM_max_0 : decode prog_13_method_65_code 0 = .ok (.iload_n 0, 1) := by decide +kernel
theorem d_JM_max_1 : decode prog_13_method_65_code 1 = .ok (.iload_n 1, 1) := by decide +kernel
theorem d_JM_max_2 : decode prog_13_method_65_code 2 = .ok (.if_icmp .lt 7, 3) := by decide +kernel
theorem d_JM_max_5 : decode prog_13_method_65_code 5 = .ok (.iload_n 0, 1) := by decide +kernel
theorem d_JM_max_6 : decode prog_13_method_65_code 6 = .ok (.goto 4, 3) := by decide +kernel
theorem d_JM_max_9 : decode prog_13_method_65_code 9 = .ok (.iload_n 1, 1) := by decide +kernel
theorem d_JM_max_10 : decode prog_13_method_65_code 10 = .ok (.ireturn, 1) := by decide +kernel
-- JS_hugeLength  jdk/internal/util/ArraysSupport.hugeLength(II)I  prog_27_method_28_code maxL 3 ret (some .int) code
theorem d_JS_hugeLength_0 : decode prog_27_method_28_code 0 = .ok (.iload_n 0, 1) := by decide +kernel
theorem d_JS_hugeLength_1 : decode prog_27_method_28_code 1 = .ok (.iload_n 1, 1) := by decide +kernel
theorem d_JS_hugeLength_2 : decode prog_27_method_28_code 2 = .ok (.iadd, 1) := by decide +kernel
theorem d_JS_hugeLength_3 : decode prog_27_method_28_code 3 = .ok (.istore_n 2, 1) := by decide +kernel
theorem d_JS_hugeLength_4 : decode prog_27_method_28_code 4 = .ok (.iload_n 2, 1) := by decide +kernel
theorem d_JS_hugeLength_5 : decode prog_27_method_28_code 5 = .ok (.ifCond .ge 44, 3) := by decide +kernel
theorem d_JS_hugeLength_8 : decode prog_27_method_28_code 8 = .ok (.new 204, 3) := by decide +kernel
theorem d_JS_hugeLength_11 : decode prog_27_method_28_code 11 = .ok (.dup, 1) := by decide +kernel
theorem d_JS_hugeLength_12 : decode prog_27_method_28_code 12 = .ok (.new 89, 3) := by decide +kernel
theorem d_JS_hugeLength_15 : decode prog_27_method_28_code 15 = .ok (.dup, 1) := by decide +kernel
theorem d_JS_hugeLength_16 : decode prog_27_method_28_code 16 = .ok (.invokespecial 91, 3) := by decide +kernel
theorem d_JS_hugeLength_19 : decode prog_27_method_28_code 19 = .ok (.ldc 206, 2) := by decide +kernel
theorem d_JS_hugeLength_21 : decode prog_27_method_28_code 21 = .ok (.invokevirtual 94, 3) := by decide +kernel
theorem d_JS_hugeLength_24 : decode prog_27_method_28_code 24 = .ok (.iload_n 0, 1) := by decide +kernel
theorem d_JS_hugeLength_25 : decode prog_27_method_28_code 25 = .ok (.invokevirtual 98, 3) := by decide +kernel
theorem d_JS_hugeLength_28 : decode prog_27_method_28_code 28 = .ok (.ldc 208, 2) := by decide +kernel
theorem d_JS_hugeLength_30 : decode prog_27_method_28_code 30 = .ok (.invokevirtual 94, 3) := by decide +kernel
theorem d_JS_hugeLength_33 : decode prog_27_method_28_code 33 = .ok (.iload_n 1, 1) := by decide +kernel
theorem d_JS_hugeLength_34 : decode prog_27_method_28_code 34 = .ok (.invokevirtual 98, 3) := by decide +kernel
theorem d_JS_hugeLength_37 : decode prog_27_method_28_code 37 = .ok (.ldc 210, 2) := by decide +kernel
theorem d_JS_hugeLength_39 : decode prog_27_method_28_code 39 = .ok (.invokevirtual 94, 3) := by decide +kernel
theorem d_JS_hugeLength_42 : decode prog_27_method_28_code 42 = .ok (.invokevirtual 101, 3) := by decide +kernel
theorem d_JS_hugeLength_45 : decode prog_27_method_28_code 45 = .ok (.invokespecial 212, 3) := by decide +kernel
theorem d_JS_hugeLength_48 : decode prog_27_method_28_code 48 = .ok (.athrow, 1) := by decide +kernel
theorem d_JS_hugeLength_49 : decode prog_27_method_28_code 49 = .ok (.iload_n 2, 1) := by decide +kernel
theorem d_JS_hugeLength_50 : decode prog_27_method_28_code 50 = .ok (.ldc 200, 2) := by decide +kernel
theorem d_JS_hugeLength_52 : decode prog_27_method_28_code 52 = .ok (.if_icmp .gt 6, 3) := by decide +kernel
theorem d_JS_hugeLength_55 : decode prog_27_method_28_code 55 = .ok (.ldc 200, 2) := by decide +kernel
theorem d_JS_hugeLength_57 : decode prog_27_method_28_code 57 = .ok (.ireturn, 1) := by decide +kernel
theorem d_JS_hugeLength_58 : decode prog_27_method_28_code 58 = .ok (.iload_n 2, 1) := by decide +kernel
theorem d_JS_hugeLength_59 : decode prog_27_method_28_code 59 = .ok (.ireturn, 1) := by decide +kernel
-- JA_copyOf  java/util/Arrays.copyOf([Ljava/lang/Object;I)[Ljava/lang/Object;  prog_21_method_119_code maxL 2 ret (some (.array (.object "java/lang/Object"))) code
theorem d_JA_copyOf_0 : decode prog_21_method_119_code 0 = .ok (.aload_n 0, 1) := by decide +kernel
theorem d_JA_copyOf_1 : decode prog_21_method_119_code 1 = .ok (.iload_n 1, 1) := by decide +kernel
theorem d_JA_copyOf_2 : decode prog_21_method_119_code 2 = .ok (.aload_n 0, 1) := by decide +kernel
theorem d_JA_copyOf_3 : decode prog_21_method_119_code 3 = .ok (.invokevirtual 86, 3) := by decide +kernel
theorem d_JA_copyOf_6 : decode prog_21_method_119_code 6 = .ok (.invokestatic 300, 3) := by decide +kernel
theorem d_JA_copyOf_9 : decode prog_21_method_119_code 9 = .ok (.areturn, 1) := by decide +kernel
-- JA_copyOf2  java/util/Arrays.copyOf([Ljava/lang/Object;ILjava/lang/Class;)[Ljava/lang/Object;  prog_21_method_120_code maxL 4 ret (some (.array (.object "java/lang/Object"))) code
theorem d_JA_copyOf2_0 : decode prog_21_method_120_code 0 = .ok (.aload_n 2, 1) := by decide +kernel
theorem d_JA_copyOf2_1 : decode prog_21_method_120_code 1 = .ok (.ldc 110, 2) := by decide +kernel
theorem d_JA_copyOf2_3 : decode prog_21_method_120_code 3 = .ok (.if_acmp .ne 10, 3) := by decide +kernel
theorem d_JA_copyOf2_6 : decode prog_21_method_120_code 6 = .ok (.iload_n 1, 1) := by decide +kernel
theorem d_JA_copyOf2_7 : decode prog_21_method_120_code 7 = .ok (.anewarray 2, 3) := by decide +kernel
theorem d_JA_copyOf2_10 : decode prog_21_method_120_code 10 = .ok (.goto 14, 3) := by decide +kernel
theorem d_JA_copyOf2_13 : decode prog_21_method_120_code 13 = .ok (.aload_n 2, 1) := by decide +kernel
theorem d_JA_copyOf2_14 : decode prog_21_method_120_code 14 = .ok (.invokevirtual 90, 3) := by decide +kernel
theorem d_JA_copyOf2_17 : decode prog_21_method_120_code 17 = .ok (.iload_n 1, 1) := by decide +kernel
theorem d_JA_copyOf2_18 : decode prog_21_method_120_code 18 = .ok (.invokestatic 95, 3) := by decide +kernel
theorem d_JA_copyOf2_21 : decode prog_21_method_120_code 21 = .ok (.checkcast 110, 3) := by decide +kernel
theorem d_JA_copyOf2_24 : decode prog_21_method_120_code 24 = .ok (.astore_n 3, 1) := by decide +kernel
theorem d_JA_copyOf2_25 : decode prog_21_method_120_code 25 = .ok (.aload_n 0, 1) := by decide +kernel
theorem d_JA_copyOf2_26 : decode prog_21_method_120_code 26 = .ok (.iconst 0, 1) := by decide +kernel
theorem d_JA_copyOf2_27 : decode prog_21_method_120_code 27 = .ok (.aload_n 3, 1) := by decide +kernel
theorem d_JA_copyOf2_28 : decode prog_21_method_120_code 28 = .ok (.iconst 0, 1) := by decide +kernel
theorem d_JA_copyOf2_29 : decode prog_21_method_120_code 29 = .ok (.aload_n 0, 1) := by decide +kernel
theorem d_JA_copyOf2_30 : decode prog_21_method_120_code 30 = .ok (.arraylength, 1) := by decide +kernel
theorem d_JA_copyOf2_31 : decode prog_21_method_120_code 31 = .ok (.iload_n 1, 1) := by decide +kernel
theorem d_JA_copyOf2_32 : decode prog_21_method_120_code 32 = .ok (.invokestatic 304, 3) := by decide +kernel
theorem d_JA_copyOf2_35 : decode prog_21_method_120_code 35 = .ok (.invokestatic 150, 3) := by decide +kernel
theorem d_JA_copyOf2_38 : decode prog_21_method_120_code 38 = .ok (.aload_n 3, 1) := by decide +kernel
theorem d_JA_copyOf2_39 : decode prog_21_method_120_code 39 = .ok (.areturn, 1) := by decide +kernel
-- JM_min  java/lang/Math.min(II)I  prog_13_method_69_code maxL 2 ret (some .int) code
theorem d_JM_min_0 : decode prog_13_method_69_code 0 = .ok (.iload_n 0, 1) := by decide +kernel
theorem d_JM_min_1 : decode prog_13_method_69_code 1 = .ok (.iload_n 1, 1) := by decide +kernel
theorem d_JM_min_2 : decode prog_13_method_69_code 2 = .ok (.if_icmp .gt 7, 3) := by decide +kernel
theorem d_JM_min_5 : decode prog_13_method_69_code 5 = .ok (.iload_n 0, 1) := by decide +kernel
theorem d_JM_min_6 : decode prog_13_method_69_code 6 = .ok (.goto 4, 3) := by decide +kernel
theorem d_JM_min_9 : decode prog_13_method_69_code 9 = .ok (.iload_n 1, 1) := by decide +kernel
theorem d_JM_min_10 : decode prog_13_method_69_code 10 = .ok (.ireturn, 1) := by decide +kernel
-- F_campaign  FleetWaves.campaign(II)I  prog_1_method_3_code maxL 4 ret (some .int) code
theorem d_F_campaign_0 : decode prog_1_method_3_code 0 = .ok (.iload_n 1, 1) := by decide +kernel
theorem d_F_campaign_1 : decode prog_1_method_3_code 1 = .ok (.ifCond .lt 21, 3) := by decide +kernel
theorem d_F_campaign_4 : decode prog_1_method_3_code 4 = .ok (.iload_n 1, 1) := by decide +kernel
theorem d_F_campaign_5 : decode prog_1_method_3_code 5 = .ok (.ldc 36, 2) := by decide +kernel
theorem d_F_campaign_7 : decode prog_1_method_3_code 7 = .ok (.if_icmp .gt 15, 3) := by decide +kernel
theorem d_F_campaign_10 : decode prog_1_method_3_code 10 = .ok (.iload_n 2, 1) := by decide +kernel
theorem d_F_campaign_11 : decode prog_1_method_3_code 11 = .ok (.iconst 1, 1) := by decide +kernel
theorem d_F_campaign_12 : decode prog_1_method_3_code 12 = .ok (.if_icmp .lt 10, 3) := by decide +kernel
theorem d_F_campaign_15 : decode prog_1_method_3_code 15 = .ok (.iload_n 2, 1) := by decide +kernel
theorem d_F_campaign_16 : decode prog_1_method_3_code 16 = .ok (.sipush 1000, 3) := by decide +kernel
theorem d_F_campaign_19 : decode prog_1_method_3_code 19 = .ok (.if_icmp .le 6, 3) := by decide +kernel
theorem d_F_campaign_22 : decode prog_1_method_3_code 22 = .ok (.bipush (-2), 2) := by decide +kernel
theorem d_F_campaign_24 : decode prog_1_method_3_code 24 = .ok (.ireturn, 1) := by decide +kernel
theorem d_F_campaign_25 : decode prog_1_method_3_code 25 = .ok (.aload_n 0, 1) := by decide +kernel
theorem d_F_campaign_26 : decode prog_1_method_3_code 26 = .ok (.getfield 16, 3) := by decide +kernel
theorem d_F_campaign_29 : decode prog_1_method_3_code 29 = .ok (.invokevirtual 23, 3) := by decide +kernel
theorem d_F_campaign_32 : decode prog_1_method_3_code 32 = .ok (.bipush 40, 2) := by decide +kernel
theorem d_F_campaign_34 : decode prog_1_method_3_code 34 = .ok (.if_icmp .lt 6, 3) := by decide +kernel
theorem d_F_campaign_37 : decode prog_1_method_3_code 37 = .ok (.bipush (-4), 2) := by decide +kernel
theorem d_F_campaign_39 : decode prog_1_method_3_code 39 = .ok (.ireturn, 1) := by decide +kernel
theorem d_F_campaign_40 : decode prog_1_method_3_code 40 = .ok (.aload_n 0, 1) := by decide +kernel
theorem d_F_campaign_41 : decode prog_1_method_3_code 41 = .ok (.iload_n 1, 1) := by decide +kernel
theorem d_F_campaign_42 : decode prog_1_method_3_code 42 = .ok (.invokestatic 37, 3) := by decide +kernel
theorem d_F_campaign_45 : decode prog_1_method_3_code 45 = .ok (.iload_n 2, 1) := by decide +kernel
theorem d_F_campaign_46 : decode prog_1_method_3_code 46 = .ok (.invokevirtual 43, 3) := by decide +kernel
theorem d_F_campaign_49 : decode prog_1_method_3_code 49 = .ok (.ifCond .eq 5, 3) := by decide +kernel
theorem d_F_campaign_52 : decode prog_1_method_3_code 52 = .ok (.iconst 0, 1) := by decide +kernel
theorem d_F_campaign_53 : decode prog_1_method_3_code 53 = .ok (.ireturn, 1) := by decide +kernel
theorem d_F_campaign_54 : decode prog_1_method_3_code 54 = .ok (.new 38, 3) := by decide +kernel
theorem d_F_campaign_57 : decode prog_1_method_3_code 57 = .ok (.dup, 1) := by decide +kernel
theorem d_F_campaign_58 : decode prog_1_method_3_code 58 = .ok (.aload_n 0, 1) := by decide +kernel
theorem d_F_campaign_59 : decode prog_1_method_3_code 59 = .ok (.getfield 16, 3) := by decide +kernel
theorem d_F_campaign_62 : decode prog_1_method_3_code 62 = .ok (.invokevirtual 23, 3) := by decide +kernel
theorem d_F_campaign_65 : decode prog_1_method_3_code 65 = .ok (.iconst 1, 1) := by decide +kernel
theorem d_F_campaign_66 : decode prog_1_method_3_code 66 = .ok (.iadd, 1) := by decide +kernel
theorem d_F_campaign_67 : decode prog_1_method_3_code 67 = .ok (.iload_n 1, 1) := by decide +kernel
theorem d_F_campaign_68 : decode prog_1_method_3_code 68 = .ok (.iload_n 2, 1) := by decide +kernel
theorem d_F_campaign_69 : decode prog_1_method_3_code 69 = .ok (.invokespecial 47, 3) := by decide +kernel
theorem d_F_campaign_72 : decode prog_1_method_3_code 72 = .ok (.astore_n 3, 1) := by decide +kernel
theorem d_F_campaign_73 : decode prog_1_method_3_code 73 = .ok (.aload_n 0, 1) := by decide +kernel
theorem d_F_campaign_74 : decode prog_1_method_3_code 74 = .ok (.aload_n 3, 1) := by decide +kernel
theorem d_F_campaign_75 : decode prog_1_method_3_code 75 = .ok (.invokevirtual 50, 3) := by decide +kernel
theorem d_F_campaign_78 : decode prog_1_method_3_code 78 = .ok (.aload_n 0, 1) := by decide +kernel
theorem d_F_campaign_79 : decode prog_1_method_3_code 79 = .ok (.getfield 16, 3) := by decide +kernel
theorem d_F_campaign_82 : decode prog_1_method_3_code 82 = .ok (.aload_n 3, 1) := by decide +kernel
theorem d_F_campaign_83 : decode prog_1_method_3_code 83 = .ok (.invokevirtual 32, 3) := by decide +kernel
theorem d_F_campaign_86 : decode prog_1_method_3_code 86 = .ok (.pop, 1) := by decide +kernel
theorem d_F_campaign_87 : decode prog_1_method_3_code 87 = .ok (.aload_n 3, 1) := by decide +kernel
theorem d_F_campaign_88 : decode prog_1_method_3_code 88 = .ok (.getfield 54, 3) := by decide +kernel
theorem d_F_campaign_91 : decode prog_1_method_3_code 91 = .ok (.ireturn, 1) := by decide +kernel
-- K_partOf  FleetWaves$Campaign.partOf(I)I  prog_2_method_2_code maxL 1 ret (some .int) code
theorem d_K_partOf_0 : decode prog_2_method_2_code 0 = .ok (.iload_n 0, 1) := by decide +kernel
theorem d_K_partOf_1 : decode prog_2_method_2_code 1 = .ok (.bipush 8, 2) := by decide +kernel
theorem d_K_partOf_3 : decode prog_2_method_2_code 3 = .ok (.invokestatic 32, 3) := by decide +kernel
theorem d_K_partOf_6 : decode prog_2_method_2_code 6 = .ok (.ireturn, 1) := by decide +kernel
-- JM_floorMod  java/lang/Math.floorMod(II)I  prog_13_method_50_code maxL 3 ret (some .int) code
theorem d_JM_floorMod_0 : decode prog_13_method_50_code 0 = .ok (.iload_n 0, 1) := by decide +kernel
theorem d_JM_floorMod_1 : decode prog_13_method_50_code 1 = .ok (.iload_n 1, 1) := by decide +kernel
theorem d_JM_floorMod_2 : decode prog_13_method_50_code 2 = .ok (.irem, 1) := by decide +kernel
theorem d_JM_floorMod_3 : decode prog_13_method_50_code 3 = .ok (.istore_n 2, 1) := by decide +kernel
theorem d_JM_floorMod_4 : decode prog_13_method_50_code 4 = .ok (.iload_n 0, 1) := by decide +kernel
theorem d_JM_floorMod_5 : decode prog_13_method_50_code 5 = .ok (.iload_n 1, 1) := by decide +kernel
theorem d_JM_floorMod_6 : decode prog_13_method_50_code 6 = .ok (.ixor, 1) := by decide +kernel
theorem d_JM_floorMod_7 : decode prog_13_method_50_code 7 = .ok (.ifCond .ge 11, 3) := by decide +kernel
theorem d_JM_floorMod_10 : decode prog_13_method_50_code 10 = .ok (.iload_n 2, 1) := by decide +kernel
theorem d_JM_floorMod_11 : decode prog_13_method_50_code 11 = .ok (.ifCond .eq 7, 3) := by decide +kernel
theorem d_JM_floorMod_14 : decode prog_13_method_50_code 14 = .ok (.iload_n 2, 1) := by decide +kernel
theorem d_JM_floorMod_15 : decode prog_13_method_50_code 15 = .ok (.iload_n 1, 1) := by decide +kernel
theorem d_JM_floorMod_16 : decode prog_13_method_50_code 16 = .ok (.iadd, 1) := by decide +kernel
theorem d_JM_floorMod_17 : decode prog_13_method_50_code 17 = .ok (.ireturn, 1) := by decide +kernel
theorem d_JM_floorMod_18 : decode prog_13_method_50_code 18 = .ok (.iload_n 2, 1) := by decide +kernel
theorem d_JM_floorMod_19 : decode prog_13_method_50_code 19 = .ok (.ireturn, 1) := by decide +kernel
-- F_hasCampaignOf  FleetWaves.hasCampaignOf(II)Z  prog_1_method_18_code maxL 5 ret (some .boolean) code
theorem d_F_hasCampaignOf_0 : decode prog_1_method_18_code 0 = .ok (.iconst 0, 1) := by decide +kernel
theorem d_F_hasCampaignOf_1 : decode prog_1_method_18_code 1 = .ok (.istore_n 3, 1) := by decide +kernel
theorem d_F_hasCampaignOf_2 : decode prog_1_method_18_code 2 = .ok (.iload_n 3, 1) := by decide +kernel
theorem d_F_hasCampaignOf_3 : decode prog_1_method_18_code 3 = .ok (.aload_n 0, 1) := by decide +kernel
theorem d_F_hasCampaignOf_4 : decode prog_1_method_18_code 4 = .ok (.getfield 16, 3) := by decide +kernel
theorem d_F_hasCampaignOf_7 : decode prog_1_method_18_code 7 = .ok (.invokevirtual 23, 3) := by decide +kernel
theorem d_F_hasCampaignOf_10 : decode prog_1_method_18_code 10 = .ok (.if_icmp .ge 42, 3) := by decide +kernel
theorem d_F_hasCampaignOf_13 : decode prog_1_method_18_code 13 = .ok (.aload_n 0, 1) := by decide +kernel
theorem d_F_hasCampaignOf_14 : decode prog_1_method_18_code 14 = .ok (.getfield 16, 3) := by decide +kernel
theorem d_F_hasCampaignOf_17 : decode prog_1_method_18_code 17 = .ok (.iload_n 3, 1) := by decide +kernel
theorem d_F_hasCampaignOf_18 : decode prog_1_method_18_code 18 = .ok (.invokevirtual 149, 3) := by decide +kernel
theorem d_F_hasCampaignOf_21 : decode prog_1_method_18_code 21 = .ok (.checkcast 38, 3) := by decide +kernel
theorem d_F_hasCampaignOf_24 : decode prog_1_method_18_code 24 = .ok (.astore 4, 2) := by decide +kernel
theorem d_F_hasCampaignOf_26 : decode prog_1_method_18_code 26 = .ok (.aload 4, 2) := by decide +kernel
theorem d_F_hasCampaignOf_28 : decode prog_1_method_18_code 28 = .ok (.getfield 98, 3) := by decide +kernel
theorem d_F_hasCampaignOf_31 : decode prog_1_method_18_code 31 = .ok (.iload_n 1, 1) := by decide +kernel
theorem d_F_hasCampaignOf_32 : decode prog_1_method_18_code 32 = .ok (.if_icmp .ne 14, 3) := by decide +kernel
theorem d_F_hasCampaignOf_35 : decode prog_1_method_18_code 35 = .ok (.aload 4, 2) := by decide +kernel
theorem d_F_hasCampaignOf_37 : decode prog_1_method_18_code 37 = .ok (.getfield 101, 3) := by decide +kernel
theorem d_F_hasCampaignOf_40 : decode prog_1_method_18_code 40 = .ok (.iload_n 2, 1) := by decide +kernel
theorem d_F_hasCampaignOf_41 : decode prog_1_method_18_code 41 = .ok (.if_icmp .ne 5, 3) := by decide +kernel
theorem d_F_hasCampaignOf_44 : decode prog_1_method_18_code 44 = .ok (.iconst 1, 1) := by decide +kernel
theorem d_F_hasCampaignOf_45 : decode prog_1_method_18_code 45 = .ok (.ireturn, 1) := by decide +kernel
theorem d_F_hasCampaignOf_46 : decode prog_1_method_18_code 46 = .ok (.iinc 3 1, 3) := by decide +kernel
theorem d_F_hasCampaignOf_49 : decode prog_1_method_18_code 49 = .ok (.goto (-47), 3) := by decide +kernel
theorem d_F_hasCampaignOf_52 : decode prog_1_method_18_code 52 = .ok (.iconst 0, 1) := by decide +kernel
theorem d_F_hasCampaignOf_53 : decode prog_1_method_18_code 53 = .ok (.ireturn, 1) := by decide +kernel
-- K_init  FleetWaves$Campaign.<init>(III)V  prog_2_method_1_code maxL 4 ret none code
theorem d_K_init_0 : decode prog_2_method_1_code 0 = .ok (.aload_n 0, 1) := by decide +kernel
theorem d_K_init_1 : decode prog_2_method_1_code 1 = .ok (.invokespecial 3, 3) := by decide +kernel
theorem d_K_init_4 : decode prog_2_method_1_code 4 = .ok (.aload_n 0, 1) := by decide +kernel
theorem d_K_init_5 : decode prog_2_method_1_code 5 = .ok (.new 9, 3) := by decide +kernel
theorem d_K_init_8 : decode prog_2_method_1_code 8 = .ok (.dup, 1) := by decide +kernel
theorem d_K_init_9 : decode prog_2_method_1_code 9 = .ok (.invokespecial 11, 3) := by decide +kernel
theorem d_K_init_12 : decode prog_2_method_1_code 12 = .ok (.putfield 12, 3) := by decide +kernel
theorem d_K_init_15 : decode prog_2_method_1_code 15 = .ok (.aload_n 0, 1) := by decide +kernel
theorem d_K_init_16 : decode prog_2_method_1_code 16 = .ok (.iconst 0, 1) := by decide +kernel
theorem d_K_init_17 : decode prog_2_method_1_code 17 = .ok (.putfield 18, 3) := by decide +kernel
theorem d_K_init_20 : decode prog_2_method_1_code 20 = .ok (.aload_n 0, 1) := by decide +kernel
theorem d_K_init_21 : decode prog_2_method_1_code 21 = .ok (.iload_n 1, 1) := by decide +kernel
theorem d_K_init_22 : decode prog_2_method_1_code 22 = .ok (.putfield 22, 3) := by decide +kernel
theorem d_K_init_25 : decode prog_2_method_1_code 25 = .ok (.aload_n 0, 1) := by decide +kernel
theorem d_K_init_26 : decode prog_2_method_1_code 26 = .ok (.iload_n 2, 1) := by decide +kernel
theorem d_K_init_27 : decode prog_2_method_1_code 27 = .ok (.invokestatic 25, 3) := by decide +kernel
theorem d_K_init_30 : decode prog_2_method_1_code 30 = .ok (.putfield 29, 3) := by decide +kernel
theorem d_K_init_33 : decode prog_2_method_1_code 33 = .ok (.aload_n 0, 1) := by decide +kernel
theorem d_K_init_34 : decode prog_2_method_1_code 34 = .ok (.iconst 1, 1) := by decide +kernel
theorem d_K_init_35 : decode prog_2_method_1_code 35 = .ok (.iload_n 2, 1) := by decide +kernel
theorem d_K_init_36 : decode prog_2_method_1_code 36 = .ok (.bipush 8, 2) := by decide +kernel
theorem d_K_init_38 : decode prog_2_method_1_code 38 = .ok (.idiv, 1) := by decide +kernel
theorem d_K_init_39 : decode prog_2_method_1_code 39 = .ok (.sipush 1024, 3) := by decide +kernel
theorem d_K_init_42 : decode prog_2_method_1_code 42 = .ok (.invokestatic 32, 3) := by decide +kernel
theorem d_K_init_45 : decode prog_2_method_1_code 45 = .ok (.iadd, 1) := by decide +kernel
theorem d_K_init_46 : decode prog_2_method_1_code 46 = .ok (.putfield 38, 3) := by decide +kernel
theorem d_K_init_49 : decode prog_2_method_1_code 49 = .ok (.aload_n 0, 1) := by decide +kernel
theorem d_K_init_50 : decode prog_2_method_1_code 50 = .ok (.iload_n 2, 1) := by decide +kernel
theorem d_K_init_51 : decode prog_2_method_1_code 51 = .ok (.sipush 8192, 3) := by decide +kernel
theorem d_K_init_54 : decode prog_2_method_1_code 54 = .ok (.idiv, 1) := by decide +kernel
theorem d_K_init_55 : decode prog_2_method_1_code 55 = .ok (.putfield 41, 3) := by decide +kernel
theorem d_K_init_58 : decode prog_2_method_1_code 58 = .ok (.aload_n 0, 1) := by decide +kernel
theorem d_K_init_59 : decode prog_2_method_1_code 59 = .ok (.iload_n 3, 1) := by decide +kernel
theorem d_K_init_60 : decode prog_2_method_1_code 60 = .ok (.putfield 44, 3) := by decide +kernel
theorem d_K_init_63 : decode prog_2_method_1_code 63 = .ok (.return_, 1) := by decide +kernel
-- F_orderWithinPart  FleetWaves.orderWithinPart(LFleetWaves$Campaign;)V  prog_1_method_19_code maxL 4 ret none code
theorem d_F_orderWithinPart_0 : decode prog_1_method_19_code 0 = .ok (.iconst 0, 1) := by decide +kernel
theorem d_F_orderWithinPart_1 : decode prog_1_method_19_code 1 = .ok (.istore_n 2, 1) := by decide +kernel
theorem d_F_orderWithinPart_2 : decode prog_1_method_19_code 2 = .ok (.iload_n 2, 1) := by decide +kernel
theorem d_F_orderWithinPart_3 : decode prog_1_method_19_code 3 = .ok (.aload_n 0, 1) := by decide +kernel
theorem d_F_orderWithinPart_4 : decode prog_1_method_19_code 4 = .ok (.getfield 16, 3) := by decide +kernel
theorem d_F_orderWithinPart_7 : decode prog_1_method_19_code 7 = .ok (.invokevirtual 23, 3) := by decide +kernel
theorem d_F_orderWithinPart_10 : decode prog_1_method_19_code 10 = .ok (.if_icmp .ge 75, 3) := by decide +kernel
theorem d_F_orderWithinPart_13 : decode prog_1_method_19_code 13 = .ok (.aload_n 0, 1) := by decide +kernel
theorem d_F_orderWithinPart_14 : decode prog_1_method_19_code 14 = .ok (.getfield 16, 3) := by decide +kernel
theorem d_F_orderWithinPart_17 : decode prog_1_method_19_code 17 = .ok (.iload_n 2, 1) := by decide +kernel
theorem d_F_orderWithinPart_18 : decode prog_1_method_19_code 18 = .ok (.invokevirtual 149, 3) := by decide +kernel
theorem d_F_orderWithinPart_21 : decode prog_1_method_19_code 21 = .ok (.checkcast 38, 3) := by decide +kernel
theorem d_F_orderWithinPart_24 : decode prog_1_method_19_code 24 = .ok (.astore_n 3, 1) := by decide +kernel
theorem d_F_orderWithinPart_25 : decode prog_1_method_19_code 25 = .ok (.aload_n 3, 1) := by decide +kernel
theorem d_F_orderWithinPart_26 : decode prog_1_method_19_code 26 = .ok (.getfield 98, 3) := by decide +kernel
theorem d_F_orderWithinPart_29 : decode prog_1_method_19_code 29 = .ok (.aload_n 1, 1) := by decide +kernel
theorem d_F_orderWithinPart_30 : decode prog_1_method_19_code 30 = .ok (.getfield 98, 3) := by decide +kernel
theorem d_F_orderWithinPart_33 : decode prog_1_method_19_code 33 = .ok (.if_icmp .eq 6, 3) := by decide +kernel
theorem d_F_orderWithinPart_36 : decode prog_1_method_19_code 36 = .ok (.goto 43, 3) := by decide +kernel
theorem d_F_orderWithinPart_39 : decode prog_1_method_19_code 39 = .ok (.aload_n 3, 1) := by decide +kernel
theorem d_F_orderWithinPart_40 : decode prog_1_method_19_code 40 = .ok (.getfield 101, 3) := by decide +kernel
theorem d_F_orderWithinPart_43 : decode prog_1_method_19_code 43 = .ok (.aload_n 1, 1) := by decide +kernel
theorem d_F_orderWithinPart_44 : decode prog_1_method_19_code 44 = .ok (.getfield 101, 3) := by decide +kernel
theorem d_F_orderWithinPart_47 : decode prog_1_method_19_code 47 = .ok (.if_icmp .ge 19, 3) := by decide +kernel
theorem d_F_orderWithinPart_50 : decode prog_1_method_19_code 50 = .ok (.aload_n 1, 1) := by decide +kernel
theorem d_F_orderWithinPart_51 : decode prog_1_method_19_code 51 = .ok (.dup, 1) := by decide +kernel
theorem d_F_orderWithinPart_52 : decode prog_1_method_19_code 52 = .ok (.getfield 172, 3) := by decide +kernel
theorem d_F_orderWithinPart_55 : decode prog_1_method_19_code 55 = .ok (.aload_n 3, 1) := by decide +kernel
theorem d_F_orderWithinPart_56 : decode prog_1_method_19_code 56 = .ok (.invokevirtual 175, 3) := by decide +kernel
theorem d_F_orderWithinPart_59 : decode prog_1_method_19_code 59 = .ok (.lor, 1) := by decide +kernel
theorem d_F_orderWithinPart_60 : decode prog_1_method_19_code 60 = .ok (.putfield 172, 3) := by decide +kernel
theorem d_F_orderWithinPart_63 : decode prog_1_method_19_code 63 = .ok (.goto 16, 3) := by decide +kernel
theorem d_F_orderWithinPart_66 : decode prog_1_method_19_code 66 = .ok (.aload_n 3, 1) := by decide +kernel
theorem d_F_orderWithinPart_67 : decode prog_1_method_19_code 67 = .ok (.dup, 1) := by decide +kernel
theorem d_F_orderWithinPart_68 : decode prog_1_method_19_code 68 = .ok (.getfield 172, 3) := by decide +kernel
theorem d_F_orderWithinPart_71 : decode prog_1_method_19_code 71 = .ok (.aload_n 1, 1) := by decide +kernel
theorem d_F_orderWithinPart_72 : decode prog_1_method_19_code 72 = .ok (.invokevirtual 175, 3) := by decide +kernel
theorem d_F_orderWithinPart_75 : decode prog_1_method_19_code 75 = .ok (.lor, 1) := by decide +kernel
theorem d_F_orderWithinPart_76 : decode prog_1_method_19_code 76 = .ok (.putfield 172, 3) := by decide +kernel
theorem d_F_orderWithinPart_79 : decode prog_1_method_19_code 79 = .ok (.iinc 2 1, 3) := by decide +kernel
theorem d_F_orderWithinPart_82 : decode prog_1_method_19_code 82 = .ok (.goto (-80), 3) := by decide +kernel
theorem d_F_orderWithinPart_85 : decode prog_1_method_19_code 85 = .ok (.return_, 1) := by decide +kernel
-- K_bit  FleetWaves$Campaign.bit()J  prog_2_method_3_code maxL 1 ret (some .long) code
theorem d_K_bit_0 : decode prog_2_method_3_code 0 = .ok (.lconst 1, 1) := by decide +kernel
theorem d_K_bit_1 : decode prog_2_method_3_code 1 = .ok (.aload_n 0, 1) := by decide +kernel
theorem d_K_bit_2 : decode prog_2_method_3_code 2 = .ok (.getfield 22, 3) := by decide +kernel
theorem d_K_bit_5 : decode prog_2_method_3_code 5 = .ok (.lshl, 1) := by decide +kernel
theorem d_K_bit_6 : decode prog_2_method_3_code 6 = .ok (.lreturn, 1) := by decide +kernel
-- F_wave  FleetWaves.wave(IJJJ)I  prog_1_method_4_code maxL 9 ret (some .int) code
theorem d_F_wave_0 : decode prog_1_method_4_code 0 = .ok (.aload_n 0, 1) := by decide +kernel
theorem d_F_wave_1 : decode prog_1_method_4_code 1 = .ok (.iload_n 1, 1) := by decide +kernel
theorem d_F_wave_2 : decode prog_1_method_4_code 2 = .ok (.invokevirtual 58, 3) := by decide +kernel
theorem d_F_wave_5 : decode prog_1_method_4_code 5 = .ok (.astore 8, 2) := by decide +kernel
theorem d_F_wave_7 : decode prog_1_method_4_code 7 = .ok (.aload 8, 2) := by decide +kernel
theorem d_F_wave_9 : decode prog_1_method_4_code 9 = .ok (.ifnonnull 5, 3) := by decide +kernel
theorem d_F_wave_12 : decode prog_1_method_4_code 12 = .ok (.iconst (-1), 1) := by decide +kernel
theorem d_F_wave_13 : decode prog_1_method_4_code 13 = .ok (.ireturn, 1) := by decide +kernel
theorem d_F_wave_14 : decode prog_1_method_4_code 14 = .ok (.lload_n 2, 1) := by decide +kernel
theorem d_F_wave_15 : decode prog_1_method_4_code 15 = .ok (.lload 4, 2) := by decide +kernel
theorem d_F_wave_17 : decode prog_1_method_4_code 17 = .ok (.invokestatic 62, 3) := by decide +kernel
theorem d_F_wave_20 : decode prog_1_method_4_code 20 = .ok (.ifCond .eq 24, 3) := by decide +kernel
theorem d_F_wave_23 : decode prog_1_method_4_code 23 = .ok (.lload 6, 2) := by decide +kernel
theorem d_F_wave_25 : decode prog_1_method_4_code 25 = .ok (.aload_n 0, 1) := by decide +kernel
theorem d_F_wave_26 : decode prog_1_method_4_code 26 = .ok (.getfield 66, 3) := by decide +kernel
theorem d_F_wave_29 : decode prog_1_method_4_code 29 = .ok (.lcmp, 1) := by decide +kernel
theorem d_F_wave_30 : decode prog_1_method_4_code 30 = .ok (.ifCond .lt 14, 3) := by decide +kernel
theorem d_F_wave_33 : decode prog_1_method_4_code 33 = .ok (.aload 8, 2) := by decide +kernel
theorem d_F_wave_35 : decode prog_1_method_4_code 35 = .ok (.lload_n 2, 1) := by decide +kernel
theorem d_F_wave_36 : decode prog_1_method_4_code 36 = .ok (.lload 4, 2) := by decide +kernel
theorem d_F_wave_38 : decode prog_1_method_4_code 38 = .ok (.invokevirtual 70, 3) := by decide +kernel
theorem d_F_wave_41 : decode prog_1_method_4_code 41 = .ok (.ifCond .eq 6, 3) := by decide +kernel
theorem d_F_wave_44 : decode prog_1_method_4_code 44 = .ok (.bipush (-2), 2) := by decide +kernel
theorem d_F_wave_46 : decode prog_1_method_4_code 46 = .ok (.ireturn, 1) := by decide +kernel
theorem d_F_wave_47 : decode prog_1_method_4_code 47 = .ok (.aload 8, 2) := by decide +kernel
theorem d_F_wave_49 : decode prog_1_method_4_code 49 = .ok (.getfield 73, 3) := by decide +kernel
theorem d_F_wave_52 : decode prog_1_method_4_code 52 = .ok (.iconst 3, 1) := by decide +kernel
theorem d_F_wave_53 : decode prog_1_method_4_code 53 = .ok (.if_icmp .ne 6, 3) := by decide +kernel
theorem d_F_wave_56 : decode prog_1_method_4_code 56 = .ok (.bipush (-3), 2) := by decide +kernel
theorem d_F_wave_58 : decode prog_1_method_4_code 58 = .ok (.ireturn, 1) := by decide +kernel
theorem d_F_wave_59 : decode prog_1_method_4_code 59 = .ok (.aload 8, 2) := by decide +kernel
theorem d_F_wave_61 : decode prog_1_method_4_code 61 = .ok (.getfield 76, 3) := by decide +kernel
theorem d_F_wave_64 : decode prog_1_method_4_code 64 = .ok (.invokevirtual 23, 3) := by decide +kernel
theorem d_F_wave_67 : decode prog_1_method_4_code 67 = .ok (.bipush 20, 2) := by decide +kernel
theorem d_F_wave_69 : decode prog_1_method_4_code 69 = .ok (.if_icmp .lt 6, 3) := by decide +kernel
theorem d_F_wave_72 : decode prog_1_method_4_code 72 = .ok (.bipush (-4), 2) := by decide +kernel
theorem d_F_wave_74 : decode prog_1_method_4_code 74 = .ok (.ireturn, 1) := by decide +kernel
theorem d_F_wave_75 : decode prog_1_method_4_code 75 = .ok (.aload_n 0, 1) := by decide +kernel
theorem d_F_wave_76 : decode prog_1_method_4_code 76 = .ok (.lload 6, 2) := by decide +kernel
theorem d_F_wave_78 : decode prog_1_method_4_code 78 = .ok (.putfield 66, 3) := by decide +kernel
theorem d_F_wave_81 : decode prog_1_method_4_code 81 = .ok (.aload 8, 2) := by decide +kernel
theorem d_F_wave_83 : decode prog_1_method_4_code 83 = .ok (.getfield 76, 3) := by decide +kernel
theorem d_F_wave_86 : decode prog_1_method_4_code 86 = .ok (.new 79, 3) := by decide +kernel
theorem d_F_wave_89 : decode prog_1_method_4_code 89 = .ok (.dup, 1) := by decide +kernel
theorem d_F_wave_90 : decode prog_1_method_4_code 90 = .ok (.lload_n 2, 1) := by decide +kernel
theorem d_F_wave_91 : decode prog_1_method_4_code 91 = .ok (.lload 4, 2) := by decide +kernel
theorem d_F_wave_93 : decode prog_1_method_4_code 93 = .ok (.lload 6, 2) := by decide +kernel
theorem d_F_wave_95 : decode prog_1_method_4_code 95 = .ok (.invokespecial 81, 3) := by decide +kernel
theorem d_F_wave_98 : decode prog_1_method_4_code 98 = .ok (.invokevirtual 32, 3) := by decide +kernel
theorem d_F_wave_101 : decode prog_1_method_4_code 101 = .ok (.pop, 1) := by decide +kernel
theorem d_F_wave_102 : decode prog_1_method_4_code 102 = .ok (.aload 8, 2) := by decide +kernel
theorem d_F_wave_104 : decode prog_1_method_4_code 104 = .ok (.iconst 1, 1) := by decide +kernel
theorem d_F_wave_105 : decode prog_1_method_4_code 105 = .ok (.putfield 73, 3) := by decide +kernel
theorem d_F_wave_108 : decode prog_1_method_4_code 108 = .ok (.aload 8, 2) := by decide +kernel
theorem d_F_wave_110 : decode prog_1_method_4_code 110 = .ok (.getfield 76, 3) := by decide +kernel
theorem d_F_wave_113 : decode prog_1_method_4_code 113 = .ok (.invokevirtual 23, 3) := by decide +kernel
theorem d_F_wave_116 : decode prog_1_method_4_code 116 = .ok (.ireturn, 1) := by decide +kernel
-- F_findCampaign  FleetWaves.findCampaign(I)LFleetWaves$Campaign;  prog_1_method_16_code maxL 2 ret (some (.object "FleetWaves$Campaign")) code
theorem d_F_findCampaign_0 : decode prog_1_method_16_code 0 = .ok (.iload_n 1, 1) := by decide +kernel
theorem d_F_findCampaign_1 : decode prog_1_method_16_code 1 = .ok (.iconst 1, 1) := by decide +kernel
theorem d_F_findCampaign_2 : decode prog_1_method_16_code 2 = .ok (.if_icmp .lt 14, 3) := by decide +kernel
theorem d_F_findCampaign_5 : decode prog_1_method_16_code 5 = .ok (.iload_n 1, 1) := by decide +kernel
theorem d_F_findCampaign_6 : decode prog_1_method_16_code 6 = .ok (.aload_n 0, 1) := by decide +kernel
theorem d_F_findCampaign_7 : decode prog_1_method_16_code 7 = .ok (.getfield 16, 3) := by decide +kernel
theorem d_F_findCampaign_10 : decode prog_1_method_16_code 10 = .ok (.invokevirtual 23, 3) := by decide +kernel
theorem d_F_findCampaign_13 : decode prog_1_method_16_code 13 = .ok (.if_icmp .le 7, 3) := by decide +kernel
theorem d_F_findCampaign_16 : decode prog_1_method_16_code 16 = .ok (.aconst_null, 1) := by decide +kernel
theorem d_F_findCampaign_17 : decode prog_1_method_16_code 17 = .ok (.goto 16, 3) := by decide +kernel
theorem d_F_findCampaign_20 : decode prog_1_method_16_code 20 = .ok (.aload_n 0, 1) := by decide +kernel
theorem d_F_findCampaign_21 : decode prog_1_method_16_code 21 = .ok (.getfield 16, 3) := by decide +kernel
theorem d_F_findCampaign_24 : decode prog_1_method_16_code 24 = .ok (.iload_n 1, 1) := by decide +kernel
theorem d_F_findCampaign_25 : decode prog_1_method_16_code 25 = .ok (.iconst 1, 1) := by decide +kernel
theorem d_F_findCampaign_26 : decode prog_1_method_16_code 26 = .ok (.isub, 1) := by decide +kernel
theorem d_F_findCampaign_27 : decode prog_1_method_16_code 27 = .ok (.invokevirtual 149, 3) := by decide +kernel
theorem d_F_findCampaign_30 : decode prog_1_method_16_code 30 = .ok (.checkcast 38, 3) := by decide +kernel
theorem d_F_findCampaign_33 : decode prog_1_method_16_code 33 = .ok (.areturn, 1) := by decide +kernel
-- F_isShare  FleetWaves.isShare(JJ)Z  prog_1_method_26_code maxL 4 ret (some .boolean) code
theorem d_F_isShare_0 : decode prog_1_method_26_code 0 = .ok (.lload_n 2, 1) := by decide +kernel
theorem d_F_isShare_1 : decode prog_1_method_26_code 1 = .ok (.lconst 1, 1) := by decide +kernel
theorem d_F_isShare_2 : decode prog_1_method_26_code 2 = .ok (.lcmp, 1) := by decide +kernel
theorem d_F_isShare_3 : decode prog_1_method_26_code 3 = .ok (.ifCond .lt 27, 3) := by decide +kernel
theorem d_F_isShare_6 : decode prog_1_method_26_code 6 = .ok (.lload_n 2, 1) := by decide +kernel
theorem d_F_isShare_7 : decode prog_1_method_26_code 7 = .ok (.ldc2_w 195, 3) := by decide +kernel
theorem d_F_isShare_10 : decode prog_1_method_26_code 10 = .ok (.lcmp, 1) := by decide +kernel
theorem d_F_isShare_11 : decode prog_1_method_26_code 11 = .ok (.ifCond .gt 19, 3) := by decide +kernel
theorem d_F_isShare_14 : decode prog_1_method_26_code 14 = .ok (.lload_n 0, 1) := by decide +kernel
theorem d_F_isShare_15 : decode prog_1_method_26_code 15 = .ok (.lconst 0, 1) := by decide +kernel
theorem d_F_isShare_16 : decode prog_1_method_26_code 16 = .ok (.lcmp, 1) := by decide +kernel
theorem d_F_isShare_17 : decode prog_1_method_26_code 17 = .ok (.ifCond .lt 13, 3) := by decide +kernel
theorem d_F_isShare_20 : decode prog_1_method_26_code 20 = .ok (.lload_n 0, 1) := by decide +kernel
theorem d_F_isShare_21 : decode prog_1_method_26_code 21 = .ok (.lload_n 2, 1) := by decide +kernel
theorem d_F_isShare_22 : decode prog_1_method_26_code 22 = .ok (.lcmp, 1) := by decide +kernel
theorem d_F_isShare_23 : decode prog_1_method_26_code 23 = .ok (.ifCond .gt 7, 3) := by decide +kernel
theorem d_F_isShare_26 : decode prog_1_method_26_code 26 = .ok (.iconst 1, 1) := by decide +kernel
theorem d_F_isShare_27 : decode prog_1_method_26_code 27 = .ok (.goto 4, 3) := by decide +kernel
theorem d_F_isShare_30 : decode prog_1_method_26_code 30 = .ok (.iconst 0, 1) := by decide +kernel
theorem d_F_isShare_31 : decode prog_1_method_26_code 31 = .ok (.ireturn, 1) := by decide +kernel
-- K_hasGreaterShareThan  FleetWaves$Campaign.hasGreaterShareThan(JJ)Z  prog_2_method_6_code maxL 6 ret (some .boolean) code
theorem d_K_hasGreaterShareThan_0 : decode prog_2_method_6_code 0 = .ok (.aload_n 0, 1) := by decide +kernel
theorem d_K_hasGreaterShareThan_1 : decode prog_2_method_6_code 1 = .ok (.getfield 12, 3) := by decide +kernel
theorem d_K_hasGreaterShareThan_4 : decode prog_2_method_6_code 4 = .ok (.invokevirtual 62, 3) := by decide +kernel
theorem d_K_hasGreaterShareThan_7 : decode prog_2_method_6_code 7 = .ok (.ifCond .eq 5, 3) := by decide +kernel
theorem d_K_hasGreaterShareThan_10 : decode prog_2_method_6_code 10 = .ok (.iconst 0, 1) := by decide +kernel
theorem d_K_hasGreaterShareThan_11 : decode prog_2_method_6_code 11 = .ok (.ireturn, 1) := by decide +kernel
theorem d_K_hasGreaterShareThan_12 : decode prog_2_method_6_code 12 = .ok (.aload_n 0, 1) := by decide +kernel
theorem d_K_hasGreaterShareThan_13 : decode prog_2_method_6_code 13 = .ok (.getfield 12, 3) := by decide +kernel
theorem d_K_hasGreaterShareThan_16 : decode prog_2_method_6_code 16 = .ok (.aload_n 0, 1) := by decide +kernel
theorem d_K_hasGreaterShareThan_17 : decode prog_2_method_6_code 17 = .ok (.getfield 12, 3) := by decide +kernel
theorem d_K_hasGreaterShareThan_20 : decode prog_2_method_6_code 20 = .ok (.invokevirtual 66, 3) := by decide +kernel
theorem d_K_hasGreaterShareThan_23 : decode prog_2_method_6_code 23 = .ok (.iconst 1, 1) := by decide +kernel
theorem d_K_hasGreaterShareThan_24 : decode prog_2_method_6_code 24 = .ok (.isub, 1) := by decide +kernel
theorem d_K_hasGreaterShareThan_25 : decode prog_2_method_6_code 25 = .ok (.invokevirtual 70, 3) := by decide +kernel
theorem d_K_hasGreaterShareThan_28 : decode prog_2_method_6_code 28 = .ok (.checkcast 74, 3) := by decide +kernel
theorem d_K_hasGreaterShareThan_31 : decode prog_2_method_6_code 31 = .ok (.astore 5, 2) := by decide +kernel
theorem d_K_hasGreaterShareThan_33 : decode prog_2_method_6_code 33 = .ok (.lload_n 1, 1) := by decide +kernel
theorem d_K_hasGreaterShareThan_34 : decode prog_2_method_6_code 34 = .ok (.aload 5, 2) := by decide +kernel
theorem d_K_hasGreaterShareThan_36 : decode prog_2_method_6_code 36 = .ok (.getfield 76, 3) := by decide +kernel
theorem d_K_hasGreaterShareThan_39 : decode prog_2_method_6_code 39 = .ok (.lmul, 1) := by decide +kernel
theorem d_K_hasGreaterShareThan_40 : decode prog_2_method_6_code 40 = .ok (.aload 5, 2) := by decide +kernel
theorem d_K_hasGreaterShareThan_42 : decode prog_2_method_6_code 42 = .ok (.getfield 79, 3) := by decide +kernel
theorem d_K_hasGreaterShareThan_45 : decode prog_2_method_6_code 45 = .ok (.lload_n 3, 1) := by decide +kernel
theorem d_K_hasGreaterShareThan_46 : decode prog_2_method_6_code 46 = .ok (.lmul, 1) := by decide +kernel
theorem d_K_hasGreaterShareThan_47 : decode prog_2_method_6_code 47 = .ok (.lcmp, 1) := by decide +kernel
theorem d_K_hasGreaterShareThan_48 : decode prog_2_method_6_code 48 = .ok (.ifCond .ge 7, 3) := by decide +kernel
theorem d_K_hasGreaterShareThan_51 : decode prog_2_method_6_code 51 = .ok (.iconst 1, 1) := by decide +kernel
theorem d_K_hasGreaterShareThan_52 : decode prog_2_method_6_code 52 = .ok (.goto 4, 3) := by decide +kernel
theorem d_K_hasGreaterShareThan_55 : decode prog_2_method_6_code 55 = .ok (.iconst 0, 1) := by decide +kernel
theorem d_K_hasGreaterShareThan_56 : decode prog_2_method_6_code 56 = .ok (.ireturn, 1) := by decide +kernel
-- A_isEmpty  java/util/ArrayList.isEmpty()Z  prog_20_method_9_code maxL 1 ret (some .boolean) code
theorem d_A_isEmpty_0 : decode prog_20_method_9_code 0 = .ok (.aload_n 0, 1) := by decide +kernel
theorem d_A_isEmpty_1 : decode prog_20_method_9_code 1 = .ok (.getfield 48, 3) := by decide +kernel
theorem d_A_isEmpty_4 : decode prog_20_method_9_code 4 = .ok (.ifCond .ne 7, 3) := by decide +kernel
theorem d_A_isEmpty_7 : decode prog_20_method_9_code 7 = .ok (.iconst 1, 1) := by decide +kernel
theorem d_A_isEmpty_8 : decode prog_20_method_9_code 8 = .ok (.goto 4, 3) := by decide +kernel
theorem d_A_isEmpty_11 : decode prog_20_method_9_code 11 = .ok (.iconst 0, 1) := by decide +kernel
theorem d_A_isEmpty_12 : decode prog_20_method_9_code 12 = .ok (.ireturn, 1) := by decide +kernel
-- V_init  FleetWaves$Wave.<init>(JJJ)V  prog_5_method_1_code maxL 7 ret none code
theorem d_V_init_0 : decode prog_5_method_1_code 0 = .ok (.aload_n 0, 1) := by decide +kernel
theorem d_V_init_1 : decode prog_5_method_1_code 1 = .ok (.invokespecial 1, 3) := by decide +kernel
theorem d_V_init_4 : decode prog_5_method_1_code 4 = .ok (.aload_n 0, 1) := by decide +kernel
theorem d_V_init_5 : decode prog_5_method_1_code 5 = .ok (.lload_n 1, 1) := by decide +kernel
theorem d_V_init_6 : decode prog_5_method_1_code 6 = .ok (.putfield 7, 3) := by decide +kernel
theorem d_V_init_9 : decode prog_5_method_1_code 9 = .ok (.aload_n 0, 1) := by decide +kernel
theorem d_V_init_10 : decode prog_5_method_1_code 10 = .ok (.lload_n 3, 1) := by decide +kernel
theorem d_V_init_11 : decode prog_5_method_1_code 11 = .ok (.putfield 13, 3) := by decide +kernel
theorem d_V_init_14 : decode prog_5_method_1_code 14 = .ok (.aload_n 0, 1) := by decide +kernel
theorem d_V_init_15 : decode prog_5_method_1_code 15 = .ok (.lload 5, 2) := by decide +kernel
theorem d_V_init_17 : decode prog_5_method_1_code 17 = .ok (.putfield 16, 3) := by decide +kernel
theorem d_V_init_20 : decode prog_5_method_1_code 20 = .ok (.return_, 1) := by decide +kernel
-- F_due  FleetWaves.due(IJ)I  prog_1_method_5_code maxL 5 ret (some .int) code
theorem d_F_due_0 : decode prog_1_method_5_code 0 = .ok (.aload_n 0, 1) := by decide +kernel
theorem d_F_due_1 : decode prog_1_method_5_code 1 = .ok (.iload_n 1, 1) := by decide +kernel
theorem d_F_due_2 : decode prog_1_method_5_code 2 = .ok (.invokevirtual 84, 3) := by decide +kernel
theorem d_F_due_5 : decode prog_1_method_5_code 5 = .ok (.astore 4, 2) := by decide +kernel
theorem d_F_due_7 : decode prog_1_method_5_code 7 = .ok (.aload 4, 2) := by decide +kernel
theorem d_F_due_9 : decode prog_1_method_5_code 9 = .ok (.ifnonnull 5, 3) := by decide +kernel
theorem d_F_due_12 : decode prog_1_method_5_code 12 = .ok (.iconst (-1), 1) := by decide +kernel
theorem d_F_due_13 : decode prog_1_method_5_code 13 = .ok (.ireturn, 1) := by decide +kernel
theorem d_F_due_14 : decode prog_1_method_5_code 14 = .ok (.lload_n 2, 1) := by decide +kernel
theorem d_F_due_15 : decode prog_1_method_5_code 15 = .ok (.aload_n 0, 1) := by decide +kernel
theorem d_F_due_16 : decode prog_1_method_5_code 16 = .ok (.getfield 66, 3) := by decide +kernel
theorem d_F_due_19 : decode prog_1_method_5_code 19 = .ok (.lcmp, 1) := by decide +kernel
theorem d_F_due_20 : decode prog_1_method_5_code 20 = .ok (.ifCond .ge 6, 3) := by decide +kernel
theorem d_F_due_23 : decode prog_1_method_5_code 23 = .ok (.bipush (-2), 2) := by decide +kernel
theorem d_F_due_25 : decode prog_1_method_5_code 25 = .ok (.ireturn, 1) := by decide +kernel
theorem d_F_due_26 : decode prog_1_method_5_code 26 = .ok (.aload_n 0, 1) := by decide +kernel
theorem d_F_due_27 : decode prog_1_method_5_code 27 = .ok (.lload_n 2, 1) := by decide +kernel
theorem d_F_due_28 : decode prog_1_method_5_code 28 = .ok (.putfield 66, 3) := by decide +kernel
theorem d_F_due_31 : decode prog_1_method_5_code 31 = .ok (.aload 4, 2) := by decide +kernel
theorem d_F_due_33 : decode prog_1_method_5_code 33 = .ok (.getfield 88, 3) := by decide +kernel
theorem d_F_due_36 : decode prog_1_method_5_code 36 = .ok (.ifCond .ne 14, 3) := by decide +kernel
theorem d_F_due_39 : decode prog_1_method_5_code 39 = .ok (.aload 4, 2) := by decide +kernel
theorem d_F_due_41 : decode prog_1_method_5_code 41 = .ok (.aload_n 0, 1) := by decide +kernel
theorem d_F_due_42 : decode prog_1_method_5_code 42 = .ok (.aload 4, 2) := by decide +kernel
theorem d_F_due_44 : decode prog_1_method_5_code 44 = .ok (.invokevirtual 91, 3) := by decide +kernel
theorem d_F_due_47 : decode prog_1_method_5_code 47 = .ok (.putfield 88, 3) := by decide +kernel
theorem d_F_due_50 : decode prog_1_method_5_code 50 = .ok (.aload 4, 2) := by decide +kernel
theorem d_F_due_52 : decode prog_1_method_5_code 52 = .ok (.getfield 88, 3) := by decide +kernel
theorem d_F_due_55 : decode prog_1_method_5_code 55 = .ok (.ireturn, 1) := by decide +kernel
-- F_findCar  FleetWaves.findCar(I)LFleetWaves$Car;  prog_1_method_15_code maxL 2 ret (some (.object "FleetWaves$Car")) code
theorem d_F_findCar_0 : decode prog_1_method_15_code 0 = .ok (.iload_n 1, 1) := by decide +kernel
theorem d_F_findCar_1 : decode prog_1_method_15_code 1 = .ok (.iconst 1, 1) := by decide +kernel
theorem d_F_findCar_2 : decode prog_1_method_15_code 2 = .ok (.if_icmp .lt 14, 3) := by decide +kernel
theorem d_F_findCar_5 : decode prog_1_method_15_code 5 = .ok (.iload_n 1, 1) := by decide +kernel
theorem d_F_findCar_6 : decode prog_1_method_15_code 6 = .ok (.aload_n 0, 1) := by decide +kernel
theorem d_F_findCar_7 : decode prog_1_method_15_code 7 = .ok (.getfield 10, 3) := by decide +kernel
theorem d_F_findCar_10 : decode prog_1_method_15_code 10 = .ok (.invokevirtual 23, 3) := by decide +kernel
theorem d_F_findCar_13 : decode prog_1_method_15_code 13 = .ok (.if_icmp .le 7, 3) := by decide +kernel
theorem d_F_findCar_16 : decode prog_1_method_15_code 16 = .ok (.aconst_null, 1) := by decide +kernel
theorem d_F_findCar_17 : decode prog_1_method_15_code 17 = .ok (.goto 16, 3) := by decide +kernel
theorem d_F_findCar_20 : decode prog_1_method_15_code 20 = .ok (.aload_n 0, 1) := by decide +kernel
theorem d_F_findCar_21 : decode prog_1_method_15_code 21 = .ok (.getfield 10, 3) := by decide +kernel
theorem d_F_findCar_24 : decode prog_1_method_15_code 24 = .ok (.iload_n 1, 1) := by decide +kernel
theorem d_F_findCar_25 : decode prog_1_method_15_code 25 = .ok (.iconst 1, 1) := by decide +kernel
theorem d_F_findCar_26 : decode prog_1_method_15_code 26 = .ok (.isub, 1) := by decide +kernel
theorem d_F_findCar_27 : decode prog_1_method_15_code 27 = .ok (.invokevirtual 149, 3) := by decide +kernel
theorem d_F_findCar_30 : decode prog_1_method_15_code 30 = .ok (.checkcast 27, 3) := by decide +kernel
theorem d_F_findCar_33 : decode prog_1_method_15_code 33 = .ok (.areturn, 1) := by decide +kernel
-- F_nextFor  FleetWaves.nextFor(LFleetWaves$Car;)I  prog_1_method_21_code maxL 9 ret (some .int) code
theorem d_F_nextFor_0 : decode prog_1_method_21_code 0 = .ok (.aload_n 1, 1) := by decide +kernel
theorem d_F_nextFor_1 : decode prog_1_method_21_code 1 = .ok (.getfield 142, 3) := by decide +kernel
theorem d_F_nextFor_4 : decode prog_1_method_21_code 4 = .ok (.ifCond .ne 5, 3) := by decide +kernel
theorem d_F_nextFor_7 : decode prog_1_method_21_code 7 = .ok (.iconst 0, 1) := by decide +kernel
theorem d_F_nextFor_8 : decode prog_1_method_21_code 8 = .ok (.ireturn, 1) := by decide +kernel
theorem d_F_nextFor_9 : decode prog_1_method_21_code 9 = .ok (.iconst 0, 1) := by decide +kernel
theorem d_F_nextFor_10 : decode prog_1_method_21_code 10 = .ok (.istore_n 2, 1) := by decide +kernel
theorem d_F_nextFor_11 : decode prog_1_method_21_code 11 = .ok (.lconst 0, 1) := by decide +kernel
theorem d_F_nextFor_12 : decode prog_1_method_21_code 12 = .ok (.lstore_n 3, 1) := by decide +kernel
theorem d_F_nextFor_13 : decode prog_1_method_21_code 13 = .ok (.iconst 0, 1) := by decide +kernel
theorem d_F_nextFor_14 : decode prog_1_method_21_code 14 = .ok (.istore 5, 2) := by decide +kernel
theorem d_F_nextFor_16 : decode prog_1_method_21_code 16 = .ok (.iload 5, 2) := by decide +kernel
theorem d_F_nextFor_18 : decode prog_1_method_21_code 18 = .ok (.aload_n 0, 1) := by decide +kernel
theorem d_F_nextFor_19 : decode prog_1_method_21_code 19 = .ok (.getfield 16, 3) := by decide +kernel
theorem d_F_nextFor_22 : decode prog_1_method_21_code 22 = .ok (.invokevirtual 23, 3) := by decide +kernel
theorem d_F_nextFor_25 : decode prog_1_method_21_code 25 = .ok (.if_icmp .ge 73, 3) := by decide +kernel
theorem d_F_nextFor_28 : decode prog_1_method_21_code 28 = .ok (.aload_n 0, 1) := by decide +kernel
theorem d_F_nextFor_29 : decode prog_1_method_21_code 29 = .ok (.getfield 16, 3) := by decide +kernel
theorem d_F_nextFor_32 : decode prog_1_method_21_code 32 = .ok (.iload 5, 2) := by decide +kernel
theorem d_F_nextFor_34 : decode prog_1_method_21_code 34 = .ok (.invokevirtual 149, 3) := by decide +kernel
theorem d_F_nextFor_37 : decode prog_1_method_21_code 37 = .ok (.checkcast 38, 3) := by decide +kernel
theorem d_F_nextFor_40 : decode prog_1_method_21_code 40 = .ok (.astore 6, 2) := by decide +kernel
theorem d_F_nextFor_42 : decode prog_1_method_21_code 42 = .ok (.aload_n 0, 1) := by decide +kernel
theorem d_F_nextFor_43 : decode prog_1_method_21_code 43 = .ok (.aload 6, 2) := by decide +kernel
theorem d_F_nextFor_45 : decode prog_1_method_21_code 45 = .ok (.aload_n 1, 1) := by decide +kernel
theorem d_F_nextFor_46 : decode prog_1_method_21_code 46 = .ok (.invokevirtual 181, 3) := by decide +kernel
theorem d_F_nextFor_49 : decode prog_1_method_21_code 49 = .ok (.ifCond .ne 6, 3) := by decide +kernel
theorem d_F_nextFor_52 : decode prog_1_method_21_code 52 = .ok (.goto 40, 3) := by decide +kernel
theorem d_F_nextFor_55 : decode prog_1_method_21_code 55 = .ok (.aload 6, 2) := by decide +kernel
theorem d_F_nextFor_57 : decode prog_1_method_21_code 57 = .ok (.aload_n 1, 1) := by decide +kernel
theorem d_F_nextFor_58 : decode prog_1_method_21_code 58 = .ok (.invokevirtual 185, 3) := by decide +kernel
theorem d_F_nextFor_61 : decode prog_1_method_21_code 61 = .ok (.lstore 7, 2) := by decide +kernel
theorem d_F_nextFor_63 : decode prog_1_method_21_code 63 = .ok (.lload 7, 2) := by decide +kernel
theorem d_F_nextFor_65 : decode prog_1_method_21_code 65 = .ok (.ldc2_w 119, 3) := by decide +kernel
theorem d_F_nextFor_68 : decode prog_1_method_21_code 68 = .ok (.lcmp, 1) := by decide +kernel
theorem d_F_nextFor_69 : decode prog_1_method_21_code 69 = .ok (.ifCond .eq 23, 3) := by decide +kernel
theorem d_F_nextFor_72 : decode prog_1_method_21_code 72 = .ok (.iload_n 2, 1) := by decide +kernel
theorem d_F_nextFor_73 : decode prog_1_method_21_code 73 = .ok (.ifCond .eq 10, 3) := by decide +kernel
theorem d_F_nextFor_76 : decode prog_1_method_21_code 76 = .ok (.lload 7, 2) := by decide +kernel
theorem d_F_nextFor_78 : decode prog_1_method_21_code 78 = .ok (.lload_n 3, 1) := by decide +kernel
theorem d_F_nextFor_79 : decode prog_1_method_21_code 79 = .ok (.lcmp, 1) := by decide +kernel
theorem d_F_nextFor_80 : decode prog_1_method_21_code 80 = .ok (.ifCond .ge 12, 3) := by decide +kernel
theorem d_F_nextFor_83 : decode prog_1_method_21_code 83 = .ok (.aload 6, 2) := by decide +kernel
theorem d_F_nextFor_85 : decode prog_1_method_21_code 85 = .ok (.getfield 54, 3) := by decide +kernel
theorem d_F_nextFor_88 : decode prog_1_method_21_code 88 = .ok (.istore_n 2, 1) := by decide +kernel
theorem d_F_nextFor_89 : decode prog_1_method_21_code 89 = .ok (.lload 7, 2) := by decide +kernel
theorem d_F_nextFor_91 : decode prog_1_method_21_code 91 = .ok (.lstore_n 3, 1) := by decide +kernel
theorem d_F_nextFor_92 : decode prog_1_method_21_code 92 = .ok (.iinc 5 1, 3) := by decide +kernel
theorem d_F_nextFor_95 : decode prog_1_method_21_code 95 = .ok (.goto (-79), 3) := by decide +kernel
theorem d_F_nextFor_98 : decode prog_1_method_21_code 98 = .ok (.iload_n 2, 1) := by decide +kernel
theorem d_F_nextFor_99 : decode prog_1_method_21_code 99 = .ok (.ireturn, 1) := by decide +kernel
-- F_isOpenTo  FleetWaves.isOpenTo(LFleetWaves$Campaign;LFleetWaves$Car;)Z  prog_1_method_22_code maxL 3 ret (some .boolean) code
theorem d_F_isOpenTo_0 : decode prog_1_method_22_code 0 = .ok (.aload_n 1, 1) := by decide +kernel
theorem d_F_isOpenTo_1 : decode prog_1_method_22_code 1 = .ok (.getfield 73, 3) := by decide +kernel
theorem d_F_isOpenTo_4 : decode prog_1_method_22_code 4 = .ok (.iconst 1, 1) := by decide +kernel
theorem d_F_isOpenTo_5 : decode prog_1_method_22_code 5 = .ok (.if_icmp .ne 39, 3) := by decide +kernel
theorem d_F_isOpenTo_8 : decode prog_1_method_22_code 8 = .ok (.aload_n 1, 1) := by decide +kernel
theorem d_F_isOpenTo_9 : decode prog_1_method_22_code 9 = .ok (.aload_n 2, 1) := by decide +kernel
theorem d_F_isOpenTo_10 : decode prog_1_method_22_code 10 = .ok (.invokevirtual 153, 3) := by decide +kernel
theorem d_F_isOpenTo_13 : decode prog_1_method_22_code 13 = .ok (.ifCond .eq 31, 3) := by decide +kernel
theorem d_F_isOpenTo_16 : decode prog_1_method_22_code 16 = .ok (.aload_n 2, 1) := by decide +kernel
theorem d_F_isOpenTo_17 : decode prog_1_method_22_code 17 = .ok (.aload_n 1, 1) := by decide +kernel
theorem d_F_isOpenTo_18 : decode prog_1_method_22_code 18 = .ok (.getfield 54, 3) := by decide +kernel
theorem d_F_isOpenTo_21 : decode prog_1_method_22_code 21 = .ok (.aload_n 0, 1) := by decide +kernel
theorem d_F_isOpenTo_22 : decode prog_1_method_22_code 22 = .ok (.getfield 66, 3) := by decide +kernel
theorem d_F_isOpenTo_25 : decode prog_1_method_22_code 25 = .ok (.invokevirtual 188, 3) := by decide +kernel
theorem d_F_isOpenTo_28 : decode prog_1_method_22_code 28 = .ok (.ifCond .eq 16, 3) := by decide +kernel
theorem d_F_isOpenTo_31 : decode prog_1_method_22_code 31 = .ok (.aload_n 0, 1) := by decide +kernel
theorem d_F_isOpenTo_32 : decode prog_1_method_22_code 32 = .ok (.aload_n 1, 1) := by decide +kernel
theorem d_F_isOpenTo_33 : decode prog_1_method_22_code 33 = .ok (.aload_n 2, 1) := by decide +kernel
theorem d_F_isOpenTo_34 : decode prog_1_method_22_code 34 = .ok (.invokevirtual 192, 3) := by decide +kernel
theorem d_F_isOpenTo_37 : decode prog_1_method_22_code 37 = .ok (.ifCond .ne 7, 3) := by decide +kernel
theorem d_F_isOpenTo_40 : decode prog_1_method_22_code 40 = .ok (.iconst 1, 1) := by decide +kernel
theorem d_F_isOpenTo_41 : decode prog_1_method_22_code 41 = .ok (.goto 4, 3) := by decide +kernel
theorem d_F_isOpenTo_44 : decode prog_1_method_22_code 44 = .ok (.iconst 0, 1) := by decide +kernel
theorem d_F_isOpenTo_45 : decode prog_1_method_22_code 45 = .ok (.ireturn, 1) := by decide +kernel
-- K_isMeantFor  FleetWaves$Campaign.isMeantFor(LFleetWaves$Car;)Z  prog_2_method_4_code maxL 2 ret (some .boolean) code
theorem d_K_isMeantFor_0 : decode prog_2_method_4_code 0 = .ok (.aload_n 0, 1) := by decide +kernel
theorem d_K_isMeantFor_1 : decode prog_2_method_4_code 1 = .ok (.getfield 38, 3) := by decide +kernel
theorem d_K_isMeantFor_4 : decode prog_2_method_4_code 4 = .ok (.ifCond .le 46, 3) := by decide +kernel
theorem d_K_isMeantFor_7 : decode prog_2_method_4_code 7 = .ok (.aload_n 1, 1) := by decide +kernel
theorem d_K_isMeantFor_8 : decode prog_2_method_4_code 8 = .ok (.getfield 47, 3) := by decide +kernel
theorem d_K_isMeantFor_11 : decode prog_2_method_4_code 11 = .ok (.aload_n 0, 1) := by decide +kernel
theorem d_K_isMeantFor_12 : decode prog_2_method_4_code 12 = .ok (.getfield 38, 3) := by decide +kernel
theorem d_K_isMeantFor_15 : decode prog_2_method_4_code 15 = .ok (.i2l, 1) := by decide +kernel
theorem d_K_isMeantFor_16 : decode prog_2_method_4_code 16 = .ok (.lrem, 1) := by decide +kernel
theorem d_K_isMeantFor_17 : decode prog_2_method_4_code 17 = .ok (.aload_n 0, 1) := by decide +kernel
theorem d_K_isMeantFor_18 : decode prog_2_method_4_code 18 = .ok (.getfield 41, 3) := by decide +kernel
theorem d_K_isMeantFor_21 : decode prog_2_method_4_code 21 = .ok (.aload_n 0, 1) := by decide +kernel
theorem d_K_isMeantFor_22 : decode prog_2_method_4_code 22 = .ok (.getfield 38, 3) := by decide +kernel
theorem d_K_isMeantFor_25 : decode prog_2_method_4_code 25 = .ok (.irem, 1) := by decide +kernel
theorem d_K_isMeantFor_26 : decode prog_2_method_4_code 26 = .ok (.i2l, 1) := by decide +kernel
theorem d_K_isMeantFor_27 : decode prog_2_method_4_code 27 = .ok (.lcmp, 1) := by decide +kernel
theorem d_K_isMeantFor_28 : decode prog_2_method_4_code 28 = .ok (.ifCond .ne 22, 3) := by decide +kernel
theorem d_K_isMeantFor_31 : decode prog_2_method_4_code 31 = .ok (.aload_n 1, 1) := by decide +kernel
theorem d_K_isMeantFor_32 : decode prog_2_method_4_code 32 = .ok (.aload_n 0, 1) := by decide +kernel
theorem d_K_isMeantFor_33 : decode prog_2_method_4_code 33 = .ok (.getfield 29, 3) := by decide +kernel
theorem d_K_isMeantFor_36 : decode prog_2_method_4_code 36 = .ok (.aload_n 0, 1) := by decide +kernel
theorem d_K_isMeantFor_37 : decode prog_2_method_4_code 37 = .ok (.getfield 44, 3) := by decide +kernel
theorem d_K_isMeantFor_40 : decode prog_2_method_4_code 40 = .ok (.invokevirtual 52, 3) := by decide +kernel
theorem d_K_isMeantFor_43 : decode prog_2_method_4_code 43 = .ok (.ifCond .eq 7, 3) := by decide +kernel
theorem d_K_isMeantFor_46 : decode prog_2_method_4_code 46 = .ok (.iconst 1, 1) := by decide +kernel
theorem d_K_isMeantFor_47 : decode prog_2_method_4_code 47 = .ok (.goto 4, 3) := by decide +kernel
theorem d_K_isMeantFor_50 : decode prog_2_method_4_code 50 = .ok (.iconst 0, 1) := by decide +kernel
theorem d_K_isMeantFor_51 : decode prog_2_method_4_code 51 = .ok (.ireturn, 1) := by decide +kernel
-- C_isOlder  FleetWaves$Car.isOlder(II)Z  prog_3_method_2_code maxL 3 ret (some .boolean) code
theorem d_C_isOlder_0 : decode prog_3_method_2_code 0 = .ok (.iload_n 1, 1) := by decide +kernel
theorem d_C_isOlder_1 : decode prog_3_method_2_code 1 = .ok (.ifCond .lt 26, 3) := by decide +kernel
theorem d_C_isOlder_4 : decode prog_3_method_2_code 4 = .ok (.iload_n 1, 1) := by decide +kernel
theorem d_C_isOlder_5 : decode prog_3_method_2_code 5 = .ok (.aload_n 0, 1) := by decide +kernel
theorem d_C_isOlder_6 : decode prog_3_method_2_code 6 = .ok (.getfield 9, 3) := by decide +kernel
theorem d_C_isOlder_9 : decode prog_3_method_2_code 9 = .ok (.arraylength, 1) := by decide +kernel
theorem d_C_isOlder_10 : decode prog_3_method_2_code 10 = .ok (.if_icmp .ge 17, 3) := by decide +kernel
theorem d_C_isOlder_13 : decode prog_3_method_2_code 13 = .ok (.aload_n 0, 1) := by decide +kernel
theorem d_C_isOlder_14 : decode prog_3_method_2_code 14 = .ok (.getfield 9, 3) := by decide +kernel
theorem d_C_isOlder_17 : decode prog_3_method_2_code 17 = .ok (.iload_n 1, 1) := by decide +kernel
theorem d_C_isOlder_18 : decode prog_3_method_2_code 18 = .ok (.iaload, 1) := by decide +kernel
theorem d_C_isOlder_19 : decode prog_3_method_2_code 19 = .ok (.iload_n 2, 1) := by decide +kernel
theorem d_C_isOlder_20 : decode prog_3_method_2_code 20 = .ok (.if_icmp .ge 7, 3) := by decide +kernel
theorem d_C_isOlder_23 : decode prog_3_method_2_code 23 = .ok (.iconst 1, 1) := by decide +kernel
theorem d_C_isOlder_24 : decode prog_3_method_2_code 24 = .ok (.goto 4, 3) := by decide +kernel
theorem d_C_isOlder_27 : decode prog_3_method_2_code 27 = .ok (.iconst 0, 1) := by decide +kernel
theorem d_C_isOlder_28 : decode prog_3_method_2_code 28 = .ok (.ireturn, 1) := by decide +kernel
-- C_mayTry  FleetWaves$Car.mayTry(IJ)Z  prog_3_method_5_code maxL 5 ret (some .boolean) code
theorem d_C_mayTry_0 : decode prog_3_method_5_code 0 = .ok (.aload_n 0, 1) := by decide +kernel
theorem d_C_mayTry_1 : decode prog_3_method_5_code 1 = .ok (.iload_n 1, 1) := by decide +kernel
theorem d_C_mayTry_2 : decode prog_3_method_5_code 2 = .ok (.invokevirtual 23, 3) := by decide +kernel
theorem d_C_mayTry_5 : decode prog_3_method_5_code 5 = .ok (.astore 4, 2) := by decide +kernel
theorem d_C_mayTry_7 : decode prog_3_method_5_code 7 = .ok (.aload 4, 2) := by decide +kernel
theorem d_C_mayTry_9 : decode prog_3_method_5_code 9 = .ok (.ifnull 26, 3) := by decide +kernel
theorem d_C_mayTry_12 : decode prog_3_method_5_code 12 = .ok (.aload 4, 2) := by decide +kernel
theorem d_C_mayTry_14 : decode prog_3_method_5_code 14 = .ok (.getfield 36, 3) := by decide +kernel
theorem d_C_mayTry_17 : decode prog_3_method_5_code 17 = .ok (.iconst 2, 1) := by decide +kernel
theorem d_C_mayTry_18 : decode prog_3_method_5_code 18 = .ok (.if_icmp .ge 21, 3) := by decide +kernel
theorem d_C_mayTry_21 : decode prog_3_method_5_code 21 = .ok (.lload_n 2, 1) := by decide +kernel
theorem d_C_mayTry_22 : decode prog_3_method_5_code 22 = .ok (.aload 4, 2) := by decide +kernel
theorem d_C_mayTry_24 : decode prog_3_method_5_code 24 = .ok (.getfield 40, 3) := by decide +kernel
theorem d_C_mayTry_27 : decode prog_3_method_5_code 27 = .ok (.lsub, 1) := by decide +kernel
theorem d_C_mayTry_28 : decode prog_3_method_5_code 28 = .ok (.ldc2_w 43, 3) := by decide +kernel
theorem d_C_mayTry_31 : decode prog_3_method_5_code 31 = .ok (.lcmp, 1) := by decide +kernel
theorem d_C_mayTry_32 : decode prog_3_method_5_code 32 = .ok (.ifCond .lt 7, 3) := by decide +kernel
theorem d_C_mayTry_35 : decode prog_3_method_5_code 35 = .ok (.iconst 1, 1) := by decide +kernel
theorem d_C_mayTry_36 : decode prog_3_method_5_code 36 = .ok (.goto 4, 3) := by decide +kernel
theorem d_C_mayTry_39 : decode prog_3_method_5_code 39 = .ok (.iconst 0, 1) := by decide +kernel
theorem d_C_mayTry_40 : decode prog_3_method_5_code 40 = .ok (.ireturn, 1) := by decide +kernel
-- C_failureAt  FleetWaves$Car.failureAt(I)LFleetWaves$Failure;  prog_3_method_7_code maxL 3 ret (some (.object "FleetWaves$Failure")) code
theorem d_C_failureAt_0 : decode prog_3_method_7_code 0 = .ok (.aload_n 0, 1) := by decide +kernel
theorem d_C_failureAt_1 : decode prog_3_method_7_code 1 = .ok (.getfield 29, 3) := by decide +kernel
theorem d_C_failureAt_4 : decode prog_3_method_7_code 4 = .ok (.astore_n 2, 1) := by decide +kernel
theorem d_C_failureAt_5 : decode prog_3_method_7_code 5 = .ok (.aload_n 2, 1) := by decide +kernel
theorem d_C_failureAt_6 : decode prog_3_method_7_code 6 = .ok (.ifnull 21, 3) := by decide +kernel
theorem d_C_failureAt_9 : decode prog_3_method_7_code 9 = .ok (.aload_n 2, 1) := by decide +kernel
theorem d_C_failureAt_10 : decode prog_3_method_7_code 10 = .ok (.getfield 48, 3) := by decide +kernel
theorem d_C_failureAt_13 : decode prog_3_method_7_code 13 = .ok (.iload_n 1, 1) := by decide +kernel
theorem d_C_failureAt_14 : decode prog_3_method_7_code 14 = .ok (.if_icmp .ne 5, 3) := by decide +kernel
theorem d_C_failureAt_17 : decode prog_3_method_7_code 17 = .ok (.aload_n 2, 1) := by decide +kernel
theorem d_C_failureAt_18 : decode prog_3_method_7_code 18 = .ok (.areturn, 1) := by decide +kernel
theorem d_C_failureAt_19 : decode prog_3_method_7_code 19 = .ok (.aload_n 2, 1) := by decide +kernel
theorem d_C_failureAt_20 : decode prog_3_method_7_code 20 = .ok (.getfield 45, 3) := by decide +kernel
theorem d_C_failureAt_23 : decode prog_3_method_7_code 23 = .ok (.astore_n 2, 1) := by decide +kernel
theorem d_C_failureAt_24 : decode prog_3_method_7_code 24 = .ok (.goto (-19), 3) := by decide +kernel
theorem d_C_failureAt_27 : decode prog_3_method_7_code 27 = .ok (.aconst_null, 1) := by decide +kernel
theorem d_C_failureAt_28 : decode prog_3_method_7_code 28 = .ok (.areturn, 1) := by decide +kernel
-- F_isHeldBack  FleetWaves.isHeldBack(LFleetWaves$Campaign;LFleetWaves$Car;)Z  prog_1_method_23_code maxL 5 ret (some .boolean) code
theorem d_F_isHeldBack_0 : decode prog_1_method_23_code 0 = .ok (.iconst 0, 1) := by decide +kernel
theorem d_F_isHeldBack_1 : decode prog_1_method_23_code 1 = .ok (.istore_n 3, 1) := by decide +kernel
theorem d_F_isHeldBack_2 : decode prog_1_method_23_code 2 = .ok (.iload_n 3, 1) := by decide +kernel
theorem d_F_isHeldBack_3 : decode prog_1_method_23_code 3 = .ok (.aload_n 0, 1) := by decide +kernel
theorem d_F_isHeldBack_4 : decode prog_1_method_23_code 4 = .ok (.getfield 16, 3) := by decide +kernel
theorem d_F_isHeldBack_7 : decode prog_1_method_23_code 7 = .ok (.invokevirtual 23, 3) := by decide +kernel
theorem d_F_isHeldBack_10 : decode prog_1_method_23_code 10 = .ok (.if_icmp .ge 54, 3) := by decide +kernel
theorem d_F_isHeldBack_13 : decode prog_1_method_23_code 13 = .ok (.aload_n 0, 1) := by decide +kernel
theorem d_F_isHeldBack_14 : decode prog_1_method_23_code 14 = .ok (.getfield 16, 3) := by decide +kernel
theorem d_F_isHeldBack_17 : decode prog_1_method_23_code 17 = .ok (.iload_n 3, 1) := by decide +kernel
theorem d_F_isHeldBack_18 : decode prog_1_method_23_code 18 = .ok (.invokevirtual 149, 3) := by decide +kernel
theorem d_F_isHeldBack_21 : decode prog_1_method_23_code 21 = .ok (.checkcast 38, 3) := by decide +kernel
theorem d_F_isHeldBack_24 : decode prog_1_method_23_code 24 = .ok (.astore 4, 2) := by decide +kernel
theorem d_F_isHeldBack_26 : decode prog_1_method_23_code 26 = .ok (.aload_n 1, 1) := by decide +kernel
theorem d_F_isHeldBack_27 : decode prog_1_method_23_code 27 = .ok (.getfield 172, 3) := by decide +kernel
theorem d_F_isHeldBack_30 : decode prog_1_method_23_code 30 = .ok (.aload 4, 2) := by decide +kernel
theorem d_F_isHeldBack_32 : decode prog_1_method_23_code 32 = .ok (.invokestatic 168, 3) := by decide +kernel
theorem d_F_isHeldBack_35 : decode prog_1_method_23_code 35 = .ok (.ifCond .eq 23, 3) := by decide +kernel
theorem d_F_isHeldBack_38 : decode prog_1_method_23_code 38 = .ok (.aload 4, 2) := by decide +kernel
theorem d_F_isHeldBack_40 : decode prog_1_method_23_code 40 = .ok (.getfield 73, 3) := by decide +kernel
theorem d_F_isHeldBack_43 : decode prog_1_method_23_code 43 = .ok (.iconst 3, 1) := by decide +kernel
theorem d_F_isHeldBack_44 : decode prog_1_method_23_code 44 = .ok (.if_icmp .eq 14, 3) := by decide +kernel
theorem d_F_isHeldBack_47 : decode prog_1_method_23_code 47 = .ok (.aload 4, 2) := by decide +kernel
theorem d_F_isHeldBack_49 : decode prog_1_method_23_code 49 = .ok (.aload_n 2, 1) := by decide +kernel
theorem d_F_isHeldBack_50 : decode prog_1_method_23_code 50 = .ok (.invokevirtual 153, 3) := by decide +kernel
theorem d_F_isHeldBack_53 : decode prog_1_method_23_code 53 = .ok (.ifCond .eq 5, 3) := by decide +kernel
theorem d_F_isHeldBack_56 : decode prog_1_method_23_code 56 = .ok (.iconst 1, 1) := by decide +kernel
theorem d_F_isHeldBack_57 : decode prog_1_method_23_code 57 = .ok (.ireturn, 1) := by decide +kernel
theorem d_F_isHeldBack_58 : decode prog_1_method_23_code 58 = .ok (.iinc 3 1, 3) := by decide +kernel
theorem d_F_isHeldBack_61 : decode prog_1_method_23_code 61 = .ok (.goto (-59), 3) := by decide +kernel
theorem d_F_isHeldBack_64 : decode prog_1_method_23_code 64 = .ok (.iconst 0, 1) := by decide +kernel
theorem d_F_isHeldBack_65 : decode prog_1_method_23_code 65 = .ok (.ireturn, 1) := by decide +kernel
-- F_contains  FleetWaves.contains(JLFleetWaves$Campaign;)Z  prog_1_method_25_code maxL 3 ret (some .boolean) code
theorem d_F_contains_0 : decode prog_1_method_25_code 0 = .ok (.lload_n 0, 1) := by decide +kernel
theorem d_F_contains_1 : decode prog_1_method_25_code 1 = .ok (.aload_n 2, 1) := by decide +kernel
theorem d_F_contains_2 : decode prog_1_method_25_code 2 = .ok (.invokevirtual 175, 3) := by decide +kernel
theorem d_F_contains_5 : decode prog_1_method_25_code 5 = .ok (.land, 1) := by decide +kernel
theorem d_F_contains_6 : decode prog_1_method_25_code 6 = .ok (.lconst 0, 1) := by decide +kernel
theorem d_F_contains_7 : decode prog_1_method_25_code 7 = .ok (.lcmp, 1) := by decide +kernel
theorem d_F_contains_8 : decode prog_1_method_25_code 8 = .ok (.ifCond .eq 7, 3) := by decide +kernel
theorem d_F_contains_11 : decode prog_1_method_25_code 11 = .ok (.iconst 1, 1) := by decide +kernel
theorem d_F_contains_12 : decode prog_1_method_25_code 12 = .ok (.goto 4, 3) := by decide +kernel
theorem d_F_contains_15 : decode prog_1_method_25_code 15 = .ok (.iconst 0, 1) := by decide +kernel
theorem d_F_contains_16 : decode prog_1_method_25_code 16 = .ok (.ireturn, 1) := by decide +kernel
-- K_inWaveSince  FleetWaves$Campaign.inWaveSince(LFleetWaves$Car;)J  prog_2_method_7_code maxL 6 ret (some .long) code
theorem d_K_inWaveSince_0 : decode prog_2_method_7_code 0 = .ok (.aload_n 0, 1) := by decide +kernel
theorem d_K_inWaveSince_1 : decode prog_2_method_7_code 1 = .ok (.aload_n 1, 1) := by decide +kernel
theorem d_K_inWaveSince_2 : decode prog_2_method_7_code 2 = .ok (.invokevirtual 82, 3) := by decide +kernel
theorem d_K_inWaveSince_5 : decode prog_2_method_7_code 5 = .ok (.lstore_n 2, 1) := by decide +kernel
theorem d_K_inWaveSince_6 : decode prog_2_method_7_code 6 = .ok (.iconst 0, 1) := by decide +kernel
theorem d_K_inWaveSince_7 : decode prog_2_method_7_code 7 = .ok (.istore 4, 2) := by decide +kernel
theorem d_K_inWaveSince_9 : decode prog_2_method_7_code 9 = .ok (.iload 4, 2) := by decide +kernel
theorem d_K_inWaveSince_11 : decode prog_2_method_7_code 11 = .ok (.aload_n 0, 1) := by decide +kernel
theorem d_K_inWaveSince_12 : decode prog_2_method_7_code 12 = .ok (.getfield 12, 3) := by decide +kernel
theorem d_K_inWaveSince_15 : decode prog_2_method_7_code 15 = .ok (.invokevirtual 66, 3) := by decide +kernel
theorem d_K_inWaveSince_18 : decode prog_2_method_7_code 18 = .ok (.if_icmp .ge 38, 3) := by decide +kernel
theorem d_K_inWaveSince_21 : decode prog_2_method_7_code 21 = .ok (.aload_n 0, 1) := by decide +kernel
theorem d_K_inWaveSince_22 : decode prog_2_method_7_code 22 = .ok (.getfield 12, 3) := by decide +kernel
theorem d_K_inWaveSince_25 : decode prog_2_method_7_code 25 = .ok (.iload 4, 2) := by decide +kernel
theorem d_K_inWaveSince_27 : decode prog_2_method_7_code 27 = .ok (.invokevirtual 70, 3) := by decide +kernel
theorem d_K_inWaveSince_30 : decode prog_2_method_7_code 30 = .ok (.checkcast 74, 3) := by decide +kernel
theorem d_K_inWaveSince_33 : decode prog_2_method_7_code 33 = .ok (.astore 5, 2) := by decide +kernel
theorem d_K_inWaveSince_35 : decode prog_2_method_7_code 35 = .ok (.aload 5, 2) := by decide +kernel
theorem d_K_inWaveSince_37 : decode prog_2_method_7_code 37 = .ok (.lload_n 2, 1) := by decide +kernel
theorem d_K_inWaveSince_38 : decode prog_2_method_7_code 38 = .ok (.invokevirtual 86, 3) := by decide +kernel
theorem d_K_inWaveSince_41 : decode prog_2_method_7_code 41 = .ok (.ifCond .eq 9, 3) := by decide +kernel
theorem d_K_inWaveSince_44 : decode prog_2_method_7_code 44 = .ok (.aload 5, 2) := by decide +kernel
theorem d_K_inWaveSince_46 : decode prog_2_method_7_code 46 = .ok (.getfield 90, 3) := by decide +kernel
theorem d_K_inWaveSince_49 : decode prog_2_method_7_code 49 = .ok (.lreturn, 1) := by decide +kernel
theorem d_K_inWaveSince_50 : decode prog_2_method_7_code 50 = .ok (.iinc 4 1, 3) := by decide +kernel
theorem d_K_inWaveSince_53 : decode prog_2_method_7_code 53 = .ok (.goto (-44), 3) := by decide +kernel
theorem d_K_inWaveSince_56 : decode prog_2_method_7_code 56 = .ok (.ldc2_w 93, 3) := by decide +kernel
theorem d_K_inWaveSince_59 : decode prog_2_method_7_code 59 = .ok (.lreturn, 1) := by decide +kernel
-- K_digestOf  FleetWaves$Campaign.digestOf(LFleetWaves$Car;)J  prog_2_method_5_code maxL 4 ret (some .long) code
theorem d_K_digestOf_0 : decode prog_2_method_5_code 0 = .ok (.ldc2_w 56, 3) := by decide +kernel
theorem d_K_digestOf_3 : decode prog_2_method_5_code 3 = .ok (.aload_n 1, 1) := by decide +kernel
theorem d_K_digestOf_4 : decode prog_2_method_5_code 4 = .ok (.getfield 47, 3) := by decide +kernel
theorem d_K_digestOf_7 : decode prog_2_method_5_code 7 = .ok (.lmul, 1) := by decide +kernel
theorem d_K_digestOf_8 : decode prog_2_method_5_code 8 = .ok (.aload_n 0, 1) := by decide +kernel
theorem d_K_digestOf_9 : decode prog_2_method_5_code 9 = .ok (.getfield 22, 3) := by decide +kernel
theorem d_K_digestOf_12 : decode prog_2_method_5_code 12 = .ok (.i2l, 1) := by decide +kernel
theorem d_K_digestOf_13 : decode prog_2_method_5_code 13 = .ok (.ladd, 1) := by decide +kernel
theorem d_K_digestOf_14 : decode prog_2_method_5_code 14 = .ok (.lstore_n 2, 1) := by decide +kernel
theorem d_K_digestOf_15 : decode prog_2_method_5_code 15 = .ok (.lload_n 2, 1) := by decide +kernel
theorem d_K_digestOf_16 : decode prog_2_method_5_code 16 = .ok (.lload_n 2, 1) := by decide +kernel
theorem d_K_digestOf_17 : decode prog_2_method_5_code 17 = .ok (.bipush 33, 2) := by decide +kernel
theorem d_K_digestOf_19 : decode prog_2_method_5_code 19 = .ok (.lushr, 1) := by decide +kernel
theorem d_K_digestOf_20 : decode prog_2_method_5_code 20 = .ok (.lxor, 1) := by decide +kernel
theorem d_K_digestOf_21 : decode prog_2_method_5_code 21 = .ok (.ldc2_w 58, 3) := by decide +kernel
theorem d_K_digestOf_24 : decode prog_2_method_5_code 24 = .ok (.lmul, 1) := by decide +kernel
theorem d_K_digestOf_25 : decode prog_2_method_5_code 25 = .ok (.lstore_n 2, 1) := by decide +kernel
theorem d_K_digestOf_26 : decode prog_2_method_5_code 26 = .ok (.lload_n 2, 1) := by decide +kernel
theorem d_K_digestOf_27 : decode prog_2_method_5_code 27 = .ok (.lload_n 2, 1) := by decide +kernel
theorem d_K_digestOf_28 : decode prog_2_method_5_code 28 = .ok (.bipush 33, 2) := by decide +kernel
theorem d_K_digestOf_30 : decode prog_2_method_5_code 30 = .ok (.lushr, 1) := by decide +kernel
theorem d_K_digestOf_31 : decode prog_2_method_5_code 31 = .ok (.lxor, 1) := by decide +kernel
theorem d_K_digestOf_32 : decode prog_2_method_5_code 32 = .ok (.ldc2_w 60, 3) := by decide +kernel
theorem d_K_digestOf_35 : decode prog_2_method_5_code 35 = .ok (.lmul, 1) := by decide +kernel
theorem d_K_digestOf_36 : decode prog_2_method_5_code 36 = .ok (.lstore_n 2, 1) := by decide +kernel
theorem d_K_digestOf_37 : decode prog_2_method_5_code 37 = .ok (.lload_n 2, 1) := by decide +kernel
theorem d_K_digestOf_38 : decode prog_2_method_5_code 38 = .ok (.lload_n 2, 1) := by decide +kernel
theorem d_K_digestOf_39 : decode prog_2_method_5_code 39 = .ok (.bipush 33, 2) := by decide +kernel
theorem d_K_digestOf_41 : decode prog_2_method_5_code 41 = .ok (.lushr, 1) := by decide +kernel
theorem d_K_digestOf_42 : decode prog_2_method_5_code 42 = .ok (.lxor, 1) := by decide +kernel
theorem d_K_digestOf_43 : decode prog_2_method_5_code 43 = .ok (.lstore_n 2, 1) := by decide +kernel
theorem d_K_digestOf_44 : decode prog_2_method_5_code 44 = .ok (.lload_n 2, 1) := by decide +kernel
theorem d_K_digestOf_45 : decode prog_2_method_5_code 45 = .ok (.bipush 32, 2) := by decide +kernel
theorem d_K_digestOf_47 : decode prog_2_method_5_code 47 = .ok (.lushr, 1) := by decide +kernel
theorem d_K_digestOf_48 : decode prog_2_method_5_code 48 = .ok (.lreturn, 1) := by decide +kernel
-- V_takes  FleetWaves$Wave.takes(J)Z  prog_5_method_2_code maxL 3 ret (some .boolean) code
theorem d_V_takes_0 : decode prog_5_method_2_code 0 = .ok (.lload_n 1, 1) := by decide +kernel
theorem d_V_takes_1 : decode prog_5_method_2_code 1 = .ok (.aload_n 0, 1) := by decide +kernel
theorem d_V_takes_2 : decode prog_5_method_2_code 2 = .ok (.getfield 13, 3) := by decide +kernel
theorem d_V_takes_5 : decode prog_5_method_2_code 5 = .ok (.lmul, 1) := by decide +kernel
theorem d_V_takes_6 : decode prog_5_method_2_code 6 = .ok (.aload_n 0, 1) := by decide +kernel
theorem d_V_takes_7 : decode prog_5_method_2_code 7 = .ok (.getfield 7, 3) := by decide +kernel
theorem d_V_takes_10 : decode prog_5_method_2_code 10 = .ok (.bipush 32, 2) := by decide +kernel
theorem d_V_takes_12 : decode prog_5_method_2_code 12 = .ok (.lshl, 1) := by decide +kernel
theorem d_V_takes_13 : decode prog_5_method_2_code 13 = .ok (.lcmp, 1) := by decide +kernel
theorem d_V_takes_14 : decode prog_5_method_2_code 14 = .ok (.ifCond .ge 7, 3) := by decide +kernel
theorem d_V_takes_17 : decode prog_5_method_2_code 17 = .ok (.iconst 1, 1) := by decide +kernel
theorem d_V_takes_18 : decode prog_5_method_2_code 18 = .ok (.goto 4, 3) := by decide +kernel
theorem d_V_takes_21 : decode prog_5_method_2_code 21 = .ok (.iconst 0, 1) := by decide +kernel
theorem d_V_takes_22 : decode prog_5_method_2_code 22 = .ok (.ireturn, 1) := by decide +kernel
-- F_report  FleetWaves.report(IIZ)I  prog_1_method_6_code maxL 6 ret (some .int) code
theorem d_F_report_0 : decode prog_1_method_6_code 0 = .ok (.aload_n 0, 1) := by decide +kernel
theorem d_F_report_1 : decode prog_1_method_6_code 1 = .ok (.iload_n 1, 1) := by decide +kernel
theorem d_F_report_2 : decode prog_1_method_6_code 2 = .ok (.invokevirtual 84, 3) := by decide +kernel
theorem d_F_report_5 : decode prog_1_method_6_code 5 = .ok (.astore 4, 2) := by decide +kernel
theorem d_F_report_7 : decode prog_1_method_6_code 7 = .ok (.aload_n 0, 1) := by decide +kernel
theorem d_F_report_8 : decode prog_1_method_6_code 8 = .ok (.iload_n 2, 1) := by decide +kernel
theorem d_F_report_9 : decode prog_1_method_6_code 9 = .ok (.invokevirtual 58, 3) := by decide +kernel
theorem d_F_report_12 : decode prog_1_method_6_code 12 = .ok (.astore 5, 2) := by decide +kernel
theorem d_F_report_14 : decode prog_1_method_6_code 14 = .ok (.aload 4, 2) := by decide +kernel
theorem d_F_report_16 : decode prog_1_method_6_code 16 = .ok (.ifnull 8, 3) := by decide +kernel
theorem d_F_report_19 : decode prog_1_method_6_code 19 = .ok (.aload 5, 2) := by decide +kernel
theorem d_F_report_21 : decode prog_1_method_6_code 21 = .ok (.ifnonnull 5, 3) := by decide +kernel
theorem d_F_report_24 : decode prog_1_method_6_code 24 = .ok (.iconst (-1), 1) := by decide +kernel
theorem d_F_report_25 : decode prog_1_method_6_code 25 = .ok (.ireturn, 1) := by decide +kernel
theorem d_F_report_26 : decode prog_1_method_6_code 26 = .ok (.aload 4, 2) := by decide +kernel
theorem d_F_report_28 : decode prog_1_method_6_code 28 = .ok (.getfield 88, 3) := by decide +kernel
theorem d_F_report_31 : decode prog_1_method_6_code 31 = .ok (.aload 5, 2) := by decide +kernel
theorem d_F_report_33 : decode prog_1_method_6_code 33 = .ok (.getfield 54, 3) := by decide +kernel
theorem d_F_report_36 : decode prog_1_method_6_code 36 = .ok (.if_icmp .eq 6, 3) := by decide +kernel
theorem d_F_report_39 : decode prog_1_method_6_code 39 = .ok (.bipush (-3), 2) := by decide +kernel
theorem d_F_report_41 : decode prog_1_method_6_code 41 = .ok (.ireturn, 1) := by decide +kernel
theorem d_F_report_42 : decode prog_1_method_6_code 42 = .ok (.aload 4, 2) := by decide +kernel
theorem d_F_report_44 : decode prog_1_method_6_code 44 = .ok (.iconst 0, 1) := by decide +kernel
theorem d_F_report_45 : decode prog_1_method_6_code 45 = .ok (.putfield 88, 3) := by decide +kernel
theorem d_F_report_48 : decode prog_1_method_6_code 48 = .ok (.aload 5, 2) := by decide +kernel
theorem d_F_report_50 : decode prog_1_method_6_code 50 = .ok (.dup, 1) := by decide +kernel
theorem d_F_report_51 : decode prog_1_method_6_code 51 = .ok (.getfield 95, 3) := by decide +kernel
theorem d_F_report_54 : decode prog_1_method_6_code 54 = .ok (.iconst 1, 1) := by decide +kernel
theorem d_F_report_55 : decode prog_1_method_6_code 55 = .ok (.iadd, 1) := by decide +kernel
theorem d_F_report_56 : decode prog_1_method_6_code 56 = .ok (.putfield 95, 3) := by decide +kernel
theorem d_F_report_59 : decode prog_1_method_6_code 59 = .ok (.iload_n 3, 1) := by decide +kernel
theorem d_F_report_60 : decode prog_1_method_6_code 60 = .ok (.ifCond .eq 21, 3) := by decide +kernel
theorem d_F_report_63 : decode prog_1_method_6_code 63 = .ok (.aload 4, 2) := by decide +kernel
theorem d_F_report_65 : decode prog_1_method_6_code 65 = .ok (.aload 5, 2) := by decide +kernel
theorem d_F_report_67 : decode prog_1_method_6_code 67 = .ok (.getfield 98, 3) := by decide +kernel
theorem d_F_report_70 : decode prog_1_method_6_code 70 = .ok (.aload 5, 2) := by decide +kernel
theorem d_F_report_72 : decode prog_1_method_6_code 72 = .ok (.getfield 101, 3) := by decide +kernel
theorem d_F_report_75 : decode prog_1_method_6_code 75 = .ok (.invokevirtual 104, 3) := by decide +kernel
theorem d_F_report_78 : decode prog_1_method_6_code 78 = .ok (.goto 28, 3) := by decide +kernel
theorem d_F_report_81 : decode prog_1_method_6_code 81 = .ok (.aload 5, 2) := by decide +kernel
theorem d_F_report_83 : decode prog_1_method_6_code 83 = .ok (.dup, 1) := by decide +kernel
theorem d_F_report_84 : decode prog_1_method_6_code 84 = .ok (.getfield 108, 3) := by decide +kernel
theorem d_F_report_87 : decode prog_1_method_6_code 87 = .ok (.iconst 1, 1) := by decide +kernel
theorem d_F_report_88 : decode prog_1_method_6_code 88 = .ok (.iadd, 1) := by decide +kernel
theorem d_F_report_89 : decode prog_1_method_6_code 89 = .ok (.putfield 108, 3) := by decide +kernel
theorem d_F_report_92 : decode prog_1_method_6_code 92 = .ok (.aload 4, 2) := by decide +kernel
theorem d_F_report_94 : decode prog_1_method_6_code 94 = .ok (.aload 5, 2) := by decide +kernel
theorem d_F_report_96 : decode prog_1_method_6_code 96 = .ok (.getfield 54, 3) := by decide +kernel
theorem d_F_report_99 : decode prog_1_method_6_code 99 = .ok (.aload_n 0, 1) := by decide +kernel
theorem d_F_report_100 : decode prog_1_method_6_code 100 = .ok (.getfield 66, 3) := by decide +kernel
theorem d_F_report_103 : decode prog_1_method_6_code 103 = .ok (.invokevirtual 111, 3) := by decide +kernel
theorem d_F_report_106 : decode prog_1_method_6_code 106 = .ok (.aload 5, 2) := by decide +kernel
theorem d_F_report_108 : decode prog_1_method_6_code 108 = .ok (.invokevirtual 115, 3) := by decide +kernel
theorem d_F_report_111 : decode prog_1_method_6_code 111 = .ok (.pop, 1) := by decide +kernel
theorem d_F_report_112 : decode prog_1_method_6_code 112 = .ok (.iconst 1, 1) := by decide +kernel
theorem d_F_report_113 : decode prog_1_method_6_code 113 = .ok (.ireturn, 1) := by decide +kernel
-- C_renew  FleetWaves$Car.renew(II)V  prog_3_method_3_code maxL 3 ret none code
theorem d_C_renew_0 : decode prog_3_method_3_code 0 = .ok (.iload_n 1, 1) := by decide +kernel
theorem d_C_renew_1 : decode prog_3_method_3_code 1 = .ok (.ifCond .lt 19, 3) := by decide +kernel
theorem d_C_renew_4 : decode prog_3_method_3_code 4 = .ok (.iload_n 1, 1) := by decide +kernel
theorem d_C_renew_5 : decode prog_3_method_3_code 5 = .ok (.aload_n 0, 1) := by decide +kernel
theorem d_C_renew_6 : decode prog_3_method_3_code 6 = .ok (.getfield 9, 3) := by decide +kernel
theorem d_C_renew_9 : decode prog_3_method_3_code 9 = .ok (.arraylength, 1) := by decide +kernel
theorem d_C_renew_10 : decode prog_3_method_3_code 10 = .ok (.if_icmp .ge 10, 3) := by decide +kernel
theorem d_C_renew_13 : decode prog_3_method_3_code 13 = .ok (.aload_n 0, 1) := by decide +kernel
theorem d_C_renew_14 : decode prog_3_method_3_code 14 = .ok (.getfield 9, 3) := by decide +kernel
theorem d_C_renew_17 : decode prog_3_method_3_code 17 = .ok (.iload_n 1, 1) := by decide +kernel
theorem d_C_renew_18 : decode prog_3_method_3_code 18 = .ok (.iload_n 2, 1) := by decide +kernel
theorem d_C_renew_19 : decode prog_3_method_3_code 19 = .ok (.iastore, 1) := by decide +kernel
theorem d_C_renew_20 : decode prog_3_method_3_code 20 = .ok (.return_, 1) := by decide +kernel
-- C_addFailure  FleetWaves$Car.addFailure(IJ)V  prog_3_method_4_code maxL 5 ret none code
theorem d_C_addFailure_0 : decode prog_3_method_4_code 0 = .ok (.aload_n 0, 1) := by decide +kernel
theorem d_C_addFailure_1 : decode prog_3_method_4_code 1 = .ok (.iload_n 1, 1) := by decide +kernel
theorem d_C_addFailure_2 : decode prog_3_method_4_code 2 = .ok (.invokevirtual 23, 3) := by decide +kernel
theorem d_C_addFailure_5 : decode prog_3_method_4_code 5 = .ok (.astore 4, 2) := by decide +kernel
theorem d_C_addFailure_7 : decode prog_3_method_4_code 7 = .ok (.aload 4, 2) := by decide +kernel
theorem d_C_addFailure_9 : decode prog_3_method_4_code 9 = .ok (.ifnonnull 23, 3) := by decide +kernel
theorem d_C_addFailure_12 : decode prog_3_method_4_code 12 = .ok (.new 27, 3) := by decide +kernel
theorem d_C_addFailure_15 : decode prog_3_method_4_code 15 = .ok (.dup, 1) := by decide +kernel
theorem d_C_addFailure_16 : decode prog_3_method_4_code 16 = .ok (.iload_n 1, 1) := by decide +kernel
theorem d_C_addFailure_17 : decode prog_3_method_4_code 17 = .ok (.aload_n 0, 1) := by decide +kernel
theorem d_C_addFailure_18 : decode prog_3_method_4_code 18 = .ok (.getfield 29, 3) := by decide +kernel
theorem d_C_addFailure_21 : decode prog_3_method_4_code 21 = .ok (.invokespecial 33, 3) := by decide +kernel
theorem d_C_addFailure_24 : decode prog_3_method_4_code 24 = .ok (.astore 4, 2) := by decide +kernel
theorem d_C_addFailure_26 : decode prog_3_method_4_code 26 = .ok (.aload_n 0, 1) := by decide +kernel
theorem d_C_addFailure_27 : decode prog_3_method_4_code 27 = .ok (.aload 4, 2) := by decide +kernel
theorem d_C_addFailure_29 : decode prog_3_method_4_code 29 = .ok (.putfield 29, 3) := by decide +kernel
theorem d_C_addFailure_32 : decode prog_3_method_4_code 32 = .ok (.aload 4, 2) := by decide +kernel
theorem d_C_addFailure_34 : decode prog_3_method_4_code 34 = .ok (.dup, 1) := by decide +kernel
theorem d_C_addFailure_35 : decode prog_3_method_4_code 35 = .ok (.getfield 36, 3) := by decide +kernel
theorem d_C_addFailure_38 : decode prog_3_method_4_code 38 = .ok (.iconst 1, 1) := by decide +kernel
theorem d_C_addFailure_39 : decode prog_3_method_4_code 39 = .ok (.iadd, 1) := by decide +kernel
theorem d_C_addFailure_40 : decode prog_3_method_4_code 40 = .ok (.putfield 36, 3) := by decide +kernel
theorem d_C_addFailure_43 : decode prog_3_method_4_code 43 = .ok (.aload 4, 2) := by decide +kernel
theorem d_C_addFailure_45 : decode prog_3_method_4_code 45 = .ok (.lload_n 2, 1) := by decide +kernel
theorem d_C_addFailure_46 : decode prog_3_method_4_code 46 = .ok (.putfield 40, 3) := by decide +kernel
theorem d_C_addFailure_49 : decode prog_3_method_4_code 49 = .ok (.return_, 1) := by decide +kernel
-- E_init  FleetWaves$Failure.<init>(ILFleetWaves$Failure;)V  prog_4_method_1_code maxL 3 ret none code
theorem d_E_init_0 : decode prog_4_method_1_code 0 = .ok (.aload_n 0, 1) := by decide +kernel
theorem d_E_init_1 : decode prog_4_method_1_code 1 = .ok (.invokespecial 1, 3) := by decide +kernel
theorem d_E_init_4 : decode prog_4_method_1_code 4 = .ok (.aload_n 0, 1) := by decide +kernel
theorem d_E_init_5 : decode prog_4_method_1_code 5 = .ok (.iload_n 1, 1) := by decide +kernel
theorem d_E_init_6 : decode prog_4_method_1_code 6 = .ok (.putfield 7, 3) := by decide +kernel
theorem d_E_init_9 : decode prog_4_method_1_code 9 = .ok (.aload_n 0, 1) := by decide +kernel
theorem d_E_init_10 : decode prog_4_method_1_code 10 = .ok (.aload_n 2, 1) := by decide +kernel
theorem d_E_init_11 : decode prog_4_method_1_code 11 = .ok (.putfield 13, 3) := by decide +kernel
theorem d_E_init_14 : decode prog_4_method_1_code 14 = .ok (.return_, 1) := by decide +kernel
-- K_pauseIfRuleIsBroken  FleetWaves$Campaign.pauseIfRuleIsBroken()Z  prog_2_method_8_code maxL 2 ret (some .boolean) code
theorem d_K_pauseIfRuleIsBroken_0 : decode prog_2_method_8_code 0 = .ok (.aload_n 0, 1) := by decide +kernel
theorem d_K_pauseIfRuleIsBroken_1 : decode prog_2_method_8_code 1 = .ok (.getfield 95, 3) := by decide +kernel
theorem d_K_pauseIfRuleIsBroken_4 : decode prog_2_method_8_code 4 = .ok (.lconst 0, 1) := by decide +kernel
theorem d_K_pauseIfRuleIsBroken_5 : decode prog_2_method_8_code 5 = .ok (.lcmp, 1) := by decide +kernel
theorem d_K_pauseIfRuleIsBroken_6 : decode prog_2_method_8_code 6 = .ok (.ifCond .le 31, 3) := by decide +kernel
theorem d_K_pauseIfRuleIsBroken_9 : decode prog_2_method_8_code 9 = .ok (.aload_n 0, 1) := by decide +kernel
theorem d_K_pauseIfRuleIsBroken_10 : decode prog_2_method_8_code 10 = .ok (.getfield 98, 3) := by decide +kernel
theorem d_K_pauseIfRuleIsBroken_13 : decode prog_2_method_8_code 13 = .ok (.i2l, 1) := by decide +kernel
theorem d_K_pauseIfRuleIsBroken_14 : decode prog_2_method_8_code 14 = .ok (.aload_n 0, 1) := by decide +kernel
theorem d_K_pauseIfRuleIsBroken_15 : decode prog_2_method_8_code 15 = .ok (.getfield 95, 3) := by decide +kernel
theorem d_K_pauseIfRuleIsBroken_18 : decode prog_2_method_8_code 18 = .ok (.lmul, 1) := by decide +kernel
theorem d_K_pauseIfRuleIsBroken_19 : decode prog_2_method_8_code 19 = .ok (.aload_n 0, 1) := by decide +kernel
theorem d_K_pauseIfRuleIsBroken_20 : decode prog_2_method_8_code 20 = .ok (.getfield 101, 3) := by decide +kernel
theorem d_K_pauseIfRuleIsBroken_23 : decode prog_2_method_8_code 23 = .ok (.aload_n 0, 1) := by decide +kernel
theorem d_K_pauseIfRuleIsBroken_24 : decode prog_2_method_8_code 24 = .ok (.getfield 104, 3) := by decide +kernel
theorem d_K_pauseIfRuleIsBroken_27 : decode prog_2_method_8_code 27 = .ok (.i2l, 1) := by decide +kernel
theorem d_K_pauseIfRuleIsBroken_28 : decode prog_2_method_8_code 28 = .ok (.lmul, 1) := by decide +kernel
theorem d_K_pauseIfRuleIsBroken_29 : decode prog_2_method_8_code 29 = .ok (.lcmp, 1) := by decide +kernel
theorem d_K_pauseIfRuleIsBroken_30 : decode prog_2_method_8_code 30 = .ok (.ifCond .le 7, 3) := by decide +kernel
theorem d_K_pauseIfRuleIsBroken_33 : decode prog_2_method_8_code 33 = .ok (.iconst 1, 1) := by decide +kernel
theorem d_K_pauseIfRuleIsBroken_34 : decode prog_2_method_8_code 34 = .ok (.goto 4, 3) := by decide +kernel
theorem d_K_pauseIfRuleIsBroken_37 : decode prog_2_method_8_code 37 = .ok (.iconst 0, 1) := by decide +kernel
theorem d_K_pauseIfRuleIsBroken_38 : decode prog_2_method_8_code 38 = .ok (.istore_n 1, 1) := by decide +kernel
theorem d_K_pauseIfRuleIsBroken_39 : decode prog_2_method_8_code 39 = .ok (.aload_n 0, 1) := by decide +kernel
theorem d_K_pauseIfRuleIsBroken_40 : decode prog_2_method_8_code 40 = .ok (.getfield 18, 3) := by decide +kernel
theorem d_K_pauseIfRuleIsBroken_43 : decode prog_2_method_8_code 43 = .ok (.iconst 1, 1) := by decide +kernel
theorem d_K_pauseIfRuleIsBroken_44 : decode prog_2_method_8_code 44 = .ok (.if_icmp .ne 7, 3) := by decide +kernel
theorem d_K_pauseIfRuleIsBroken_47 : decode prog_2_method_8_code 47 = .ok (.iload_n 1, 1) := by decide +kernel
theorem d_K_pauseIfRuleIsBroken_48 : decode prog_2_method_8_code 48 = .ok (.ifCond .ne 5, 3) := by decide +kernel
theorem d_K_pauseIfRuleIsBroken_51 : decode prog_2_method_8_code 51 = .ok (.iconst 0, 1) := by decide +kernel
theorem d_K_pauseIfRuleIsBroken_52 : decode prog_2_method_8_code 52 = .ok (.ireturn, 1) := by decide +kernel
theorem d_K_pauseIfRuleIsBroken_53 : decode prog_2_method_8_code 53 = .ok (.aload_n 0, 1) := by decide +kernel
theorem d_K_pauseIfRuleIsBroken_54 : decode prog_2_method_8_code 54 = .ok (.iconst 2, 1) := by decide +kernel
theorem d_K_pauseIfRuleIsBroken_55 : decode prog_2_method_8_code 55 = .ok (.putfield 18, 3) := by decide +kernel
theorem d_K_pauseIfRuleIsBroken_58 : decode prog_2_method_8_code 58 = .ok (.iconst 1, 1) := by decide +kernel
theorem d_K_pauseIfRuleIsBroken_59 : decode prog_2_method_8_code 59 = .ok (.ireturn, 1) := by decide +kernel
-- F_rule  FleetWaves.rule(IJJ)I  prog_1_method_8_code maxL 7 ret (some .int) code
theorem d_F_rule_0 : decode prog_1_method_8_code 0 = .ok (.aload_n 0, 1) := by decide +kernel
theorem d_F_rule_1 : decode prog_1_method_8_code 1 = .ok (.iload_n 1, 1) := by decide +kernel
theorem d_F_rule_2 : decode prog_1_method_8_code 2 = .ok (.invokevirtual 58, 3) := by decide +kernel
theorem d_F_rule_5 : decode prog_1_method_8_code 5 = .ok (.astore 6, 2) := by decide +kernel
theorem d_F_rule_7 : decode prog_1_method_8_code 7 = .ok (.aload 6, 2) := by decide +kernel
theorem d_F_rule_9 : decode prog_1_method_8_code 9 = .ok (.ifnonnull 5, 3) := by decide +kernel
theorem d_F_rule_12 : decode prog_1_method_8_code 12 = .ok (.iconst (-1), 1) := by decide +kernel
theorem d_F_rule_13 : decode prog_1_method_8_code 13 = .ok (.ireturn, 1) := by decide +kernel
theorem d_F_rule_14 : decode prog_1_method_8_code 14 = .ok (.lload_n 2, 1) := by decide +kernel
theorem d_F_rule_15 : decode prog_1_method_8_code 15 = .ok (.lload 4, 2) := by decide +kernel
theorem d_F_rule_17 : decode prog_1_method_8_code 17 = .ok (.invokestatic 62, 3) := by decide +kernel
theorem d_F_rule_20 : decode prog_1_method_8_code 20 = .ok (.ifCond .ne 6, 3) := by decide +kernel
theorem d_F_rule_23 : decode prog_1_method_8_code 23 = .ok (.bipush (-2), 2) := by decide +kernel
theorem d_F_rule_25 : decode prog_1_method_8_code 25 = .ok (.ireturn, 1) := by decide +kernel
theorem d_F_rule_26 : decode prog_1_method_8_code 26 = .ok (.aload 6, 2) := by decide +kernel
theorem d_F_rule_28 : decode prog_1_method_8_code 28 = .ok (.lload_n 2, 1) := by decide +kernel
theorem d_F_rule_29 : decode prog_1_method_8_code 29 = .ok (.putfield 132, 3) := by decide +kernel
theorem d_F_rule_32 : decode prog_1_method_8_code 32 = .ok (.aload 6, 2) := by decide +kernel
theorem d_F_rule_34 : decode prog_1_method_8_code 34 = .ok (.lload 4, 2) := by decide +kernel
theorem d_F_rule_36 : decode prog_1_method_8_code 36 = .ok (.putfield 135, 3) := by decide +kernel
theorem d_F_rule_39 : decode prog_1_method_8_code 39 = .ok (.aload 6, 2) := by decide +kernel
theorem d_F_rule_41 : decode prog_1_method_8_code 41 = .ok (.invokevirtual 115, 3) := by decide +kernel
theorem d_F_rule_44 : decode prog_1_method_8_code 44 = .ok (.ifCond .eq 7, 3) := by decide +kernel
theorem d_F_rule_47 : decode prog_1_method_8_code 47 = .ok (.iconst 1, 1) := by decide +kernel
theorem d_F_rule_48 : decode prog_1_method_8_code 48 = .ok (.goto 4, 3) := by decide +kernel
theorem d_F_rule_51 : decode prog_1_method_8_code 51 = .ok (.iconst 0, 1) := by decide +kernel
theorem d_F_rule_52 : decode prog_1_method_8_code 52 = .ok (.ireturn, 1) := by decide +kernel
-- F_state  FleetWaves.state(I)I  prog_1_method_9_code maxL 3 ret (some .int) code
theorem d_F_state_0 : decode prog_1_method_9_code 0 = .ok (.aload_n 0, 1) := by decide +kernel
theorem d_F_state_1 : decode prog_1_method_9_code 1 = .ok (.iload_n 1, 1) := by decide +kernel
theorem d_F_state_2 : decode prog_1_method_9_code 2 = .ok (.invokevirtual 58, 3) := by decide +kernel
theorem d_F_state_5 : decode prog_1_method_9_code 5 = .ok (.astore_n 2, 1) := by decide +kernel
theorem d_F_state_6 : decode prog_1_method_9_code 6 = .ok (.aload_n 2, 1) := by decide +kernel
theorem d_F_state_7 : decode prog_1_method_9_code 7 = .ok (.ifnonnull 7, 3) := by decide +kernel
theorem d_F_state_10 : decode prog_1_method_9_code 10 = .ok (.iconst (-1), 1) := by decide +kernel
theorem d_F_state_11 : decode prog_1_method_9_code 11 = .ok (.goto 7, 3) := by decide +kernel
theorem d_F_state_14 : decode prog_1_method_9_code 14 = .ok (.aload_n 2, 1) := by decide +kernel
theorem d_F_state_15 : decode prog_1_method_9_code 15 = .ok (.getfield 73, 3) := by decide +kernel
theorem d_F_state_18 : decode prog_1_method_9_code 18 = .ok (.ireturn, 1) := by decide +kernel
-- F_stop  FleetWaves.stop(I)I  prog_1_method_10_code maxL 3 ret (some .int) code
theorem d_F_stop_0 : decode prog_1_method_10_code 0 = .ok (.aload_n 0, 1) := by decide +kernel
theorem d_F_stop_1 : decode prog_1_method_10_code 1 = .ok (.iload_n 1, 1) := by decide +kernel
theorem d_F_stop_2 : decode prog_1_method_10_code 2 = .ok (.invokevirtual 58, 3) := by decide +kernel
theorem d_F_stop_5 : decode prog_1_method_10_code 5 = .ok (.astore_n 2, 1) := by decide +kernel
theorem d_F_stop_6 : decode prog_1_method_10_code 6 = .ok (.aload_n 2, 1) := by decide +kernel
theorem d_F_stop_7 : decode prog_1_method_10_code 7 = .ok (.ifnonnull 5, 3) := by decide +kernel
theorem d_F_stop_10 : decode prog_1_method_10_code 10 = .ok (.iconst (-1), 1) := by decide +kernel
theorem d_F_stop_11 : decode prog_1_method_10_code 11 = .ok (.ireturn, 1) := by decide +kernel
theorem d_F_stop_12 : decode prog_1_method_10_code 12 = .ok (.aload_n 2, 1) := by decide +kernel
theorem d_F_stop_13 : decode prog_1_method_10_code 13 = .ok (.getfield 73, 3) := by decide +kernel
theorem d_F_stop_16 : decode prog_1_method_10_code 16 = .ok (.iconst 3, 1) := by decide +kernel
theorem d_F_stop_17 : decode prog_1_method_10_code 17 = .ok (.if_icmp .ne 6, 3) := by decide +kernel
theorem d_F_stop_20 : decode prog_1_method_10_code 20 = .ok (.bipush (-3), 2) := by decide +kernel
theorem d_F_stop_22 : decode prog_1_method_10_code 22 = .ok (.ireturn, 1) := by decide +kernel
theorem d_F_stop_23 : decode prog_1_method_10_code 23 = .ok (.aload_n 2, 1) := by decide +kernel
theorem d_F_stop_24 : decode prog_1_method_10_code 24 = .ok (.iconst 3, 1) := by decide +kernel
theorem d_F_stop_25 : decode prog_1_method_10_code 25 = .ok (.putfield 73, 3) := by decide +kernel
theorem d_F_stop_28 : decode prog_1_method_10_code 28 = .ok (.aload_n 0, 1) := by decide +kernel
theorem d_F_stop_29 : decode prog_1_method_10_code 29 = .ok (.aload_n 2, 1) := by decide +kernel
theorem d_F_stop_30 : decode prog_1_method_10_code 30 = .ok (.invokevirtual 138, 3) := by decide +kernel
theorem d_F_stop_33 : decode prog_1_method_10_code 33 = .ok (.ireturn, 1) := by decide +kernel
-- F_countNotBegun  FleetWaves.countNotBegun(LFleetWaves$Campaign;)I  prog_1_method_24_code maxL 5 ret (some .int) code
theorem d_F_countNotBegun_0 : decode prog_1_method_24_code 0 = .ok (.iconst 0, 1) := by decide +kernel
theorem d_F_countNotBegun_1 : decode prog_1_method_24_code 1 = .ok (.istore_n 2, 1) := by decide +kernel
theorem d_F_countNotBegun_2 : decode prog_1_method_24_code 2 = .ok (.iconst 0, 1) := by decide +kernel
theorem d_F_countNotBegun_3 : decode prog_1_method_24_code 3 = .ok (.istore_n 3, 1) := by decide +kernel
theorem d_F_countNotBegun_4 : decode prog_1_method_24_code 4 = .ok (.iload_n 3, 1) := by decide +kernel
theorem d_F_countNotBegun_5 : decode prog_1_method_24_code 5 = .ok (.aload_n 0, 1) := by decide +kernel
theorem d_F_countNotBegun_6 : decode prog_1_method_24_code 6 = .ok (.getfield 10, 3) := by decide +kernel
theorem d_F_countNotBegun_9 : decode prog_1_method_24_code 9 = .ok (.invokevirtual 23, 3) := by decide +kernel
theorem d_F_countNotBegun_12 : decode prog_1_method_24_code 12 = .ok (.if_icmp .ge 46, 3) := by decide +kernel
theorem d_F_countNotBegun_15 : decode prog_1_method_24_code 15 = .ok (.aload_n 0, 1) := by decide +kernel
theorem d_F_countNotBegun_16 : decode prog_1_method_24_code 16 = .ok (.getfield 10, 3) := by decide +kernel
theorem d_F_countNotBegun_19 : decode prog_1_method_24_code 19 = .ok (.iload_n 3, 1) := by decide +kernel
theorem d_F_countNotBegun_20 : decode prog_1_method_24_code 20 = .ok (.invokevirtual 149, 3) := by decide +kernel
theorem d_F_countNotBegun_23 : decode prog_1_method_24_code 23 = .ok (.checkcast 27, 3) := by decide +kernel
theorem d_F_countNotBegun_26 : decode prog_1_method_24_code 26 = .ok (.astore 4, 2) := by decide +kernel
theorem d_F_countNotBegun_28 : decode prog_1_method_24_code 28 = .ok (.aload_n 1, 1) := by decide +kernel
theorem d_F_countNotBegun_29 : decode prog_1_method_24_code 29 = .ok (.aload 4, 2) := by decide +kernel
theorem d_F_countNotBegun_31 : decode prog_1_method_24_code 31 = .ok (.invokevirtual 153, 3) := by decide +kernel
theorem d_F_countNotBegun_34 : decode prog_1_method_24_code 34 = .ok (.ifCond .eq 18, 3) := by decide +kernel
theorem d_F_countNotBegun_37 : decode prog_1_method_24_code 37 = .ok (.aload 4, 2) := by decide +kernel
theorem d_F_countNotBegun_39 : decode prog_1_method_24_code 39 = .ok (.getfield 88, 3) := by decide +kernel
theorem d_F_countNotBegun_42 : decode prog_1_method_24_code 42 = .ok (.aload_n 1, 1) := by decide +kernel
theorem d_F_countNotBegun_43 : decode prog_1_method_24_code 43 = .ok (.getfield 54, 3) := by decide +kernel
theorem d_F_countNotBegun_46 : decode prog_1_method_24_code 46 = .ok (.if_icmp .eq 6, 3) := by decide +kernel
theorem d_F_countNotBegun_49 : decode prog_1_method_24_code 49 = .ok (.iinc 2 1, 3) := by decide +kernel
theorem d_F_countNotBegun_52 : decode prog_1_method_24_code 52 = .ok (.iinc 3 1, 3) := by decide +kernel
theorem d_F_countNotBegun_55 : decode prog_1_method_24_code 55 = .ok (.goto (-51), 3) := by decide +kernel
theorem d_F_countNotBegun_58 : decode prog_1_method_24_code 58 = .ok (.iload_n 2, 1) := by decide +kernel
theorem d_F_countNotBegun_59 : decode prog_1_method_24_code 59 = .ok (.ireturn, 1) := by decide +kernel
-- F_consent  FleetWaves.consent(IZ)I  prog_1_method_11_code maxL 5 ret (some .int) code
theorem d_F_consent_0 : decode prog_1_method_11_code 0 = .ok (.aload_n 0, 1) := by decide +kernel
theorem d_F_consent_1 : decode prog_1_method_11_code 1 = .ok (.iload_n 1, 1) := by decide +kernel
theorem d_F_consent_2 : decode prog_1_method_11_code 2 = .ok (.invokevirtual 84, 3) := by decide +kernel
theorem d_F_consent_5 : decode prog_1_method_11_code 5 = .ok (.astore_n 3, 1) := by decide +kernel
theorem d_F_consent_6 : decode prog_1_method_11_code 6 = .ok (.aload_n 3, 1) := by decide +kernel
theorem d_F_consent_7 : decode prog_1_method_11_code 7 = .ok (.ifnonnull 5, 3) := by decide +kernel
theorem d_F_consent_10 : decode prog_1_method_11_code 10 = .ok (.iconst (-1), 1) := by decide +kernel
theorem d_F_consent_11 : decode prog_1_method_11_code 11 = .ok (.ireturn, 1) := by decide +kernel
theorem d_F_consent_12 : decode prog_1_method_11_code 12 = .ok (.aload_n 3, 1) := by decide +kernel
theorem d_F_consent_13 : decode prog_1_method_11_code 13 = .ok (.getfield 142, 3) := by decide +kernel
theorem d_F_consent_16 : decode prog_1_method_11_code 16 = .ok (.iload_n 2, 1) := by decide +kernel
theorem d_F_consent_17 : decode prog_1_method_11_code 17 = .ok (.if_icmp .eq 7, 3) := by decide +kernel
theorem d_F_consent_20 : decode prog_1_method_11_code 20 = .ok (.iconst 1, 1) := by decide +kernel
theorem d_F_consent_21 : decode prog_1_method_11_code 21 = .ok (.goto 4, 3) := by decide +kernel
theorem d_F_consent_24 : decode prog_1_method_11_code 24 = .ok (.iconst 0, 1) := by decide +kernel
theorem d_F_consent_25 : decode prog_1_method_11_code 25 = .ok (.istore 4, 2) := by decide +kernel
theorem d_F_consent_27 : decode prog_1_method_11_code 27 = .ok (.aload_n 3, 1) := by decide +kernel
theorem d_F_consent_28 : decode prog_1_method_11_code 28 = .ok (.iload_n 2, 1) := by decide +kernel
theorem d_F_consent_29 : decode prog_1_method_11_code 29 = .ok (.putfield 142, 3) := by decide +kernel
theorem d_F_consent_32 : decode prog_1_method_11_code 32 = .ok (.iload 4, 2) := by decide +kernel
theorem d_F_consent_34 : decode prog_1_method_11_code 34 = .ok (.ifCond .eq 7, 3) := by decide +kernel
theorem d_F_consent_37 : decode prog_1_method_11_code 37 = .ok (.iconst 1, 1) := by decide +kernel
theorem d_F_consent_38 : decode prog_1_method_11_code 38 = .ok (.goto 4, 3) := by decide +kernel
theorem d_F_consent_41 : decode prog_1_method_11_code 41 = .ok (.iconst 0, 1) := by decide +kernel
theorem d_F_consent_42 : decode prog_1_method_11_code 42 = .ok (.ireturn, 1) := by decide +kernel
-- F_failed  FleetWaves.failed(I)I  prog_1_method_12_code maxL 3 ret (some .int) code
theorem d_F_failed_0 : decode prog_1_method_12_code 0 = .ok (.aload_n 0, 1) := by decide +kernel
theorem d_F_failed_1 : decode prog_1_method_12_code 1 = .ok (.iload_n 1, 1) := by decide +kernel
theorem d_F_failed_2 : decode prog_1_method_12_code 2 = .ok (.invokevirtual 84, 3) := by decide +kernel
theorem d_F_failed_5 : decode prog_1_method_12_code 5 = .ok (.astore_n 2, 1) := by decide +kernel
theorem d_F_failed_6 : decode prog_1_method_12_code 6 = .ok (.aload_n 2, 1) := by decide +kernel
theorem d_F_failed_7 : decode prog_1_method_12_code 7 = .ok (.ifnonnull 7, 3) := by decide +kernel
theorem d_F_failed_10 : decode prog_1_method_12_code 10 = .ok (.iconst (-1), 1) := by decide +kernel
theorem d_F_failed_11 : decode prog_1_method_12_code 11 = .ok (.goto 7, 3) := by decide +kernel
theorem d_F_failed_14 : decode prog_1_method_12_code 14 = .ok (.aload_n 2, 1) := by decide +kernel
theorem d_F_failed_15 : decode prog_1_method_12_code 15 = .ok (.invokevirtual 146, 3) := by decide +kernel
theorem d_F_failed_18 : decode prog_1_method_12_code 18 = .ok (.ireturn, 1) := by decide +kernel
-- C_countGivenUp  FleetWaves$Car.countGivenUp()I  prog_3_method_6_code maxL 3 ret (some .int) code
theorem d_C_countGivenUp_0 : decode prog_3_method_6_code 0 = .ok (.iconst 0, 1) := by decide +kernel
theorem d_C_countGivenUp_1 : decode prog_3_method_6_code 1 = .ok (.istore_n 1, 1) := by decide +kernel
theorem d_C_countGivenUp_2 : decode prog_3_method_6_code 2 = .ok (.aload_n 0, 1) := by decide +kernel
theorem d_C_countGivenUp_3 : decode prog_3_method_6_code 3 = .ok (.getfield 29, 3) := by decide +kernel
theorem d_C_countGivenUp_6 : decode prog_3_method_6_code 6 = .ok (.astore_n 2, 1) := by decide +kernel
theorem d_C_countGivenUp_7 : decode prog_3_method_6_code 7 = .ok (.aload_n 2, 1) := by decide +kernel
theorem d_C_countGivenUp_8 : decode prog_3_method_6_code 8 = .ok (.ifnull 22, 3) := by decide +kernel
theorem d_C_countGivenUp_11 : decode prog_3_method_6_code 11 = .ok (.aload_n 2, 1) := by decide +kernel
theorem d_C_countGivenUp_12 : decode prog_3_method_6_code 12 = .ok (.getfield 36, 3) := by decide +kernel
theorem d_C_countGivenUp_15 : decode prog_3_method_6_code 15 = .ok (.iconst 2, 1) := by decide +kernel
theorem d_C_countGivenUp_16 : decode prog_3_method_6_code 16 = .ok (.if_icmp .lt 6, 3) := by decide +kernel
theorem d_C_countGivenUp_19 : decode prog_3_method_6_code 19 = .ok (.iinc 1 1, 3) := by decide +kernel
theorem d_C_countGivenUp_22 : decode prog_3_method_6_code 22 = .ok (.aload_n 2, 1) := by decide +kernel
theorem d_C_countGivenUp_23 : decode prog_3_method_6_code 23 = .ok (.getfield 45, 3) := by decide +kernel
theorem d_C_countGivenUp_26 : decode prog_3_method_6_code 26 = .ok (.astore_n 2, 1) := by decide +kernel
theorem d_C_countGivenUp_27 : decode prog_3_method_6_code 27 = .ok (.goto (-20), 3) := by decide +kernel
theorem d_C_countGivenUp_30 : decode prog_3_method_6_code 30 = .ok (.iload_n 1, 1) := by decide +kernel
theorem d_C_countGivenUp_31 : decode prog_3_method_6_code 31 = .ok (.ireturn, 1) := by decide +kernel
-- F_in  FleetWaves.in(II)I  prog_1_method_13_code maxL 8 ret (some .int) code
theorem d_F_in_0 : decode prog_1_method_13_code 0 = .ok (.aload_n 0, 1) := by decide +kernel
theorem d_F_in_1 : decode prog_1_method_13_code 1 = .ok (.iload_n 1, 1) := by decide +kernel
theorem d_F_in_2 : decode prog_1_method_13_code 2 = .ok (.invokevirtual 58, 3) := by decide +kernel
theorem d_F_in_5 : decode prog_1_method_13_code 5 = .ok (.astore_n 3, 1) := by decide +kernel
theorem d_F_in_6 : decode prog_1_method_13_code 6 = .ok (.aload_n 3, 1) := by decide +kernel
theorem d_F_in_7 : decode prog_1_method_13_code 7 = .ok (.ifnull 19, 3) := by decide +kernel
theorem d_F_in_10 : decode prog_1_method_13_code 10 = .ok (.iload_n 2, 1) := by decide +kernel
theorem d_F_in_11 : decode prog_1_method_13_code 11 = .ok (.iconst 1, 1) := by decide +kernel
theorem d_F_in_12 : decode prog_1_method_13_code 12 = .ok (.if_icmp .lt 14, 3) := by decide +kernel
theorem d_F_in_15 : decode prog_1_method_13_code 15 = .ok (.iload_n 2, 1) := by decide +kernel
theorem d_F_in_16 : decode prog_1_method_13_code 16 = .ok (.aload_n 3, 1) := by decide +kernel
theorem d_F_in_17 : decode prog_1_method_13_code 17 = .ok (.getfield 76, 3) := by decide +kernel
theorem d_F_in_20 : decode prog_1_method_13_code 20 = .ok (.invokevirtual 23, 3) := by decide +kernel
theorem d_F_in_23 : decode prog_1_method_13_code 23 = .ok (.if_icmp .le 5, 3) := by decide +kernel
theorem d_F_in_26 : decode prog_1_method_13_code 26 = .ok (.iconst (-1), 1) := by decide +kernel
theorem d_F_in_27 : decode prog_1_method_13_code 27 = .ok (.ireturn, 1) := by decide +kernel
theorem d_F_in_28 : decode prog_1_method_13_code 28 = .ok (.aload_n 3, 1) := by decide +kernel
theorem d_F_in_29 : decode prog_1_method_13_code 29 = .ok (.getfield 76, 3) := by decide +kernel
theorem d_F_in_32 : decode prog_1_method_13_code 32 = .ok (.iload_n 2, 1) := by decide +kernel
theorem d_F_in_33 : decode prog_1_method_13_code 33 = .ok (.iconst 1, 1) := by decide +kernel
theorem d_F_in_34 : decode prog_1_method_13_code 34 = .ok (.isub, 1) := by decide +kernel
theorem d_F_in_35 : decode prog_1_method_13_code 35 = .ok (.invokevirtual 149, 3) := by decide +kernel
theorem d_F_in_38 : decode prog_1_method_13_code 38 = .ok (.checkcast 79, 3) := by decide +kernel
theorem d_F_in_41 : decode prog_1_method_13_code 41 = .ok (.astore 4, 2) := by decide +kernel
theorem d_F_in_43 : decode prog_1_method_13_code 43 = .ok (.iconst 0, 1) := by decide +kernel
theorem d_F_in_44 : decode prog_1_method_13_code 44 = .ok (.istore 5, 2) := by decide +kernel
theorem d_F_in_46 : decode prog_1_method_13_code 46 = .ok (.iconst 0, 1) := by decide +kernel
theorem d_F_in_47 : decode prog_1_method_13_code 47 = .ok (.istore 6, 2) := by decide +kernel
theorem d_F_in_49 : decode prog_1_method_13_code 49 = .ok (.iload 6, 2) := by decide +kernel
theorem d_F_in_51 : decode prog_1_method_13_code 51 = .ok (.aload_n 0, 1) := by decide +kernel
theorem d_F_in_52 : decode prog_1_method_13_code 52 = .ok (.getfield 10, 3) := by decide +kernel
theorem d_F_in_55 : decode prog_1_method_13_code 55 = .ok (.invokevirtual 23, 3) := by decide +kernel
theorem d_F_in_58 : decode prog_1_method_13_code 58 = .ok (.if_icmp .ge 49, 3) := by decide +kernel
theorem d_F_in_61 : decode prog_1_method_13_code 61 = .ok (.aload_n 0, 1) := by decide +kernel
theorem d_F_in_62 : decode prog_1_method_13_code 62 = .ok (.getfield 10, 3) := by decide +kernel
theorem d_F_in_65 : decode prog_1_method_13_code 65 = .ok (.iload 6, 2) := by decide +kernel
theorem d_F_in_67 : decode prog_1_method_13_code 67 = .ok (.invokevirtual 149, 3) := by decide +kernel
theorem d_F_in_70 : decode prog_1_method_13_code 70 = .ok (.checkcast 27, 3) := by decide +kernel
theorem d_F_in_73 : decode prog_1_method_13_code 73 = .ok (.astore 7, 2) := by decide +kernel
theorem d_F_in_75 : decode prog_1_method_13_code 75 = .ok (.aload_n 3, 1) := by decide +kernel
theorem d_F_in_76 : decode prog_1_method_13_code 76 = .ok (.aload 7, 2) := by decide +kernel
theorem d_F_in_78 : decode prog_1_method_13_code 78 = .ok (.invokevirtual 153, 3) := by decide +kernel
theorem d_F_in_81 : decode prog_1_method_13_code 81 = .ok (.ifCond .eq 20, 3) := by decide +kernel
theorem d_F_in_84 : decode prog_1_method_13_code 84 = .ok (.aload 4, 2) := by decide +kernel
theorem d_F_in_86 : decode prog_1_method_13_code 86 = .ok (.aload_n 3, 1) := by decide +kernel
theorem d_F_in_87 : decode prog_1_method_13_code 87 = .ok (.aload 7, 2) := by decide +kernel
theorem d_F_in_89 : decode prog_1_method_13_code 89 = .ok (.invokevirtual 157, 3) := by decide +kernel
theorem d_F_in_92 : decode prog_1_method_13_code 92 = .ok (.invokevirtual 161, 3) := by decide +kernel
theorem d_F_in_95 : decode prog_1_method_13_code 95 = .ok (.ifCond .eq 6, 3) := by decide +kernel
theorem d_F_in_98 : decode prog_1_method_13_code 98 = .ok (.iinc 5 1, 3) := by decide +kernel
theorem d_F_in_101 : decode prog_1_method_13_code 101 = .ok (.iinc 6 1, 3) := by decide +kernel
theorem d_F_in_104 : decode prog_1_method_13_code 104 = .ok (.goto (-55), 3) := by decide +kernel
theorem d_F_in_107 : decode prog_1_method_13_code 107 = .ok (.iload 5, 2) := by decide +kernel
theorem d_F_in_109 : decode prog_1_method_13_code 109 = .ok (.ireturn, 1) := by decide +kernel
-- F_order  FleetWaves.order(II)I  prog_1_method_14_code maxL 5 ret (some .int) code
theorem d_F_order_0 : decode prog_1_method_14_code 0 = .ok (.aload_n 0, 1) := by decide +kernel
theorem d_F_order_1 : decode prog_1_method_14_code 1 = .ok (.iload_n 1, 1) := by decide +kernel
theorem d_F_order_2 : decode prog_1_method_14_code 2 = .ok (.invokevirtual 58, 3) := by decide +kernel
theorem d_F_order_5 : decode prog_1_method_14_code 5 = .ok (.astore_n 3, 1) := by decide +kernel
theorem d_F_order_6 : decode prog_1_method_14_code 6 = .ok (.aload_n 0, 1) := by decide +kernel
theorem d_F_order_7 : decode prog_1_method_14_code 7 = .ok (.iload_n 2, 1) := by decide +kernel
theorem d_F_order_8 : decode prog_1_method_14_code 8 = .ok (.invokevirtual 58, 3) := by decide +kernel
theorem d_F_order_11 : decode prog_1_method_14_code 11 = .ok (.astore 4, 2) := by decide +kernel
theorem d_F_order_13 : decode prog_1_method_14_code 13 = .ok (.aload_n 3, 1) := by decide +kernel
theorem d_F_order_14 : decode prog_1_method_14_code 14 = .ok (.ifnull 8, 3) := by decide +kernel
theorem d_F_order_17 : decode prog_1_method_14_code 17 = .ok (.aload 4, 2) := by decide +kernel
theorem d_F_order_19 : decode prog_1_method_14_code 19 = .ok (.ifnonnull 5, 3) := by decide +kernel
theorem d_F_order_22 : decode prog_1_method_14_code 22 = .ok (.iconst (-1), 1) := by decide +kernel
theorem d_F_order_23 : decode prog_1_method_14_code 23 = .ok (.ireturn, 1) := by decide +kernel
theorem d_F_order_24 : decode prog_1_method_14_code 24 = .ok (.aload_n 3, 1) := by decide +kernel
theorem d_F_order_25 : decode prog_1_method_14_code 25 = .ok (.getfield 54, 3) := by decide +kernel
theorem d_F_order_28 : decode prog_1_method_14_code 28 = .ok (.aload 4, 2) := by decide +kernel
theorem d_F_order_30 : decode prog_1_method_14_code 30 = .ok (.getfield 54, 3) := by decide +kernel
theorem d_F_order_33 : decode prog_1_method_14_code 33 = .ok (.if_icmp .ne 6, 3) := by decide +kernel
theorem d_F_order_36 : decode prog_1_method_14_code 36 = .ok (.bipush (-2), 2) := by decide +kernel
theorem d_F_order_38 : decode prog_1_method_14_code 38 = .ok (.ireturn, 1) := by decide +kernel
theorem d_F_order_39 : decode prog_1_method_14_code 39 = .ok (.aload_n 0, 1) := by decide +kernel
theorem d_F_order_40 : decode prog_1_method_14_code 40 = .ok (.aload 4, 2) := by decide +kernel
theorem d_F_order_42 : decode prog_1_method_14_code 42 = .ok (.invokevirtual 164, 3) := by decide +kernel
theorem d_F_order_45 : decode prog_1_method_14_code 45 = .ok (.aload_n 3, 1) := by decide +kernel
theorem d_F_order_46 : decode prog_1_method_14_code 46 = .ok (.invokestatic 168, 3) := by decide +kernel
theorem d_F_order_49 : decode prog_1_method_14_code 49 = .ok (.ifCond .eq 5, 3) := by decide +kernel
theorem d_F_order_52 : decode prog_1_method_14_code 52 = .ok (.iconst 0, 1) := by decide +kernel
theorem d_F_order_53 : decode prog_1_method_14_code 53 = .ok (.ireturn, 1) := by decide +kernel
theorem d_F_order_54 : decode prog_1_method_14_code 54 = .ok (.aload_n 3, 1) := by decide +kernel
theorem d_F_order_55 : decode prog_1_method_14_code 55 = .ok (.dup, 1) := by decide +kernel
theorem d_F_order_56 : decode prog_1_method_14_code 56 = .ok (.getfield 172, 3) := by decide +kernel
theorem d_F_order_59 : decode prog_1_method_14_code 59 = .ok (.aload 4, 2) := by decide +kernel
theorem d_F_order_61 : decode prog_1_method_14_code 61 = .ok (.invokevirtual 175, 3) := by decide +kernel
theorem d_F_order_64 : decode prog_1_method_14_code 64 = .ok (.lor, 1) := by decide +kernel
theorem d_F_order_65 : decode prog_1_method_14_code 65 = .ok (.putfield 172, 3) := by decide +kernel
theorem d_F_order_68 : decode prog_1_method_14_code 68 = .ok (.iconst 1, 1) := by decide +kernel
theorem d_F_order_69 : decode prog_1_method_14_code 69 = .ok (.ireturn, 1) := by decide +kernel
-- F_allBefore  FleetWaves.allBefore(LFleetWaves$Campaign;)J  prog_1_method_20_code maxL 7 ret (some .long) code
theorem d_F_allBefore_0 : decode prog_1_method_20_code 0 = .ok (.aload_n 1, 1) := by decide +kernel
theorem d_F_allBefore_1 : decode prog_1_method_20_code 1 = .ok (.getfield 172, 3) := by decide +kernel
theorem d_F_allBefore_4 : decode prog_1_method_20_code 4 = .ok (.lstore_n 2, 1) := by decide +kernel
theorem d_F_allBefore_5 : decode prog_1_method_20_code 5 = .ok (.iconst 0, 1) := by decide +kernel
theorem d_F_allBefore_6 : decode prog_1_method_20_code 6 = .ok (.istore 4, 2) := by decide +kernel
theorem d_F_allBefore_8 : decode prog_1_method_20_code 8 = .ok (.iload 4, 2) := by decide +kernel
theorem d_F_allBefore_10 : decode prog_1_method_20_code 10 = .ok (.aload_n 0, 1) := by decide +kernel
theorem d_F_allBefore_11 : decode prog_1_method_20_code 11 = .ok (.getfield 16, 3) := by decide +kernel
theorem d_F_allBefore_14 : decode prog_1_method_20_code 14 = .ok (.invokevirtual 23, 3) := by decide +kernel
theorem d_F_allBefore_17 : decode prog_1_method_20_code 17 = .ok (.if_icmp .ge 61, 3) := by decide +kernel
theorem d_F_allBefore_20 : decode prog_1_method_20_code 20 = .ok (.iconst 0, 1) := by decide +kernel
theorem d_F_allBefore_21 : decode prog_1_method_20_code 21 = .ok (.istore 5, 2) := by decide +kernel
theorem d_F_allBefore_23 : decode prog_1_method_20_code 23 = .ok (.iload 5, 2) := by decide +kernel
theorem d_F_allBefore_25 : decode prog_1_method_20_code 25 = .ok (.aload_n 0, 1) := by decide +kernel
theorem d_F_allBefore_26 : decode prog_1_method_20_code 26 = .ok (.getfield 16, 3) := by decide +kernel
theorem d_F_allBefore_29 : decode prog_1_method_20_code 29 = .ok (.invokevirtual 23, 3) := by decide +kernel
theorem d_F_allBefore_32 : decode prog_1_method_20_code 32 = .ok (.if_icmp .ge 40, 3) := by decide +kernel
theorem d_F_allBefore_35 : decode prog_1_method_20_code 35 = .ok (.aload_n 0, 1) := by decide +kernel
theorem d_F_allBefore_36 : decode prog_1_method_20_code 36 = .ok (.getfield 16, 3) := by decide +kernel
theorem d_F_allBefore_39 : decode prog_1_method_20_code 39 = .ok (.iload 5, 2) := by decide +kernel
theorem d_F_allBefore_41 : decode prog_1_method_20_code 41 = .ok (.invokevirtual 149, 3) := by decide +kernel
theorem d_F_allBefore_44 : decode prog_1_method_20_code 44 = .ok (.checkcast 38, 3) := by decide +kernel
theorem d_F_allBefore_47 : decode prog_1_method_20_code 47 = .ok (.astore 6, 2) := by decide +kernel
theorem d_F_allBefore_49 : decode prog_1_method_20_code 49 = .ok (.lload_n 2, 1) := by decide +kernel
theorem d_F_allBefore_50 : decode prog_1_method_20_code 50 = .ok (.aload 6, 2) := by decide +kernel
theorem d_F_allBefore_52 : decode prog_1_method_20_code 52 = .ok (.invokestatic 168, 3) := by decide +kernel
theorem d_F_allBefore_55 : decode prog_1_method_20_code 55 = .ok (.ifCond .eq 11, 3) := by decide +kernel
theorem d_F_allBefore_58 : decode prog_1_method_20_code 58 = .ok (.lload_n 2, 1) := by decide +kernel
theorem d_F_allBefore_59 : decode prog_1_method_20_code 59 = .ok (.aload 6, 2) := by decide +kernel
theorem d_F_allBefore_61 : decode prog_1_method_20_code 61 = .ok (.getfield 172, 3) := by decide +kernel
theorem d_F_allBefore_64 : decode prog_1_method_20_code 64 = .ok (.lor, 1) := by decide +kernel
theorem d_F_allBefore_65 : decode prog_1_method_20_code 65 = .ok (.lstore_n 2, 1) := by decide +kernel
theorem d_F_allBefore_66 : decode prog_1_method_20_code 66 = .ok (.iinc 5 1, 3) := by decide +kernel
theorem d_F_allBefore_69 : decode prog_1_method_20_code 69 = .ok (.goto (-46), 3) := by decide +kernel
theorem d_F_allBefore_72 : decode prog_1_method_20_code 72 = .ok (.iinc 4 1, 3) := by decide +kernel
theorem d_F_allBefore_75 : decode prog_1_method_20_code 75 = .ok (.goto (-67), 3) := by decide +kernel
theorem d_F_allBefore_78 : decode prog_1_method_20_code 78 = .ok (.lload_n 2, 1) := by decide +kernel
theorem d_F_allBefore_79 : decode prog_1_method_20_code 79 = .ok (.lreturn, 1) := by decide +kernel
-- F_share  FleetWaves.share(II)J  prog_1_method_7_code maxL 5 ret (some .long) code
theorem d_F_share_0 : decode prog_1_method_7_code 0 = .ok (.aload_n 0, 1) := by decide +kernel
theorem d_F_share_1 : decode prog_1_method_7_code 1 = .ok (.iload_n 1, 1) := by decide +kernel
theorem d_F_share_2 : decode prog_1_method_7_code 2 = .ok (.invokevirtual 58, 3) := by decide +kernel
theorem d_F_share_5 : decode prog_1_method_7_code 5 = .ok (.astore_n 3, 1) := by decide +kernel
theorem d_F_share_6 : decode prog_1_method_7_code 6 = .ok (.aload_n 3, 1) := by decide +kernel
theorem d_F_share_7 : decode prog_1_method_7_code 7 = .ok (.ifnonnull 7, 3) := by decide +kernel
theorem d_F_share_10 : decode prog_1_method_7_code 10 = .ok (.ldc2_w 119, 3) := by decide +kernel
theorem d_F_share_13 : decode prog_1_method_7_code 13 = .ok (.lreturn, 1) := by decide +kernel
theorem d_F_share_14 : decode prog_1_method_7_code 14 = .ok (.aload_n 3, 1) := by decide +kernel
theorem d_F_share_15 : decode prog_1_method_7_code 15 = .ok (.getfield 108, 3) := by decide +kernel
theorem d_F_share_18 : decode prog_1_method_7_code 18 = .ok (.aload_n 3, 1) := by decide +kernel
theorem d_F_share_19 : decode prog_1_method_7_code 19 = .ok (.getfield 95, 3) := by decide +kernel
theorem d_F_share_22 : decode prog_1_method_7_code 22 = .ok (.invokestatic 121, 3) := by decide +kernel
theorem d_F_share_25 : decode prog_1_method_7_code 25 = .ok (.istore 4, 2) := by decide +kernel
theorem d_F_share_27 : decode prog_1_method_7_code 27 = .ok (.iload 4, 2) := by decide +kernel
theorem d_F_share_29 : decode prog_1_method_7_code 29 = .ok (.ifCond .ne 13, 3) := by decide +kernel
theorem d_F_share_32 : decode prog_1_method_7_code 32 = .ok (.new 125, 3) := by decide +kernel
theorem d_F_share_35 : decode prog_1_method_7_code 35 = .ok (.dup, 1) := by decide +kernel
theorem d_F_share_36 : decode prog_1_method_7_code 36 = .ok (.ldc 127, 2) := by decide +kernel
theorem d_F_share_38 : decode prog_1_method_7_code 38 = .ok (.invokespecial 129, 3) := by decide +kernel
theorem d_F_share_41 : decode prog_1_method_7_code 41 = .ok (.athrow, 1) := by decide +kernel
theorem d_F_share_42 : decode prog_1_method_7_code 42 = .ok (.iload_n 2, 1) := by decide +kernel
theorem d_F_share_43 : decode prog_1_method_7_code 43 = .ok (.ifCond .ne 10, 3) := by decide +kernel
theorem d_F_share_46 : decode prog_1_method_7_code 46 = .ok (.aload_n 3, 1) := by decide +kernel
theorem d_F_share_47 : decode prog_1_method_7_code 47 = .ok (.getfield 108, 3) := by decide +kernel
theorem d_F_share_50 : decode prog_1_method_7_code 50 = .ok (.goto 7, 3) := by decide +kernel
theorem d_F_share_53 : decode prog_1_method_7_code 53 = .ok (.aload_n 3, 1) := by decide +kernel
theorem d_F_share_54 : decode prog_1_method_7_code 54 = .ok (.getfield 95, 3) := by decide +kernel
theorem d_F_share_57 : decode prog_1_method_7_code 57 = .ok (.iload 4, 2) := by decide +kernel
theorem d_F_share_59 : decode prog_1_method_7_code 59 = .ok (.idiv, 1) := by decide +kernel
theorem d_F_share_60 : decode prog_1_method_7_code 60 = .ok (.i2l, 1) := by decide +kernel
theorem d_F_share_61 : decode prog_1_method_7_code 61 = .ok (.lreturn, 1) := by decide +kernel
-- F_greatestCommonDivisor  FleetWaves.greatestCommonDivisor(II)I  prog_1_method_27_code maxL 6 ret (some .int) code
theorem d_F_greatestCommonDivisor_0 : decode prog_1_method_27_code 0 = .ok (.iload_n 0, 1) := by decide +kernel
theorem d_F_greatestCommonDivisor_1 : decode prog_1_method_27_code 1 = .ok (.istore_n 2, 1) := by decide +kernel
theorem d_F_greatestCommonDivisor_2 : decode prog_1_method_27_code 2 = .ok (.iload_n 1, 1) := by decide +kernel
theorem d_F_greatestCommonDivisor_3 : decode prog_1_method_27_code 3 = .ok (.istore_n 3, 1) := by decide +kernel
theorem d_F_greatestCommonDivisor_4 : decode prog_1_method_27_code 4 = .ok (.iconst 0, 1) := by decide +kernel
theorem d_F_greatestCommonDivisor_5 : decode prog_1_method_27_code 5 = .ok (.istore 4, 2) := by decide +kernel
theorem d_F_greatestCommonDivisor_7 : decode prog_1_method_27_code 7 = .ok (.iload 4, 2) := by decide +kernel
theorem d_F_greatestCommonDivisor_9 : decode prog_1_method_27_code 9 = .ok (.bipush 100, 2) := by decide +kernel
theorem d_F_greatestCommonDivisor_11 : decode prog_1_method_27_code 11 = .ok (.if_icmp .ge 23, 3) := by decide +kernel
theorem d_F_greatestCommonDivisor_14 : decode prog_1_method_27_code 14 = .ok (.iload_n 3, 1) := by decide +kernel
theorem d_F_greatestCommonDivisor_15 : decode prog_1_method_27_code 15 = .ok (.ifCond .eq 19, 3) := by decide +kernel
theorem d_F_greatestCommonDivisor_18 : decode prog_1_method_27_code 18 = .ok (.iload_n 2, 1) := by decide +kernel
theorem d_F_greatestCommonDivisor_19 : decode prog_1_method_27_code 19 = .ok (.iload_n 3, 1) := by decide +kernel
theorem d_F_greatestCommonDivisor_20 : decode prog_1_method_27_code 20 = .ok (.irem, 1) := by decide +kernel
theorem d_F_greatestCommonDivisor_21 : decode prog_1_method_27_code 21 = .ok (.istore 5, 2) := by decide +kernel
theorem d_F_greatestCommonDivisor_23 : decode prog_1_method_27_code 23 = .ok (.iload_n 3, 1) := by decide +kernel
theorem d_F_greatestCommonDivisor_24 : decode prog_1_method_27_code 24 = .ok (.istore_n 2, 1) := by decide +kernel
theorem d_F_greatestCommonDivisor_25 : decode prog_1_method_27_code 25 = .ok (.iload 5, 2) := by decide +kernel
theorem d_F_greatestCommonDivisor_27 : decode prog_1_method_27_code 27 = .ok (.istore_n 3, 1) := by decide +kernel
theorem d_F_greatestCommonDivisor_28 : decode prog_1_method_27_code 28 = .ok (.iinc 4 1, 3) := by decide +kernel
theorem d_F_greatestCommonDivisor_31 : decode prog_1_method_27_code 31 = .ok (.goto (-24), 3) := by decide +kernel
theorem d_F_greatestCommonDivisor_34 : decode prog_1_method_27_code 34 = .ok (.iload_n 2, 1) := by decide +kernel
theorem d_F_greatestCommonDivisor_35 : decode prog_1_method_27_code 35 = .ok (.ireturn, 1) := by decide +kernel
-- TH_init  java/lang/Throwable.<init>()V  prog_17_method_1_code maxL 1 ret none code
theorem d_TH_init_0 : decode prog_17_method_1_code 0 = .ok (.aload_n 0, 1) := by decide +kernel
theorem d_TH_init_1 : decode prog_17_method_1_code 1 = .ok (.invokespecial 1, 3) := by decide +kernel
theorem d_TH_init_4 : decode prog_17_method_1_code 4 = .ok (.aload_n 0, 1) := by decide +kernel
theorem d_TH_init_5 : decode prog_17_method_1_code 5 = .ok (.aload_n 0, 1) := by decide +kernel
theorem d_TH_init_6 : decode prog_17_method_1_code 6 = .ok (.putfield 7, 3) := by decide +kernel
theorem d_TH_init_9 : decode prog_17_method_1_code 9 = .ok (.aload_n 0, 1) := by decide +kernel
theorem d_TH_init_10 : decode prog_17_method_1_code 10 = .ok (.getstatic 13, 3) := by decide +kernel
theorem d_TH_init_13 : decode prog_17_method_1_code 13 = .ok (.putfield 17, 3) := by decide +kernel
theorem d_TH_init_16 : decode prog_17_method_1_code 16 = .ok (.aload_n 0, 1) := by decide +kernel
theorem d_TH_init_17 : decode prog_17_method_1_code 17 = .ok (.getstatic 20, 3) := by decide +kernel
theorem d_TH_init_20 : decode prog_17_method_1_code 20 = .ok (.putfield 24, 3) := by decide +kernel
theorem d_TH_init_23 : decode prog_17_method_1_code 23 = .ok (.aload_n 0, 1) := by decide +kernel
theorem d_TH_init_24 : decode prog_17_method_1_code 24 = .ok (.invokevirtual 27, 3) := by decide +kernel
theorem d_TH_init_27 : decode prog_17_method_1_code 27 = .ok (.pop, 1) := by decide +kernel
theorem d_TH_init_28 : decode prog_17_method_1_code 28 = .ok (.return_, 1) := by decide +kernel
-- TH_fillInStackTrace  java/lang/Throwable.fillInStackTrace()Ljava/lang/Throwable;  prog_17_method_18_code maxL 1 ret (some (.object "java/lang/Throwable")) codeSync
theorem d_TH_fillInStackTrace_0 : decode prog_17_method_18_code 0 = .ok (.aload_n 0, 1) := by decide +kernel
theorem d_TH_fillInStackTrace_1 : decode prog_17_method_18_code 1 = .ok (.getfield 17, 3) := by decide +kernel
theorem d_TH_fillInStackTrace_4 : decode prog_17_method_18_code 4 = .ok (.ifnonnull 10, 3) := by decide +kernel
theorem d_TH_fillInStackTrace_7 : decode prog_17_method_18_code 7 = .ok (.aload_n 0, 1) := by decide +kernel
theorem d_TH_fillInStackTrace_8 : decode prog_17_method_18_code 8 = .ok (.getfield 198, 3) := by decide +kernel
theorem d_TH_fillInStackTrace_11 : decode prog_17_method_18_code 11 = .ok (.ifnull 16, 3) := by decide +kernel
theorem d_TH_fillInStackTrace_14 : decode prog_17_method_18_code 14 = .ok (.aload_n 0, 1) := by decide +kernel
theorem d_TH_fillInStackTrace_15 : decode prog_17_method_18_code 15 = .ok (.iconst 0, 1) := by decide +kernel
theorem d_TH_fillInStackTrace_16 : decode prog_17_method_18_code 16 = .ok (.invokevirtual 202, 3) := by decide +kernel
theorem d_TH_fillInStackTrace_19 : decode prog_17_method_18_code 19 = .ok (.pop, 1) := by decide +kernel
theorem d_TH_fillInStackTrace_20 : decode prog_17_method_18_code 20 = .ok (.aload_n 0, 1) := by decide +kernel
theorem d_TH_fillInStackTrace_21 : decode prog_17_method_18_code 21 = .ok (.getstatic 13, 3) := by decide +kernel
theorem d_TH_fillInStackTrace_24 : decode prog_17_method_18_code 24 = .ok (.putfield 17, 3) := by decide +kernel
theorem d_TH_fillInStackTrace_27 : decode prog_17_method_18_code 27 = .ok (.aload_n 0, 1) := by decide +kernel
theorem d_TH_fillInStackTrace_28 : decode prog_17_method_18_code 28 = .ok (.areturn, 1) := by decide +kernel
-- TA_init  java/lang/ArithmeticException.<init>(Ljava/lang/String;)V  prog_9_method_2_code maxL 2 ret none code
theorem d_TA_init_0 : decode prog_9_method_2_code 0 = .ok (.aload_n 0, 1) := by decide +kernel
theorem d_TA_init_1 : decode prog_9_method_2_code 1 = .ok (.aload_n 1, 1) := by decide +kernel
theorem d_TA_init_2 : decode prog_9_method_2_code 2 = .ok (.invokespecial 7, 3) := by decide +kernel
theorem d_TA_init_5 : decode prog_9_method_2_code 5 = .ok (.return_, 1) := by decide +kernel
-- TR_init  java/lang/RuntimeException.<init>(Ljava/lang/String;)V  prog_14_method_2_code maxL 2 ret none code
theorem d_TR_init_0 : decode prog_14_method_2_code 0 = .ok (.aload_n 0, 1) := by decide +kernel
theorem d_TR_init_1 : decode prog_14_method_2_code 1 = .ok (.aload_n 1, 1) := by decide +kernel
theorem d_TR_init_2 : decode prog_14_method_2_code 2 = .ok (.invokespecial 7, 3) := by decide +kernel
theorem d_TR_init_5 : decode prog_14_method_2_code 5 = .ok (.return_, 1) := by decide +kernel
-- TE_init  java/lang/Exception.<init>(Ljava/lang/String;)V  prog_11_method_2_code maxL 2 ret none code
theorem d_TE_init_0 : decode prog_11_method_2_code 0 = .ok (.aload_n 0, 1) := by decide +kernel
theorem d_TE_init_1 : decode prog_11_method_2_code 1 = .ok (.aload_n 1, 1) := by decide +kernel
theorem d_TE_init_2 : decode prog_11_method_2_code 2 = .ok (.invokespecial 7, 3) := by decide +kernel
theorem d_TE_init_5 : decode prog_11_method_2_code 5 = .ok (.return_, 1) := by decide +kernel
-- TH_init2  java/lang/Throwable.<init>(Ljava/lang/String;)V  prog_17_method_2_code maxL 2 ret none code
theorem d_TH_init2_0 : decode prog_17_method_2_code 0 = .ok (.aload_n 0, 1) := by decide +kernel
theorem d_TH_init2_1 : decode prog_17_method_2_code 1 = .ok (.invokespecial 1, 3) := by decide +kernel
theorem d_TH_init2_4 : decode prog_17_method_2_code 4 = .ok (.aload_n 0, 1) := by decide +kernel
theorem d_TH_init2_5 : decode prog_17_method_2_code 5 = .ok (.aload_n 0, 1) := by decide +kernel
theorem d_TH_init2_6 : decode prog_17_method_2_code 6 = .ok (.putfield 7, 3) := by decide +kernel
theorem d_TH_init2_9 : decode prog_17_method_2_code 9 = .ok (.aload_n 0, 1) := by decide +kernel
theorem d_TH_init2_10 : decode prog_17_method_2_code 10 = .ok (.getstatic 13, 3) := by decide +kernel
theorem d_TH_init2_13 : decode prog_17_method_2_code 13 = .ok (.putfield 17, 3) := by decide +kernel
theorem d_TH_init2_16 : decode prog_17_method_2_code 16 = .ok (.aload_n 0, 1) := by decide +kernel
theorem d_TH_init2_17 : decode prog_17_method_2_code 17 = .ok (.getstatic 20, 3) := by decide +kernel
theorem d_TH_init2_20 : decode prog_17_method_2_code 20 = .ok (.putfield 24, 3) := by decide +kernel
theorem d_TH_init2_23 : decode prog_17_method_2_code 23 = .ok (.aload_n 0, 1) := by decide +kernel
theorem d_TH_init2_24 : decode prog_17_method_2_code 24 = .ok (.invokevirtual 27, 3) := by decide +kernel
theorem d_TH_init2_27 : decode prog_17_method_2_code 27 = .ok (.pop, 1) := by decide +kernel
theorem d_TH_init2_28 : decode prog_17_method_2_code 28 = .ok (.aload_n 0, 1) := by decide +kernel
theorem d_TH_init2_29 : decode prog_17_method_2_code 29 = .ok (.aload_n 1, 1) := by decide +kernel
theorem d_TH_init2_30 : decode prog_17_method_2_code 30 = .ok (.putfield 31, 3) := by decide +kernel
theorem d_TH_init2_33 : decode prog_17_method_2_code 33 = .ok (.return_, 1) := by decide +kernel
