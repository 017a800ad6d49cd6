theorem d_C_init_0 : decode prog_1_method_1_code 0 = .ok (.aload_n 0, 1) := by decide +kernel
theorem d_C_init_1 : decode prog_1_method_1_code 1 = .ok (.invokespecial 1, 3) := by decide +kernel
theorem d_C_init_4 : decode prog_1_method_1_code 4 = .ok (.aload_n 0, 1) := by decide +kernel
theorem d_C_init_5 : decode prog_1_method_1_code 5 = .ok (.bipush 10, 2) := by decide +kernel
theorem d_C_init_7 : decode prog_1_method_1_code 7 = .ok (.anewarray 9, 3) := by decide +kernel
theorem d_C_init_10 : decode prog_1_method_1_code 10 = .ok (.putfield 11, 3) := by decide +kernel
theorem d_C_init_13 : decode prog_1_method_1_code 13 = .ok (.aload_n 0, 1) := by decide +kernel
theorem d_C_init_14 : decode prog_1_method_1_code 14 = .ok (.iconst 0, 1) := by decide +kernel
theorem d_C_init_15 : decode prog_1_method_1_code 15 = .ok (.putfield 15, 3) := by decide +kernel
theorem d_C_init_18 : decode prog_1_method_1_code 18 = .ok (.aload_n 0, 1) := by decide +kernel
theorem d_C_init_19 : decode prog_1_method_1_code 19 = .ok (.bipush 20, 2) := by decide +kernel
theorem d_C_init_21 : decode prog_1_method_1_code 21 = .ok (.anewarray 19, 3) := by decide +kernel
theorem d_C_init_24 : decode prog_1_method_1_code 24 = .ok (.putfield 21, 3) := by decide +kernel
theorem d_C_init_27 : decode prog_1_method_1_code 27 = .ok (.aload_n 0, 1) := by decide +kernel
theorem d_C_init_28 : decode prog_1_method_1_code 28 = .ok (.iconst 0, 1) := by decide +kernel
theorem d_C_init_29 : decode prog_1_method_1_code 29 = .ok (.putfield 25, 3) := by decide +kernel
theorem d_C_init_32 : decode prog_1_method_1_code 32 = .ok (.aload_n 0, 1) := by decide +kernel
theorem d_C_init_33 : decode prog_1_method_1_code 33 = .ok (.bipush 20, 2) := by decide +kernel
theorem d_C_init_35 : decode prog_1_method_1_code 35 = .ok (.newarray .long, 2) := by decide +kernel
theorem d_C_init_37 : decode prog_1_method_1_code 37 = .ok (.putfield 28, 3) := by decide +kernel
theorem d_C_init_40 : decode prog_1_method_1_code 40 = .ok (.aload_n 0, 1) := by decide +kernel
theorem d_C_init_41 : decode prog_1_method_1_code 41 = .ok (.iconst 0, 1) := by decide +kernel
theorem d_C_init_42 : decode prog_1_method_1_code 42 = .ok (.putfield 32, 3) := by decide +kernel
theorem d_C_init_45 : decode prog_1_method_1_code 45 = .ok (.aload_n 0, 1) := by decide +kernel
theorem d_C_init_46 : decode prog_1_method_1_code 46 = .ok (.bipush 10, 2) := by decide +kernel
theorem d_C_init_48 : decode prog_1_method_1_code 48 = .ok (.newarray .int, 2) := by decide +kernel
theorem d_C_init_50 : decode prog_1_method_1_code 50 = .ok (.putfield 35, 3) := by decide +kernel
theorem d_C_init_53 : decode prog_1_method_1_code 53 = .ok (.aload_n 0, 1) := by decide +kernel
theorem d_C_init_54 : decode prog_1_method_1_code 54 = .ok (.iconst 0, 1) := by decide +kernel
theorem d_C_init_55 : decode prog_1_method_1_code 55 = .ok (.putfield 39, 3) := by decide +kernel
theorem d_C_init_58 : decode prog_1_method_1_code 58 = .ok (.return_, 1) := by decide +kernel
theorem d_C_carrier_0 : decode prog_1_method_2_code 0 = .ok (.iload_n 1, 1) := by decide +kernel
theorem d_C_carrier_1 : decode prog_1_method_2_code 1 = .ok (.iconst 0, 1) := by decide +kernel
theorem d_C_carrier_2 : decode prog_1_method_2_code 2 = .ok (.iconst 3, 1) := by decide +kernel
theorem d_C_carrier_3 : decode prog_1_method_2_code 3 = .ok (.invokestatic 42, 3) := by decide +kernel
theorem d_C_carrier_6 : decode prog_1_method_2_code 6 = .ok (.ifCond .eq 21, 3) := by decide +kernel
theorem d_C_carrier_9 : decode prog_1_method_2_code 9 = .ok (.lload_n 2, 1) := by decide +kernel
theorem d_C_carrier_10 : decode prog_1_method_2_code 10 = .ok (.invokestatic 46, 3) := by decide +kernel
theorem d_C_carrier_13 : decode prog_1_method_2_code 13 = .ok (.ifCond .eq 14, 3) := by decide +kernel
theorem d_C_carrier_16 : decode prog_1_method_2_code 16 = .ok (.iload 4, 2) := by decide +kernel
theorem d_C_carrier_18 : decode prog_1_method_2_code 18 = .ok (.iconst 1, 1) := by decide +kernel
theorem d_C_carrier_19 : decode prog_1_method_2_code 19 = .ok (.bipush 64, 2) := by decide +kernel
theorem d_C_carrier_21 : decode prog_1_method_2_code 21 = .ok (.invokestatic 42, 3) := by decide +kernel
theorem d_C_carrier_24 : decode prog_1_method_2_code 24 = .ok (.ifCond .ne 5, 3) := by decide +kernel
theorem d_C_carrier_27 : decode prog_1_method_2_code 27 = .ok (.iconst (-1), 1) := by decide +kernel
theorem d_C_carrier_28 : decode prog_1_method_2_code 28 = .ok (.ireturn, 1) := by decide +kernel
theorem d_C_carrier_29 : decode prog_1_method_2_code 29 = .ok (.aload_n 0, 1) := by decide +kernel
theorem d_C_carrier_30 : decode prog_1_method_2_code 30 = .ok (.getfield 15, 3) := by decide +kernel
theorem d_C_carrier_33 : decode prog_1_method_2_code 33 = .ok (.aload_n 0, 1) := by decide +kernel
theorem d_C_carrier_34 : decode prog_1_method_2_code 34 = .ok (.getfield 11, 3) := by decide +kernel
theorem d_C_carrier_37 : decode prog_1_method_2_code 37 = .ok (.arraylength, 1) := by decide +kernel
theorem d_C_carrier_38 : decode prog_1_method_2_code 38 = .ok (.if_icmp .ge 11, 3) := by decide +kernel
theorem d_C_carrier_41 : decode prog_1_method_2_code 41 = .ok (.aload_n 0, 1) := by decide +kernel
theorem d_C_carrier_42 : decode prog_1_method_2_code 42 = .ok (.lload_n 2, 1) := by decide +kernel
theorem d_C_carrier_43 : decode prog_1_method_2_code 43 = .ok (.invokevirtual 50, 3) := by decide +kernel
theorem d_C_carrier_46 : decode prog_1_method_2_code 46 = .ok (.ifCond .eq 5, 3) := by decide +kernel
theorem d_C_carrier_49 : decode prog_1_method_2_code 49 = .ok (.iconst (-1), 1) := by decide +kernel
theorem d_C_carrier_50 : decode prog_1_method_2_code 50 = .ok (.ireturn, 1) := by decide +kernel
theorem d_C_carrier_51 : decode prog_1_method_2_code 51 = .ok (.aload_n 0, 1) := by decide +kernel
theorem d_C_carrier_52 : decode prog_1_method_2_code 52 = .ok (.getfield 11, 3) := by decide +kernel
theorem d_C_carrier_55 : decode prog_1_method_2_code 55 = .ok (.aload_n 0, 1) := by decide +kernel
theorem d_C_carrier_56 : decode prog_1_method_2_code 56 = .ok (.getfield 15, 3) := by decide +kernel
theorem d_C_carrier_59 : decode prog_1_method_2_code 59 = .ok (.new 9, 3) := by decide +kernel
theorem d_C_carrier_62 : decode prog_1_method_2_code 62 = .ok (.dup, 1) := by decide +kernel
theorem d_C_carrier_63 : decode prog_1_method_2_code 63 = .ok (.iload_n 1, 1) := by decide +kernel
theorem d_C_carrier_64 : decode prog_1_method_2_code 64 = .ok (.lload_n 2, 1) := by decide +kernel
theorem d_C_carrier_65 : decode prog_1_method_2_code 65 = .ok (.iload 4, 2) := by decide +kernel
theorem d_C_carrier_67 : decode prog_1_method_2_code 67 = .ok (.invokespecial 53, 3) := by decide +kernel
theorem d_C_carrier_70 : decode prog_1_method_2_code 70 = .ok (.aastore, 1) := by decide +kernel
theorem d_C_carrier_71 : decode prog_1_method_2_code 71 = .ok (.aload_n 0, 1) := by decide +kernel
theorem d_C_carrier_72 : decode prog_1_method_2_code 72 = .ok (.dup, 1) := by decide +kernel
theorem d_C_carrier_73 : decode prog_1_method_2_code 73 = .ok (.getfield 15, 3) := by decide +kernel
theorem d_C_carrier_76 : decode prog_1_method_2_code 76 = .ok (.iconst 1, 1) := by decide +kernel
theorem d_C_carrier_77 : decode prog_1_method_2_code 77 = .ok (.iadd, 1) := by decide +kernel
theorem d_C_carrier_78 : decode prog_1_method_2_code 78 = .ok (.putfield 15, 3) := by decide +kernel
theorem d_C_carrier_81 : decode prog_1_method_2_code 81 = .ok (.aload_n 0, 1) := by decide +kernel
theorem d_C_carrier_82 : decode prog_1_method_2_code 82 = .ok (.getfield 15, 3) := by decide +kernel
theorem d_C_carrier_85 : decode prog_1_method_2_code 85 = .ok (.iconst 1, 1) := by decide +kernel
theorem d_C_carrier_86 : decode prog_1_method_2_code 86 = .ok (.isub, 1) := by decide +kernel
theorem d_C_carrier_87 : decode prog_1_method_2_code 87 = .ok (.ireturn, 1) := by decide +kernel
theorem d_C_within_0 : decode prog_1_method_28_code 0 = .ok (.iload_n 0, 1) := by decide +kernel
theorem d_C_within_1 : decode prog_1_method_28_code 1 = .ok (.iload_n 1, 1) := by decide +kernel
theorem d_C_within_2 : decode prog_1_method_28_code 2 = .ok (.if_icmp .lt 12, 3) := by decide +kernel
theorem d_C_within_5 : decode prog_1_method_28_code 5 = .ok (.iload_n 0, 1) := by decide +kernel
theorem d_C_within_6 : decode prog_1_method_28_code 6 = .ok (.iload_n 2, 1) := by decide +kernel
theorem d_C_within_7 : decode prog_1_method_28_code 7 = .ok (.if_icmp .gt 7, 3) := by decide +kernel
theorem d_C_within_10 : decode prog_1_method_28_code 10 = .ok (.iconst 1, 1) := by decide +kernel
theorem d_C_within_11 : decode prog_1_method_28_code 11 = .ok (.goto 4, 3) := by decide +kernel
theorem d_C_within_14 : decode prog_1_method_28_code 14 = .ok (.iconst 0, 1) := by decide +kernel
theorem d_C_within_15 : decode prog_1_method_28_code 15 = .ok (.ireturn, 1) := by decide +kernel
theorem d_C_isSerial_0 : decode prog_1_method_30_code 0 = .ok (.lload_n 0, 1) := by decide +kernel
theorem d_C_isSerial_1 : decode prog_1_method_30_code 1 = .ok (.lconst 0, 1) := by decide +kernel
theorem d_C_isSerial_2 : decode prog_1_method_30_code 2 = .ok (.lcmp, 1) := by decide +kernel
theorem d_C_isSerial_3 : decode prog_1_method_30_code 3 = .ok (.ifCond .lt 15, 3) := by decide +kernel
theorem d_C_isSerial_6 : decode prog_1_method_30_code 6 = .ok (.lload_n 0, 1) := by decide +kernel
theorem d_C_isSerial_7 : decode prog_1_method_30_code 7 = .ok (.ldc2_w 148, 3) := by decide +kernel
theorem d_C_isSerial_10 : decode prog_1_method_30_code 10 = .ok (.lcmp, 1) := by decide +kernel
theorem d_C_isSerial_11 : decode prog_1_method_30_code 11 = .ok (.ifCond .gt 7, 3) := by decide +kernel
theorem d_C_isSerial_14 : decode prog_1_method_30_code 14 = .ok (.iconst 1, 1) := by decide +kernel
theorem d_C_isSerial_15 : decode prog_1_method_30_code 15 = .ok (.goto 4, 3) := by decide +kernel
theorem d_C_isSerial_18 : decode prog_1_method_30_code 18 = .ok (.iconst 0, 1) := by decide +kernel
theorem d_C_isSerial_19 : decode prog_1_method_30_code 19 = .ok (.ireturn, 1) := by decide +kernel
theorem d_C_carrierHasSerial_0 : decode prog_1_method_26_code 0 = .ok (.iconst 0, 1) := by decide +kernel
theorem d_C_carrierHasSerial_1 : decode prog_1_method_26_code 1 = .ok (.istore_n 3, 1) := by decide +kernel
theorem d_C_carrierHasSerial_2 : decode prog_1_method_26_code 2 = .ok (.iload_n 3, 1) := by decide +kernel
theorem d_C_carrierHasSerial_3 : decode prog_1_method_26_code 3 = .ok (.aload_n 0, 1) := by decide +kernel
theorem d_C_carrierHasSerial_4 : decode prog_1_method_26_code 4 = .ok (.getfield 15, 3) := by decide +kernel
theorem d_C_carrierHasSerial_7 : decode prog_1_method_26_code 7 = .ok (.if_icmp .ge 33, 3) := by decide +kernel
theorem d_C_carrierHasSerial_10 : decode prog_1_method_26_code 10 = .ok (.aload_n 0, 1) := by decide +kernel
theorem d_C_carrierHasSerial_11 : decode prog_1_method_26_code 11 = .ok (.iload_n 3, 1) := by decide +kernel
theorem d_C_carrierHasSerial_12 : decode prog_1_method_26_code 12 = .ok (.invokevirtual 56, 3) := by decide +kernel
theorem d_C_carrierHasSerial_15 : decode prog_1_method_26_code 15 = .ok (.astore 4, 2) := by decide +kernel
theorem d_C_carrierHasSerial_17 : decode prog_1_method_26_code 17 = .ok (.aload 4, 2) := by decide +kernel
theorem d_C_carrierHasSerial_19 : decode prog_1_method_26_code 19 = .ok (.ifnull 15, 3) := by decide +kernel
theorem d_C_carrierHasSerial_22 : decode prog_1_method_26_code 22 = .ok (.aload 4, 2) := by decide +kernel
theorem d_C_carrierHasSerial_24 : decode prog_1_method_26_code 24 = .ok (.getfield 139, 3) := by decide +kernel
theorem d_C_carrierHasSerial_27 : decode prog_1_method_26_code 27 = .ok (.lload_n 1, 1) := by decide +kernel
theorem d_C_carrierHasSerial_28 : decode prog_1_method_26_code 28 = .ok (.lcmp, 1) := by decide +kernel
theorem d_C_carrierHasSerial_29 : decode prog_1_method_26_code 29 = .ok (.ifCond .ne 5, 3) := by decide +kernel
theorem d_C_carrierHasSerial_32 : decode prog_1_method_26_code 32 = .ok (.iconst 1, 1) := by decide +kernel
theorem d_C_carrierHasSerial_33 : decode prog_1_method_26_code 33 = .ok (.ireturn, 1) := by decide +kernel
theorem d_C_carrierHasSerial_34 : decode prog_1_method_26_code 34 = .ok (.iinc 3 1, 3) := by decide +kernel
theorem d_C_carrierHasSerial_37 : decode prog_1_method_26_code 37 = .ok (.goto (-35), 3) := by decide +kernel
theorem d_C_carrierHasSerial_40 : decode prog_1_method_26_code 40 = .ok (.iconst 0, 1) := by decide +kernel
theorem d_C_carrierHasSerial_41 : decode prog_1_method_26_code 41 = .ok (.ireturn, 1) := by decide +kernel
theorem d_C_findCarrier_0 : decode prog_1_method_24_code 0 = .ok (.iload_n 1, 1) := by decide +kernel
theorem d_C_findCarrier_1 : decode prog_1_method_24_code 1 = .ok (.ifCond .lt 20, 3) := by decide +kernel
theorem d_C_findCarrier_4 : decode prog_1_method_24_code 4 = .ok (.iload_n 1, 1) := by decide +kernel
theorem d_C_findCarrier_5 : decode prog_1_method_24_code 5 = .ok (.aload_n 0, 1) := by decide +kernel
theorem d_C_findCarrier_6 : decode prog_1_method_24_code 6 = .ok (.getfield 15, 3) := by decide +kernel
theorem d_C_findCarrier_9 : decode prog_1_method_24_code 9 = .ok (.if_icmp .ge 12, 3) := by decide +kernel
theorem d_C_findCarrier_12 : decode prog_1_method_24_code 12 = .ok (.iload_n 1, 1) := by decide +kernel
theorem d_C_findCarrier_13 : decode prog_1_method_24_code 13 = .ok (.aload_n 0, 1) := by decide +kernel
theorem d_C_findCarrier_14 : decode prog_1_method_24_code 14 = .ok (.getfield 11, 3) := by decide +kernel
theorem d_C_findCarrier_17 : decode prog_1_method_24_code 17 = .ok (.arraylength, 1) := by decide +kernel
theorem d_C_findCarrier_18 : decode prog_1_method_24_code 18 = .ok (.if_icmp .lt 5, 3) := by decide +kernel
theorem d_C_findCarrier_21 : decode prog_1_method_24_code 21 = .ok (.aconst_null, 1) := by decide +kernel
theorem d_C_findCarrier_22 : decode prog_1_method_24_code 22 = .ok (.areturn, 1) := by decide +kernel
theorem d_C_findCarrier_23 : decode prog_1_method_24_code 23 = .ok (.aload_n 0, 1) := by decide +kernel
theorem d_C_findCarrier_24 : decode prog_1_method_24_code 24 = .ok (.getfield 11, 3) := by decide +kernel
theorem d_C_findCarrier_27 : decode prog_1_method_24_code 27 = .ok (.iload_n 1, 1) := by decide +kernel
theorem d_C_findCarrier_28 : decode prog_1_method_24_code 28 = .ok (.aaload, 1) := by decide +kernel
theorem d_C_findCarrier_29 : decode prog_1_method_24_code 29 = .ok (.areturn, 1) := by decide +kernel
theorem d_K_init_0 : decode prog_2_method_1_code 0 = .ok (.aload_n 0, 1) := by decide +kernel
theorem d_K_init_1 : decode prog_2_method_1_code 1 = .ok (.invokespecial 3, 3) := by decide +kernel
theorem d_K_init_4 : decode prog_2_method_1_code 4 = .ok (.aload_n 0, 1) := by decide +kernel
theorem d_K_init_5 : decode prog_2_method_1_code 5 = .ok (.iload_n 1, 1) := by decide +kernel
theorem d_K_init_6 : decode prog_2_method_1_code 6 = .ok (.putfield 9, 3) := by decide +kernel
theorem d_K_init_9 : decode prog_2_method_1_code 9 = .ok (.aload_n 0, 1) := by decide +kernel
theorem d_K_init_10 : decode prog_2_method_1_code 10 = .ok (.lload_n 2, 1) := by decide +kernel
theorem d_K_init_11 : decode prog_2_method_1_code 11 = .ok (.putfield 15, 3) := by decide +kernel
theorem d_K_init_14 : decode prog_2_method_1_code 14 = .ok (.aload_n 0, 1) := by decide +kernel
theorem d_K_init_15 : decode prog_2_method_1_code 15 = .ok (.iload 4, 2) := by decide +kernel
theorem d_K_init_17 : decode prog_2_method_1_code 17 = .ok (.newarray .int, 2) := by decide +kernel
theorem d_K_init_19 : decode prog_2_method_1_code 19 = .ok (.putfield 19, 3) := by decide +kernel
theorem d_K_init_22 : decode prog_2_method_1_code 22 = .ok (.aload_n 0, 1) := by decide +kernel
theorem d_K_init_23 : decode prog_2_method_1_code 23 = .ok (.iload 4, 2) := by decide +kernel
theorem d_K_init_25 : decode prog_2_method_1_code 25 = .ok (.newarray .int, 2) := by decide +kernel
theorem d_K_init_27 : decode prog_2_method_1_code 27 = .ok (.putfield 23, 3) := by decide +kernel
theorem d_K_init_30 : decode prog_2_method_1_code 30 = .ok (.aload_n 0, 1) := by decide +kernel
theorem d_K_init_31 : decode prog_2_method_1_code 31 = .ok (.iload 4, 2) := by decide +kernel
theorem d_K_init_33 : decode prog_2_method_1_code 33 = .ok (.newarray .boolean, 2) := by decide +kernel
theorem d_K_init_35 : decode prog_2_method_1_code 35 = .ok (.putfield 26, 3) := by decide +kernel
theorem d_K_init_38 : decode prog_2_method_1_code 38 = .ok (.aload_n 0, 1) := by decide +kernel
theorem d_K_init_39 : decode prog_2_method_1_code 39 = .ok (.iload 4, 2) := by decide +kernel
theorem d_K_init_41 : decode prog_2_method_1_code 41 = .ok (.newarray .boolean, 2) := by decide +kernel
theorem d_K_init_43 : decode prog_2_method_1_code 43 = .ok (.putfield 30, 3) := by decide +kernel
theorem d_K_init_46 : decode prog_2_method_1_code 46 = .ok (.aload_n 0, 1) := by decide +kernel
theorem d_K_init_47 : decode prog_2_method_1_code 47 = .ok (.bipush 6, 2) := by decide +kernel
theorem d_K_init_49 : decode prog_2_method_1_code 49 = .ok (.newarray .int, 2) := by decide +kernel
theorem d_K_init_51 : decode prog_2_method_1_code 51 = .ok (.putfield 33, 3) := by decide +kernel
theorem d_K_init_54 : decode prog_2_method_1_code 54 = .ok (.aload_n 0, 1) := by decide +kernel
theorem d_K_init_55 : decode prog_2_method_1_code 55 = .ok (.iconst 0, 1) := by decide +kernel
theorem d_K_init_56 : decode prog_2_method_1_code 56 = .ok (.putfield 36, 3) := by decide +kernel
theorem d_K_init_59 : decode prog_2_method_1_code 59 = .ok (.aload_n 0, 1) := by decide +kernel
theorem d_K_init_60 : decode prog_2_method_1_code 60 = .ok (.iconst 0, 1) := by decide +kernel
theorem d_K_init_61 : decode prog_2_method_1_code 61 = .ok (.putfield 39, 3) := by decide +kernel
theorem d_K_init_64 : decode prog_2_method_1_code 64 = .ok (.aload_n 0, 1) := by decide +kernel
theorem d_K_init_65 : decode prog_2_method_1_code 65 = .ok (.iconst 0, 1) := by decide +kernel
theorem d_K_init_66 : decode prog_2_method_1_code 66 = .ok (.putfield 42, 3) := by decide +kernel
theorem d_K_init_69 : decode prog_2_method_1_code 69 = .ok (.aload_n 0, 1) := by decide +kernel
theorem d_K_init_70 : decode prog_2_method_1_code 70 = .ok (.iconst 0, 1) := by decide +kernel
theorem d_K_init_71 : decode prog_2_method_1_code 71 = .ok (.putfield 45, 3) := by decide +kernel
theorem d_K_init_74 : decode prog_2_method_1_code 74 = .ok (.aload_n 0, 1) := by decide +kernel
theorem d_K_init_75 : decode prog_2_method_1_code 75 = .ok (.iconst (-1), 1) := by decide +kernel
theorem d_K_init_76 : decode prog_2_method_1_code 76 = .ok (.putfield 48, 3) := by decide +kernel
theorem d_K_init_79 : decode prog_2_method_1_code 79 = .ok (.return_, 1) := by decide +kernel
theorem d_C_state_0 : decode prog_1_method_3_code 0 = .ok (.aload_n 0, 1) := by decide +kernel
theorem d_C_state_1 : decode prog_1_method_3_code 1 = .ok (.iload_n 1, 1) := by decide +kernel
theorem d_C_state_2 : decode prog_1_method_3_code 2 = .ok (.invokevirtual 56, 3) := by decide +kernel
theorem d_C_state_5 : decode prog_1_method_3_code 5 = .ok (.astore_n 2, 1) := by decide +kernel
theorem d_C_state_6 : decode prog_1_method_3_code 6 = .ok (.aload_n 2, 1) := by decide +kernel
theorem d_C_state_7 : decode prog_1_method_3_code 7 = .ok (.ifnonnull 7, 3) := by decide +kernel
theorem d_C_state_10 : decode prog_1_method_3_code 10 = .ok (.iconst (-1), 1) := by decide +kernel
theorem d_C_state_11 : decode prog_1_method_3_code 11 = .ok (.goto 7, 3) := by decide +kernel
theorem d_C_state_14 : decode prog_1_method_3_code 14 = .ok (.aload_n 2, 1) := by decide +kernel
theorem d_C_state_15 : decode prog_1_method_3_code 15 = .ok (.getfield 60, 3) := by decide +kernel
theorem d_C_state_18 : decode prog_1_method_3_code 18 = .ok (.ireturn, 1) := by decide +kernel
theorem d_C_event_0 : decode prog_1_method_4_code 0 = .ok (.aload_n 0, 1) := by decide +kernel
theorem d_C_event_1 : decode prog_1_method_4_code 1 = .ok (.iload_n 1, 1) := by decide +kernel
theorem d_C_event_2 : decode prog_1_method_4_code 2 = .ok (.invokevirtual 56, 3) := by decide +kernel
theorem d_C_event_5 : decode prog_1_method_4_code 5 = .ok (.astore 4, 2) := by decide +kernel
theorem d_C_event_7 : decode prog_1_method_4_code 7 = .ok (.aload 4, 2) := by decide +kernel
theorem d_C_event_9 : decode prog_1_method_4_code 9 = .ok (.ifnull 22, 3) := by decide +kernel
theorem d_C_event_12 : decode prog_1_method_4_code 12 = .ok (.iload_n 3, 1) := by decide +kernel
theorem d_C_event_13 : decode prog_1_method_4_code 13 = .ok (.invokestatic 63, 3) := by decide +kernel
theorem d_C_event_16 : decode prog_1_method_4_code 16 = .ok (.ifCond .eq 15, 3) := by decide +kernel
theorem d_C_event_19 : decode prog_1_method_4_code 19 = .ok (.iload_n 2, 1) := by decide +kernel
theorem d_C_event_20 : decode prog_1_method_4_code 20 = .ok (.aload 4, 2) := by decide +kernel
theorem d_C_event_22 : decode prog_1_method_4_code 22 = .ok (.getfield 60, 3) := by decide +kernel
theorem d_C_event_25 : decode prog_1_method_4_code 25 = .ok (.invokestatic 67, 3) := by decide +kernel
theorem d_C_event_28 : decode prog_1_method_4_code 28 = .ok (.ifCond .ne 5, 3) := by decide +kernel
theorem d_C_event_31 : decode prog_1_method_4_code 31 = .ok (.iconst 0, 1) := by decide +kernel
theorem d_C_event_32 : decode prog_1_method_4_code 32 = .ok (.ireturn, 1) := by decide +kernel
theorem d_C_event_33 : decode prog_1_method_4_code 33 = .ok (.iload_n 2, 1) := by decide +kernel
theorem d_C_event_34 : decode prog_1_method_4_code 34 = .ok (.iconst 3, 1) := by decide +kernel
theorem d_C_event_35 : decode prog_1_method_4_code 35 = .ok (.if_icmp .ne 8, 3) := by decide +kernel
theorem d_C_event_38 : decode prog_1_method_4_code 38 = .ok (.aload 4, 2) := by decide +kernel
theorem d_C_event_40 : decode prog_1_method_4_code 40 = .ok (.invokevirtual 71, 3) := by decide +kernel
theorem d_C_event_43 : decode prog_1_method_4_code 43 = .ok (.aload 4, 2) := by decide +kernel
theorem d_C_event_45 : decode prog_1_method_4_code 45 = .ok (.iload_n 2, 1) := by decide +kernel
theorem d_C_event_46 : decode prog_1_method_4_code 46 = .ok (.invokestatic 74, 3) := by decide +kernel
theorem d_C_event_49 : decode prog_1_method_4_code 49 = .ok (.putfield 60, 3) := by decide +kernel
theorem d_C_event_52 : decode prog_1_method_4_code 52 = .ok (.aload 4, 2) := by decide +kernel
theorem d_C_event_54 : decode prog_1_method_4_code 54 = .ok (.iload_n 3, 1) := by decide +kernel
theorem d_C_event_55 : decode prog_1_method_4_code 55 = .ok (.putfield 78, 3) := by decide +kernel
theorem d_C_event_58 : decode prog_1_method_4_code 58 = .ok (.iconst 1, 1) := by decide +kernel
theorem d_C_event_59 : decode prog_1_method_4_code 59 = .ok (.ireturn, 1) := by decide +kernel
theorem d_C_isPerson_0 : decode prog_1_method_29_code 0 = .ok (.iload_n 0, 1) := by decide +kernel
theorem d_C_isPerson_1 : decode prog_1_method_29_code 1 = .ok (.iconst 0, 1) := by decide +kernel
theorem d_C_isPerson_2 : decode prog_1_method_29_code 2 = .ok (.bipush 9, 2) := by decide +kernel
theorem d_C_isPerson_4 : decode prog_1_method_29_code 4 = .ok (.invokestatic 42, 3) := by decide +kernel
theorem d_C_isPerson_7 : decode prog_1_method_29_code 7 = .ok (.ireturn, 1) := by decide +kernel
theorem d_C_leadsFrom_0 : decode prog_1_method_31_code 0 = .ok (.iload_n 0, 1) := by decide +kernel
theorem d_C_leadsFrom_1 : decode prog_1_method_31_code 1 = .ok (.tableswitch 74 0 4 #[35, 45, 56, 45, 63], 35) := by decide +kernel
theorem d_C_leadsFrom_36 : decode prog_1_method_31_code 36 = .ok (.iload_n 1, 1) := by decide +kernel
theorem d_C_leadsFrom_37 : decode prog_1_method_31_code 37 = .ok (.ifCond .ne 7, 3) := by decide +kernel
theorem d_C_leadsFrom_40 : decode prog_1_method_31_code 40 = .ok (.iconst 1, 1) := by decide +kernel
theorem d_C_leadsFrom_41 : decode prog_1_method_31_code 41 = .ok (.goto 4, 3) := by decide +kernel
theorem d_C_leadsFrom_44 : decode prog_1_method_31_code 44 = .ok (.iconst 0, 1) := by decide +kernel
theorem d_C_leadsFrom_45 : decode prog_1_method_31_code 45 = .ok (.ireturn, 1) := by decide +kernel
theorem d_C_leadsFrom_46 : decode prog_1_method_31_code 46 = .ok (.iload_n 1, 1) := by decide +kernel
theorem d_C_leadsFrom_47 : decode prog_1_method_31_code 47 = .ok (.iconst 1, 1) := by decide +kernel
theorem d_C_leadsFrom_48 : decode prog_1_method_31_code 48 = .ok (.if_icmp .ne 7, 3) := by decide +kernel
theorem d_C_leadsFrom_51 : decode prog_1_method_31_code 51 = .ok (.iconst 1, 1) := by decide +kernel
theorem d_C_leadsFrom_52 : decode prog_1_method_31_code 52 = .ok (.goto 4, 3) := by decide +kernel
theorem d_C_leadsFrom_55 : decode prog_1_method_31_code 55 = .ok (.iconst 0, 1) := by decide +kernel
theorem d_C_leadsFrom_56 : decode prog_1_method_31_code 56 = .ok (.ireturn, 1) := by decide +kernel
theorem d_C_leadsFrom_57 : decode prog_1_method_31_code 57 = .ok (.iload_n 1, 1) := by decide +kernel
theorem d_C_leadsFrom_58 : decode prog_1_method_31_code 58 = .ok (.iconst 0, 1) := by decide +kernel
theorem d_C_leadsFrom_59 : decode prog_1_method_31_code 59 = .ok (.iconst 3, 1) := by decide +kernel
theorem d_C_leadsFrom_60 : decode prog_1_method_31_code 60 = .ok (.invokestatic 42, 3) := by decide +kernel
theorem d_C_leadsFrom_63 : decode prog_1_method_31_code 63 = .ok (.ireturn, 1) := by decide +kernel
theorem d_C_leadsFrom_64 : decode prog_1_method_31_code 64 = .ok (.iload_n 1, 1) := by decide +kernel
theorem d_C_leadsFrom_65 : decode prog_1_method_31_code 65 = .ok (.iconst 3, 1) := by decide +kernel
theorem d_C_leadsFrom_66 : decode prog_1_method_31_code 66 = .ok (.if_icmp .ne 7, 3) := by decide +kernel
theorem d_C_leadsFrom_69 : decode prog_1_method_31_code 69 = .ok (.iconst 1, 1) := by decide +kernel
theorem d_C_leadsFrom_70 : decode prog_1_method_31_code 70 = .ok (.goto 4, 3) := by decide +kernel
theorem d_C_leadsFrom_73 : decode prog_1_method_31_code 73 = .ok (.iconst 0, 1) := by decide +kernel
theorem d_C_leadsFrom_74 : decode prog_1_method_31_code 74 = .ok (.ireturn, 1) := by decide +kernel
theorem d_C_leadsFrom_75 : decode prog_1_method_31_code 75 = .ok (.iconst 0, 1) := by decide +kernel
theorem d_C_leadsFrom_76 : decode prog_1_method_31_code 76 = .ok (.ireturn, 1) := by decide +kernel
theorem d_K_forgetPasses_0 : decode prog_2_method_6_code 0 = .ok (.aload_n 0, 1) := by decide +kernel
theorem d_K_forgetPasses_1 : decode prog_2_method_6_code 1 = .ok (.iconst 0, 1) := by decide +kernel
theorem d_K_forgetPasses_2 : decode prog_2_method_6_code 2 = .ok (.putfield 36, 3) := by decide +kernel
theorem d_K_forgetPasses_5 : decode prog_2_method_6_code 5 = .ok (.aload_n 0, 1) := by decide +kernel
theorem d_K_forgetPasses_6 : decode prog_2_method_6_code 6 = .ok (.invokevirtual 55, 3) := by decide +kernel
theorem d_K_forgetPasses_9 : decode prog_2_method_6_code 9 = .ok (.return_, 1) := by decide +kernel
theorem d_K_forgetReads_0 : decode prog_2_method_7_code 0 = .ok (.iconst 0, 1) := by decide +kernel
theorem d_K_forgetReads_1 : decode prog_2_method_7_code 1 = .ok (.istore_n 1, 1) := by decide +kernel
theorem d_K_forgetReads_2 : decode prog_2_method_7_code 2 = .ok (.iload_n 1, 1) := by decide +kernel
theorem d_K_forgetReads_3 : decode prog_2_method_7_code 3 = .ok (.aload_n 0, 1) := by decide +kernel
theorem d_K_forgetReads_4 : decode prog_2_method_7_code 4 = .ok (.getfield 30, 3) := by decide +kernel
theorem d_K_forgetReads_7 : decode prog_2_method_7_code 7 = .ok (.arraylength, 1) := by decide +kernel
theorem d_K_forgetReads_8 : decode prog_2_method_7_code 8 = .ok (.if_icmp .ge 16, 3) := by decide +kernel
theorem d_K_forgetReads_11 : decode prog_2_method_7_code 11 = .ok (.aload_n 0, 1) := by decide +kernel
theorem d_K_forgetReads_12 : decode prog_2_method_7_code 12 = .ok (.getfield 30, 3) := by decide +kernel
theorem d_K_forgetReads_15 : decode prog_2_method_7_code 15 = .ok (.iload_n 1, 1) := by decide +kernel
theorem d_K_forgetReads_16 : decode prog_2_method_7_code 16 = .ok (.iconst 0, 1) := by decide +kernel
theorem d_K_forgetReads_17 : decode prog_2_method_7_code 17 = .ok (.bastore, 1) := by decide +kernel
theorem d_K_forgetReads_18 : decode prog_2_method_7_code 18 = .ok (.iinc 1 1, 3) := by decide +kernel
theorem d_K_forgetReads_21 : decode prog_2_method_7_code 21 = .ok (.goto (-19), 3) := by decide +kernel
theorem d_K_forgetReads_24 : decode prog_2_method_7_code 24 = .ok (.aload_n 0, 1) := by decide +kernel
theorem d_K_forgetReads_25 : decode prog_2_method_7_code 25 = .ok (.iconst 0, 1) := by decide +kernel
theorem d_K_forgetReads_26 : decode prog_2_method_7_code 26 = .ok (.putfield 39, 3) := by decide +kernel
theorem d_K_forgetReads_29 : decode prog_2_method_7_code 29 = .ok (.aload_n 0, 1) := by decide +kernel
theorem d_K_forgetReads_30 : decode prog_2_method_7_code 30 = .ok (.iconst 0, 1) := by decide +kernel
theorem d_K_forgetReads_31 : decode prog_2_method_7_code 31 = .ok (.putfield 42, 3) := by decide +kernel
theorem d_K_forgetReads_34 : decode prog_2_method_7_code 34 = .ok (.return_, 1) := by decide +kernel
theorem d_C_leadsTo_0 : decode prog_1_method_32_code 0 = .ok (.iload_n 0, 1) := by decide +kernel
theorem d_C_leadsTo_1 : decode prog_1_method_32_code 1 = .ok (.tableswitch 33 1 3 #[27, 29, 31], 27) := by decide +kernel
theorem d_C_leadsTo_28 : decode prog_1_method_32_code 28 = .ok (.iconst 0, 1) := by decide +kernel
theorem d_C_leadsTo_29 : decode prog_1_method_32_code 29 = .ok (.ireturn, 1) := by decide +kernel
theorem d_C_leadsTo_30 : decode prog_1_method_32_code 30 = .ok (.iconst 4, 1) := by decide +kernel
theorem d_C_leadsTo_31 : decode prog_1_method_32_code 31 = .ok (.ireturn, 1) := by decide +kernel
theorem d_C_leadsTo_32 : decode prog_1_method_32_code 32 = .ok (.iconst 2, 1) := by decide +kernel
theorem d_C_leadsTo_33 : decode prog_1_method_32_code 33 = .ok (.ireturn, 1) := by decide +kernel
theorem d_C_leadsTo_34 : decode prog_1_method_32_code 34 = .ok (.iconst 1, 1) := by decide +kernel
theorem d_C_leadsTo_35 : decode prog_1_method_32_code 35 = .ok (.ireturn, 1) := by decide +kernel
theorem d_C_last_0 : decode prog_1_method_5_code 0 = .ok (.aload_n 0, 1) := by decide +kernel
theorem d_C_last_1 : decode prog_1_method_5_code 1 = .ok (.iload_n 1, 1) := by decide +kernel
theorem d_C_last_2 : decode prog_1_method_5_code 2 = .ok (.invokevirtual 56, 3) := by decide +kernel
theorem d_C_last_5 : decode prog_1_method_5_code 5 = .ok (.astore_n 2, 1) := by decide +kernel
theorem d_C_last_6 : decode prog_1_method_5_code 6 = .ok (.aload_n 2, 1) := by decide +kernel
theorem d_C_last_7 : decode prog_1_method_5_code 7 = .ok (.ifnonnull 7, 3) := by decide +kernel
theorem d_C_last_10 : decode prog_1_method_5_code 10 = .ok (.iconst (-1), 1) := by decide +kernel
theorem d_C_last_11 : decode prog_1_method_5_code 11 = .ok (.goto 7, 3) := by decide +kernel
theorem d_C_last_14 : decode prog_1_method_5_code 14 = .ok (.aload_n 2, 1) := by decide +kernel
theorem d_C_last_15 : decode prog_1_method_5_code 15 = .ok (.getfield 78, 3) := by decide +kernel
theorem d_C_last_18 : decode prog_1_method_5_code 18 = .ok (.ireturn, 1) := by decide +kernel
theorem d_C_fail_0 : decode prog_1_method_6_code 0 = .ok (.aload_n 0, 1) := by decide +kernel
theorem d_C_fail_1 : decode prog_1_method_6_code 1 = .ok (.iload_n 1, 1) := by decide +kernel
theorem d_C_fail_2 : decode prog_1_method_6_code 2 = .ok (.invokevirtual 56, 3) := by decide +kernel
theorem d_C_fail_5 : decode prog_1_method_6_code 5 = .ok (.astore_n 3, 1) := by decide +kernel
theorem d_C_fail_6 : decode prog_1_method_6_code 6 = .ok (.aload_n 3, 1) := by decide +kernel
theorem d_C_fail_7 : decode prog_1_method_6_code 7 = .ok (.ifnull 22, 3) := by decide +kernel
theorem d_C_fail_10 : decode prog_1_method_6_code 10 = .ok (.aload_n 3, 1) := by decide +kernel
theorem d_C_fail_11 : decode prog_1_method_6_code 11 = .ok (.invokevirtual 81, 3) := by decide +kernel
theorem d_C_fail_14 : decode prog_1_method_6_code 14 = .ok (.ifCond .ne 15, 3) := by decide +kernel
theorem d_C_fail_17 : decode prog_1_method_6_code 17 = .ok (.aload_n 3, 1) := by decide +kernel
theorem d_C_fail_18 : decode prog_1_method_6_code 18 = .ok (.iload_n 2, 1) := by decide +kernel
theorem d_C_fail_19 : decode prog_1_method_6_code 19 = .ok (.invokevirtual 85, 3) := by decide +kernel
theorem d_C_fail_22 : decode prog_1_method_6_code 22 = .ok (.ifCond .eq 7, 3) := by decide +kernel
theorem d_C_fail_25 : decode prog_1_method_6_code 25 = .ok (.iconst 1, 1) := by decide +kernel
theorem d_C_fail_26 : decode prog_1_method_6_code 26 = .ok (.goto 4, 3) := by decide +kernel
theorem d_C_fail_29 : decode prog_1_method_6_code 29 = .ok (.iconst 0, 1) := by decide +kernel
theorem d_C_fail_30 : decode prog_1_method_6_code 30 = .ok (.ireturn, 1) := by decide +kernel
theorem d_K_isGone_0 : decode prog_2_method_3_code 0 = .ok (.aload_n 0, 1) := by decide +kernel
theorem d_K_isGone_1 : decode prog_2_method_3_code 1 = .ok (.getfield 45, 3) := by decide +kernel
theorem d_K_isGone_4 : decode prog_2_method_3_code 4 = .ok (.iconst 5, 1) := by decide +kernel
theorem d_K_isGone_5 : decode prog_2_method_3_code 5 = .ok (.if_icmp .eq 12, 3) := by decide +kernel
theorem d_K_isGone_8 : decode prog_2_method_3_code 8 = .ok (.aload_n 0, 1) := by decide +kernel
theorem d_K_isGone_9 : decode prog_2_method_3_code 9 = .ok (.getfield 45, 3) := by decide +kernel
theorem d_K_isGone_12 : decode prog_2_method_3_code 12 = .ok (.bipush 6, 2) := by decide +kernel
theorem d_K_isGone_14 : decode prog_2_method_3_code 14 = .ok (.if_icmp .ne 7, 3) := by decide +kernel
theorem d_K_isGone_17 : decode prog_2_method_3_code 17 = .ok (.iconst 1, 1) := by decide +kernel
theorem d_K_isGone_18 : decode prog_2_method_3_code 18 = .ok (.goto 4, 3) := by decide +kernel
theorem d_K_isGone_21 : decode prog_2_method_3_code 21 = .ok (.iconst 0, 1) := by decide +kernel
theorem d_K_isGone_22 : decode prog_2_method_3_code 22 = .ok (.ireturn, 1) := by decide +kernel
theorem d_K_wearOut_0 : decode prog_2_method_4_code 0 = .ok (.aload_n 0, 1) := by decide +kernel
theorem d_K_wearOut_1 : decode prog_2_method_4_code 1 = .ok (.iload_n 1, 1) := by decide +kernel
theorem d_K_wearOut_2 : decode prog_2_method_4_code 2 = .ok (.invokevirtual 51, 3) := by decide +kernel
theorem d_K_wearOut_5 : decode prog_2_method_4_code 5 = .ok (.ifCond .eq 12, 3) := by decide +kernel
theorem d_K_wearOut_8 : decode prog_2_method_4_code 8 = .ok (.aload_n 0, 1) := by decide +kernel
theorem d_K_wearOut_9 : decode prog_2_method_4_code 9 = .ok (.getfield 26, 3) := by decide +kernel
theorem d_K_wearOut_12 : decode prog_2_method_4_code 12 = .ok (.iload_n 1, 1) := by decide +kernel
theorem d_K_wearOut_13 : decode prog_2_method_4_code 13 = .ok (.baload, 1) := by decide +kernel
theorem d_K_wearOut_14 : decode prog_2_method_4_code 14 = .ok (.ifCond .eq 5, 3) := by decide +kernel
theorem d_K_wearOut_17 : decode prog_2_method_4_code 17 = .ok (.iconst 0, 1) := by decide +kernel
theorem d_K_wearOut_18 : decode prog_2_method_4_code 18 = .ok (.ireturn, 1) := by decide +kernel
theorem d_K_wearOut_19 : decode prog_2_method_4_code 19 = .ok (.aload_n 0, 1) := by decide +kernel
theorem d_K_wearOut_20 : decode prog_2_method_4_code 20 = .ok (.getfield 26, 3) := by decide +kernel
theorem d_K_wearOut_23 : decode prog_2_method_4_code 23 = .ok (.iload_n 1, 1) := by decide +kernel
theorem d_K_wearOut_24 : decode prog_2_method_4_code 24 = .ok (.iconst 1, 1) := by decide +kernel
theorem d_K_wearOut_25 : decode prog_2_method_4_code 25 = .ok (.bastore, 1) := by decide +kernel
theorem d_K_wearOut_26 : decode prog_2_method_4_code 26 = .ok (.iconst 1, 1) := by decide +kernel
theorem d_K_wearOut_27 : decode prog_2_method_4_code 27 = .ok (.ireturn, 1) := by decide +kernel
theorem d_K_hasPlace_0 : decode prog_2_method_2_code 0 = .ok (.iload_n 1, 1) := by decide +kernel
theorem d_K_hasPlace_1 : decode prog_2_method_2_code 1 = .ok (.ifCond .lt 16, 3) := by decide +kernel
theorem d_K_hasPlace_4 : decode prog_2_method_2_code 4 = .ok (.iload_n 1, 1) := by decide +kernel
theorem d_K_hasPlace_5 : decode prog_2_method_2_code 5 = .ok (.aload_n 0, 1) := by decide +kernel
theorem d_K_hasPlace_6 : decode prog_2_method_2_code 6 = .ok (.getfield 19, 3) := by decide +kernel
theorem d_K_hasPlace_9 : decode prog_2_method_2_code 9 = .ok (.arraylength, 1) := by decide +kernel
theorem d_K_hasPlace_10 : decode prog_2_method_2_code 10 = .ok (.if_icmp .ge 7, 3) := by decide +kernel
theorem d_K_hasPlace_13 : decode prog_2_method_2_code 13 = .ok (.iconst 1, 1) := by decide +kernel
theorem d_K_hasPlace_14 : decode prog_2_method_2_code 14 = .ok (.goto 4, 3) := by decide +kernel
theorem d_K_hasPlace_17 : decode prog_2_method_2_code 17 = .ok (.iconst 0, 1) := by decide +kernel
theorem d_K_hasPlace_18 : decode prog_2_method_2_code 18 = .ok (.ireturn, 1) := by decide +kernel
theorem d_C_failed_0 : decode prog_1_method_7_code 0 = .ok (.aload_n 0, 1) := by decide +kernel
theorem d_C_failed_1 : decode prog_1_method_7_code 1 = .ok (.iload_n 1, 1) := by decide +kernel
theorem d_C_failed_2 : decode prog_1_method_7_code 2 = .ok (.invokevirtual 56, 3) := by decide +kernel
theorem d_C_failed_5 : decode prog_1_method_7_code 5 = .ok (.astore_n 3, 1) := by decide +kernel
theorem d_C_failed_6 : decode prog_1_method_7_code 6 = .ok (.aload_n 3, 1) := by decide +kernel
theorem d_C_failed_7 : decode prog_1_method_7_code 7 = .ok (.ifnonnull 7, 3) := by decide +kernel
theorem d_C_failed_10 : decode prog_1_method_7_code 10 = .ok (.iconst (-1), 1) := by decide +kernel
theorem d_C_failed_11 : decode prog_1_method_7_code 11 = .ok (.goto 8, 3) := by decide +kernel
theorem d_C_failed_14 : decode prog_1_method_7_code 14 = .ok (.aload_n 3, 1) := by decide +kernel
theorem d_C_failed_15 : decode prog_1_method_7_code 15 = .ok (.iload_n 2, 1) := by decide +kernel
theorem d_C_failed_16 : decode prog_1_method_7_code 16 = .ok (.invokevirtual 88, 3) := by decide +kernel
theorem d_C_failed_19 : decode prog_1_method_7_code 19 = .ok (.ireturn, 1) := by decide +kernel
theorem d_K_wornPlace_0 : decode prog_2_method_5_code 0 = .ok (.iconst 0, 1) := by decide +kernel
theorem d_K_wornPlace_1 : decode prog_2_method_5_code 1 = .ok (.istore_n 2, 1) := by decide +kernel
theorem d_K_wornPlace_2 : decode prog_2_method_5_code 2 = .ok (.iconst 0, 1) := by decide +kernel
theorem d_K_wornPlace_3 : decode prog_2_method_5_code 3 = .ok (.istore_n 3, 1) := by decide +kernel
theorem d_K_wornPlace_4 : decode prog_2_method_5_code 4 = .ok (.iload_n 3, 1) := by decide +kernel
theorem d_K_wornPlace_5 : decode prog_2_method_5_code 5 = .ok (.aload_n 0, 1) := by decide +kernel
theorem d_K_wornPlace_6 : decode prog_2_method_5_code 6 = .ok (.getfield 26, 3) := by decide +kernel
theorem d_K_wornPlace_9 : decode prog_2_method_5_code 9 = .ok (.arraylength, 1) := by decide +kernel
theorem d_K_wornPlace_10 : decode prog_2_method_5_code 10 = .ok (.if_icmp .ge 28, 3) := by decide +kernel
theorem d_K_wornPlace_13 : decode prog_2_method_5_code 13 = .ok (.aload_n 0, 1) := by decide +kernel
theorem d_K_wornPlace_14 : decode prog_2_method_5_code 14 = .ok (.getfield 26, 3) := by decide +kernel
theorem d_K_wornPlace_17 : decode prog_2_method_5_code 17 = .ok (.iload_n 3, 1) := by decide +kernel
theorem d_K_wornPlace_18 : decode prog_2_method_5_code 18 = .ok (.baload, 1) := by decide +kernel
theorem d_K_wornPlace_19 : decode prog_2_method_5_code 19 = .ok (.ifCond .eq 13, 3) := by decide +kernel
theorem d_K_wornPlace_22 : decode prog_2_method_5_code 22 = .ok (.iload_n 2, 1) := by decide +kernel
theorem d_K_wornPlace_23 : decode prog_2_method_5_code 23 = .ok (.iload_n 1, 1) := by decide +kernel
theorem d_K_wornPlace_24 : decode prog_2_method_5_code 24 = .ok (.if_icmp .ne 5, 3) := by decide +kernel
theorem d_K_wornPlace_27 : decode prog_2_method_5_code 27 = .ok (.iload_n 3, 1) := by decide +kernel
theorem d_K_wornPlace_28 : decode prog_2_method_5_code 28 = .ok (.ireturn, 1) := by decide +kernel
theorem d_K_wornPlace_29 : decode prog_2_method_5_code 29 = .ok (.iinc 2 1, 3) := by decide +kernel
theorem d_K_wornPlace_32 : decode prog_2_method_5_code 32 = .ok (.iinc 3 1, 3) := by decide +kernel
theorem d_K_wornPlace_35 : decode prog_2_method_5_code 35 = .ok (.goto (-31), 3) := by decide +kernel
theorem d_K_wornPlace_38 : decode prog_2_method_5_code 38 = .ok (.iconst (-1), 1) := by decide +kernel
theorem d_K_wornPlace_39 : decode prog_2_method_5_code 39 = .ok (.ireturn, 1) := by decide +kernel
theorem d_C_pass_0 : decode prog_1_method_8_code 0 = .ok (.aload_n 0, 1) := by decide +kernel
theorem d_C_pass_1 : decode prog_1_method_8_code 1 = .ok (.iload_n 1, 1) := by decide +kernel
theorem d_C_pass_2 : decode prog_1_method_8_code 2 = .ok (.invokevirtual 56, 3) := by decide +kernel
theorem d_C_pass_5 : decode prog_1_method_8_code 5 = .ok (.astore_n 3, 1) := by decide +kernel
theorem d_C_pass_6 : decode prog_1_method_8_code 6 = .ok (.aload_n 3, 1) := by decide +kernel
theorem d_C_pass_7 : decode prog_1_method_8_code 7 = .ok (.ifnull 14, 3) := by decide +kernel
theorem d_C_pass_10 : decode prog_1_method_8_code 10 = .ok (.iload_n 2, 1) := by decide +kernel
theorem d_C_pass_11 : decode prog_1_method_8_code 11 = .ok (.iconst 0, 1) := by decide +kernel
theorem d_C_pass_12 : decode prog_1_method_8_code 12 = .ok (.sipush 257, 3) := by decide +kernel
theorem d_C_pass_15 : decode prog_1_method_8_code 15 = .ok (.invokestatic 42, 3) := by decide +kernel
theorem d_C_pass_18 : decode prog_1_method_8_code 18 = .ok (.ifCond .ne 5, 3) := by decide +kernel
theorem d_C_pass_21 : decode prog_1_method_8_code 21 = .ok (.iconst (-1), 1) := by decide +kernel
theorem d_C_pass_22 : decode prog_1_method_8_code 22 = .ok (.ireturn, 1) := by decide +kernel
theorem d_C_pass_23 : decode prog_1_method_8_code 23 = .ok (.aload_n 3, 1) := by decide +kernel
theorem d_C_pass_24 : decode prog_1_method_8_code 24 = .ok (.iload_n 2, 1) := by decide +kernel
theorem d_C_pass_25 : decode prog_1_method_8_code 25 = .ok (.invokevirtual 91, 3) := by decide +kernel
theorem d_C_pass_28 : decode prog_1_method_8_code 28 = .ok (.ireturn, 1) := by decide +kernel
theorem d_K_overwrite_0 : decode prog_2_method_8_code 0 = .ok (.aload_n 0, 1) := by decide +kernel
theorem d_K_overwrite_1 : decode prog_2_method_8_code 1 = .ok (.getfield 45, 3) := by decide +kernel
theorem d_K_overwrite_4 : decode prog_2_method_8_code 4 = .ok (.iconst 2, 1) := by decide +kernel
theorem d_K_overwrite_5 : decode prog_2_method_8_code 5 = .ok (.if_icmp .ne 15, 3) := by decide +kernel
theorem d_K_overwrite_8 : decode prog_2_method_8_code 8 = .ok (.aload_n 0, 1) := by decide +kernel
theorem d_K_overwrite_9 : decode prog_2_method_8_code 9 = .ok (.getfield 36, 3) := by decide +kernel
theorem d_K_overwrite_12 : decode prog_2_method_8_code 12 = .ok (.aload_n 0, 1) := by decide +kernel
theorem d_K_overwrite_13 : decode prog_2_method_8_code 13 = .ok (.getfield 33, 3) := by decide +kernel
theorem d_K_overwrite_16 : decode prog_2_method_8_code 16 = .ok (.arraylength, 1) := by decide +kernel
theorem d_K_overwrite_17 : decode prog_2_method_8_code 17 = .ok (.if_icmp .lt 5, 3) := by decide +kernel
theorem d_K_overwrite_20 : decode prog_2_method_8_code 20 = .ok (.iconst (-1), 1) := by decide +kernel
theorem d_K_overwrite_21 : decode prog_2_method_8_code 21 = .ok (.ireturn, 1) := by decide +kernel
theorem d_K_overwrite_22 : decode prog_2_method_8_code 22 = .ok (.iconst 0, 1) := by decide +kernel
theorem d_K_overwrite_23 : decode prog_2_method_8_code 23 = .ok (.istore_n 2, 1) := by decide +kernel
theorem d_K_overwrite_24 : decode prog_2_method_8_code 24 = .ok (.iload_n 2, 1) := by decide +kernel
theorem d_K_overwrite_25 : decode prog_2_method_8_code 25 = .ok (.aload_n 0, 1) := by decide +kernel
theorem d_K_overwrite_26 : decode prog_2_method_8_code 26 = .ok (.getfield 19, 3) := by decide +kernel
theorem d_K_overwrite_29 : decode prog_2_method_8_code 29 = .ok (.arraylength, 1) := by decide +kernel
theorem d_K_overwrite_30 : decode prog_2_method_8_code 30 = .ok (.if_icmp .ge 47, 3) := by decide +kernel
theorem d_K_overwrite_33 : decode prog_2_method_8_code 33 = .ok (.aload_n 0, 1) := by decide +kernel
theorem d_K_overwrite_34 : decode prog_2_method_8_code 34 = .ok (.getfield 23, 3) := by decide +kernel
theorem d_K_overwrite_37 : decode prog_2_method_8_code 37 = .ok (.iload_n 2, 1) := by decide +kernel
theorem d_K_overwrite_38 : decode prog_2_method_8_code 38 = .ok (.iload_n 1, 1) := by decide +kernel
theorem d_K_overwrite_39 : decode prog_2_method_8_code 39 = .ok (.iload_n 2, 1) := by decide +kernel
theorem d_K_overwrite_40 : decode prog_2_method_8_code 40 = .ok (.aload_n 0, 1) := by decide +kernel
theorem d_K_overwrite_41 : decode prog_2_method_8_code 41 = .ok (.getfield 19, 3) := by decide +kernel
theorem d_K_overwrite_44 : decode prog_2_method_8_code 44 = .ok (.iload_n 2, 1) := by decide +kernel
theorem d_K_overwrite_45 : decode prog_2_method_8_code 45 = .ok (.iaload, 1) := by decide +kernel
theorem d_K_overwrite_46 : decode prog_2_method_8_code 46 = .ok (.invokestatic 58, 3) := by decide +kernel
theorem d_K_overwrite_49 : decode prog_2_method_8_code 49 = .ok (.iastore, 1) := by decide +kernel
theorem d_K_overwrite_50 : decode prog_2_method_8_code 50 = .ok (.aload_n 0, 1) := by decide +kernel
theorem d_K_overwrite_51 : decode prog_2_method_8_code 51 = .ok (.getfield 26, 3) := by decide +kernel
theorem d_K_overwrite_54 : decode prog_2_method_8_code 54 = .ok (.iload_n 2, 1) := by decide +kernel
theorem d_K_overwrite_55 : decode prog_2_method_8_code 55 = .ok (.baload, 1) := by decide +kernel
theorem d_K_overwrite_56 : decode prog_2_method_8_code 56 = .ok (.ifCond .ne 15, 3) := by decide +kernel
theorem d_K_overwrite_59 : decode prog_2_method_8_code 59 = .ok (.aload_n 0, 1) := by decide +kernel
theorem d_K_overwrite_60 : decode prog_2_method_8_code 60 = .ok (.getfield 19, 3) := by decide +kernel
theorem d_K_overwrite_63 : decode prog_2_method_8_code 63 = .ok (.iload_n 2, 1) := by decide +kernel
theorem d_K_overwrite_64 : decode prog_2_method_8_code 64 = .ok (.aload_n 0, 1) := by decide +kernel
theorem d_K_overwrite_65 : decode prog_2_method_8_code 65 = .ok (.getfield 23, 3) := by decide +kernel
theorem d_K_overwrite_68 : decode prog_2_method_8_code 68 = .ok (.iload_n 2, 1) := by decide +kernel
theorem d_K_overwrite_69 : decode prog_2_method_8_code 69 = .ok (.iaload, 1) := by decide +kernel
theorem d_K_overwrite_70 : decode prog_2_method_8_code 70 = .ok (.iastore, 1) := by decide +kernel
theorem d_K_overwrite_71 : decode prog_2_method_8_code 71 = .ok (.iinc 2 1, 3) := by decide +kernel
theorem d_K_overwrite_74 : decode prog_2_method_8_code 74 = .ok (.goto (-50), 3) := by decide +kernel
theorem d_K_overwrite_77 : decode prog_2_method_8_code 77 = .ok (.aload_n 0, 1) := by decide +kernel
theorem d_K_overwrite_78 : decode prog_2_method_8_code 78 = .ok (.invokevirtual 55, 3) := by decide +kernel
theorem d_K_overwrite_81 : decode prog_2_method_8_code 81 = .ok (.aload_n 0, 1) := by decide +kernel
theorem d_K_overwrite_82 : decode prog_2_method_8_code 82 = .ok (.getfield 33, 3) := by decide +kernel
theorem d_K_overwrite_85 : decode prog_2_method_8_code 85 = .ok (.aload_n 0, 1) := by decide +kernel
theorem d_K_overwrite_86 : decode prog_2_method_8_code 86 = .ok (.getfield 36, 3) := by decide +kernel
theorem d_K_overwrite_89 : decode prog_2_method_8_code 89 = .ok (.iload_n 1, 1) := by decide +kernel
theorem d_K_overwrite_90 : decode prog_2_method_8_code 90 = .ok (.iastore, 1) := by decide +kernel
theorem d_K_overwrite_91 : decode prog_2_method_8_code 91 = .ok (.aload_n 0, 1) := by decide +kernel
theorem d_K_overwrite_92 : decode prog_2_method_8_code 92 = .ok (.dup, 1) := by decide +kernel
theorem d_K_overwrite_93 : decode prog_2_method_8_code 93 = .ok (.getfield 36, 3) := by decide +kernel
theorem d_K_overwrite_96 : decode prog_2_method_8_code 96 = .ok (.iconst 1, 1) := by decide +kernel
theorem d_K_overwrite_97 : decode prog_2_method_8_code 97 = .ok (.iadd, 1) := by decide +kernel
theorem d_K_overwrite_98 : decode prog_2_method_8_code 98 = .ok (.putfield 36, 3) := by decide +kernel
theorem d_K_overwrite_101 : decode prog_2_method_8_code 101 = .ok (.aload_n 0, 1) := by decide +kernel
theorem d_K_overwrite_102 : decode prog_2_method_8_code 102 = .ok (.getfield 36, 3) := by decide +kernel
theorem d_K_overwrite_105 : decode prog_2_method_8_code 105 = .ok (.ireturn, 1) := by decide +kernel
theorem d_C_patternByte_0 : decode prog_1_method_33_code 0 = .ok (.iload_n 0, 1) := by decide +kernel
theorem d_C_patternByte_1 : decode prog_1_method_33_code 1 = .ok (.sipush 256, 3) := by decide +kernel
theorem d_C_patternByte_4 : decode prog_1_method_33_code 4 = .ok (.if_icmp .ne 14, 3) := by decide +kernel
theorem d_C_patternByte_7 : decode prog_1_method_33_code 7 = .ok (.bipush 7, 2) := by decide +kernel
theorem d_C_patternByte_9 : decode prog_1_method_33_code 9 = .ok (.iload_n 1, 1) := by decide +kernel
theorem d_C_patternByte_10 : decode prog_1_method_33_code 10 = .ok (.imul, 1) := by decide +kernel
theorem d_C_patternByte_11 : decode prog_1_method_33_code 11 = .ok (.iconst 3, 1) := by decide +kernel
theorem d_C_patternByte_12 : decode prog_1_method_33_code 12 = .ok (.iadd, 1) := by decide +kernel
theorem d_C_patternByte_13 : decode prog_1_method_33_code 13 = .ok (.sipush 255, 3) := by decide +kernel
theorem d_C_patternByte_16 : decode prog_1_method_33_code 16 = .ok (.iand, 1) := by decide +kernel
theorem d_C_patternByte_17 : decode prog_1_method_33_code 17 = .ok (.ireturn, 1) := by decide +kernel
theorem d_C_patternByte_18 : decode prog_1_method_33_code 18 = .ok (.iload_n 0, 1) := by decide +kernel
theorem d_C_patternByte_19 : decode prog_1_method_33_code 19 = .ok (.sipush 257, 3) := by decide +kernel
theorem d_C_patternByte_22 : decode prog_1_method_33_code 22 = .ok (.if_icmp .ne 9, 3) := by decide +kernel
theorem d_C_patternByte_25 : decode prog_1_method_33_code 25 = .ok (.iload_n 2, 1) := by decide +kernel
theorem d_C_patternByte_26 : decode prog_1_method_33_code 26 = .ok (.sipush 255, 3) := by decide +kernel
theorem d_C_patternByte_29 : decode prog_1_method_33_code 29 = .ok (.ixor, 1) := by decide +kernel
theorem d_C_patternByte_30 : decode prog_1_method_33_code 30 = .ok (.ireturn, 1) := by decide +kernel
theorem d_C_patternByte_31 : decode prog_1_method_33_code 31 = .ok (.iload_n 0, 1) := by decide +kernel
theorem d_C_patternByte_32 : decode prog_1_method_33_code 32 = .ok (.ireturn, 1) := by decide +kernel
theorem d_C_byteAt_0 : decode prog_1_method_9_code 0 = .ok (.aload_n 0, 1) := by decide +kernel
theorem d_C_byteAt_1 : decode prog_1_method_9_code 1 = .ok (.iload_n 1, 1) := by decide +kernel
theorem d_C_byteAt_2 : decode prog_1_method_9_code 2 = .ok (.invokevirtual 56, 3) := by decide +kernel
theorem d_C_byteAt_5 : decode prog_1_method_9_code 5 = .ok (.astore_n 3, 1) := by decide +kernel
theorem d_C_byteAt_6 : decode prog_1_method_9_code 6 = .ok (.aload_n 3, 1) := by decide +kernel
theorem d_C_byteAt_7 : decode prog_1_method_9_code 7 = .ok (.ifnull 18, 3) := by decide +kernel
theorem d_C_byteAt_10 : decode prog_1_method_9_code 10 = .ok (.aload_n 3, 1) := by decide +kernel
theorem d_C_byteAt_11 : decode prog_1_method_9_code 11 = .ok (.invokevirtual 81, 3) := by decide +kernel
theorem d_C_byteAt_14 : decode prog_1_method_9_code 14 = .ok (.ifCond .ne 11, 3) := by decide +kernel
theorem d_C_byteAt_17 : decode prog_1_method_9_code 17 = .ok (.aload_n 3, 1) := by decide +kernel
theorem d_C_byteAt_18 : decode prog_1_method_9_code 18 = .ok (.iload_n 2, 1) := by decide +kernel
theorem d_C_byteAt_19 : decode prog_1_method_9_code 19 = .ok (.invokevirtual 94, 3) := by decide +kernel
theorem d_C_byteAt_22 : decode prog_1_method_9_code 22 = .ok (.ifCond .ne 5, 3) := by decide +kernel
theorem d_C_byteAt_25 : decode prog_1_method_9_code 25 = .ok (.iconst (-1), 1) := by decide +kernel
theorem d_C_byteAt_26 : decode prog_1_method_9_code 26 = .ok (.ireturn, 1) := by decide +kernel
theorem d_C_byteAt_27 : decode prog_1_method_9_code 27 = .ok (.aload_n 3, 1) := by decide +kernel
theorem d_C_byteAt_28 : decode prog_1_method_9_code 28 = .ok (.getfield 97, 3) := by decide +kernel
theorem d_C_byteAt_31 : decode prog_1_method_9_code 31 = .ok (.iload_n 2, 1) := by decide +kernel
theorem d_C_byteAt_32 : decode prog_1_method_9_code 32 = .ok (.iaload, 1) := by decide +kernel
theorem d_C_byteAt_33 : decode prog_1_method_9_code 33 = .ok (.ireturn, 1) := by decide +kernel
theorem d_C_read_0 : decode prog_1_method_10_code 0 = .ok (.aload_n 0, 1) := by decide +kernel
theorem d_C_read_1 : decode prog_1_method_10_code 1 = .ok (.iload_n 1, 1) := by decide +kernel
theorem d_C_read_2 : decode prog_1_method_10_code 2 = .ok (.invokevirtual 56, 3) := by decide +kernel
theorem d_C_read_5 : decode prog_1_method_10_code 5 = .ok (.astore 4, 2) := by decide +kernel
theorem d_C_read_7 : decode prog_1_method_10_code 7 = .ok (.aload 4, 2) := by decide +kernel
theorem d_C_read_9 : decode prog_1_method_10_code 9 = .ok (.ifnull 14, 3) := by decide +kernel
theorem d_C_read_12 : decode prog_1_method_10_code 12 = .ok (.iload_n 3, 1) := by decide +kernel
theorem d_C_read_13 : decode prog_1_method_10_code 13 = .ok (.iconst 0, 1) := by decide +kernel
theorem d_C_read_14 : decode prog_1_method_10_code 14 = .ok (.sipush 255, 3) := by decide +kernel
theorem d_C_read_17 : decode prog_1_method_10_code 17 = .ok (.invokestatic 42, 3) := by decide +kernel
theorem d_C_read_20 : decode prog_1_method_10_code 20 = .ok (.ifCond .ne 5, 3) := by decide +kernel
theorem d_C_read_23 : decode prog_1_method_10_code 23 = .ok (.iconst (-1), 1) := by decide +kernel
theorem d_C_read_24 : decode prog_1_method_10_code 24 = .ok (.ireturn, 1) := by decide +kernel
theorem d_C_read_25 : decode prog_1_method_10_code 25 = .ok (.aload 4, 2) := by decide +kernel
theorem d_C_read_27 : decode prog_1_method_10_code 27 = .ok (.iload_n 2, 1) := by decide +kernel
theorem d_C_read_28 : decode prog_1_method_10_code 28 = .ok (.iload_n 3, 1) := by decide +kernel
theorem d_C_read_29 : decode prog_1_method_10_code 29 = .ok (.invokevirtual 100, 3) := by decide +kernel
theorem d_C_read_32 : decode prog_1_method_10_code 32 = .ok (.ireturn, 1) := by decide +kernel
theorem d_K_takeReading_0 : decode prog_2_method_9_code 0 = .ok (.aload_n 0, 1) := by decide +kernel
theorem d_K_takeReading_1 : decode prog_2_method_9_code 1 = .ok (.getfield 45, 3) := by decide +kernel
theorem d_K_takeReading_4 : decode prog_2_method_9_code 4 = .ok (.iconst 2, 1) := by decide +kernel
theorem d_K_takeReading_5 : decode prog_2_method_9_code 5 = .ok (.if_icmp .ne 27, 3) := by decide +kernel
theorem d_K_takeReading_8 : decode prog_2_method_9_code 8 = .ok (.aload_n 0, 1) := by decide +kernel
theorem d_K_takeReading_9 : decode prog_2_method_9_code 9 = .ok (.getfield 36, 3) := by decide +kernel
theorem d_K_takeReading_12 : decode prog_2_method_9_code 12 = .ok (.ifCond .eq 20, 3) := by decide +kernel
theorem d_K_takeReading_15 : decode prog_2_method_9_code 15 = .ok (.aload_n 0, 1) := by decide +kernel
theorem d_K_takeReading_16 : decode prog_2_method_9_code 16 = .ok (.iload_n 1, 1) := by decide +kernel
theorem d_K_takeReading_17 : decode prog_2_method_9_code 17 = .ok (.invokevirtual 51, 3) := by decide +kernel
theorem d_K_takeReading_20 : decode prog_2_method_9_code 20 = .ok (.ifCond .eq 12, 3) := by decide +kernel
theorem d_K_takeReading_23 : decode prog_2_method_9_code 23 = .ok (.aload_n 0, 1) := by decide +kernel
theorem d_K_takeReading_24 : decode prog_2_method_9_code 24 = .ok (.getfield 30, 3) := by decide +kernel
theorem d_K_takeReading_27 : decode prog_2_method_9_code 27 = .ok (.iload_n 1, 1) := by decide +kernel
theorem d_K_takeReading_28 : decode prog_2_method_9_code 28 = .ok (.baload, 1) := by decide +kernel
theorem d_K_takeReading_29 : decode prog_2_method_9_code 29 = .ok (.ifCond .eq 5, 3) := by decide +kernel
theorem d_K_takeReading_32 : decode prog_2_method_9_code 32 = .ok (.iconst (-1), 1) := by decide +kernel
theorem d_K_takeReading_33 : decode prog_2_method_9_code 33 = .ok (.ireturn, 1) := by decide +kernel
theorem d_K_takeReading_34 : decode prog_2_method_9_code 34 = .ok (.aload_n 0, 1) := by decide +kernel
theorem d_K_takeReading_35 : decode prog_2_method_9_code 35 = .ok (.getfield 30, 3) := by decide +kernel
theorem d_K_takeReading_38 : decode prog_2_method_9_code 38 = .ok (.iload_n 1, 1) := by decide +kernel
theorem d_K_takeReading_39 : decode prog_2_method_9_code 39 = .ok (.iconst 1, 1) := by decide +kernel
theorem d_K_takeReading_40 : decode prog_2_method_9_code 40 = .ok (.bastore, 1) := by decide +kernel
theorem d_K_takeReading_41 : decode prog_2_method_9_code 41 = .ok (.aload_n 0, 1) := by decide +kernel
theorem d_K_takeReading_42 : decode prog_2_method_9_code 42 = .ok (.dup, 1) := by decide +kernel
theorem d_K_takeReading_43 : decode prog_2_method_9_code 43 = .ok (.getfield 39, 3) := by decide +kernel
theorem d_K_takeReading_46 : decode prog_2_method_9_code 46 = .ok (.iconst 1, 1) := by decide +kernel
theorem d_K_takeReading_47 : decode prog_2_method_9_code 47 = .ok (.iadd, 1) := by decide +kernel
theorem d_K_takeReading_48 : decode prog_2_method_9_code 48 = .ok (.putfield 39, 3) := by decide +kernel
theorem d_K_takeReading_51 : decode prog_2_method_9_code 51 = .ok (.iload_n 2, 1) := by decide +kernel
theorem d_K_takeReading_52 : decode prog_2_method_9_code 52 = .ok (.aload_n 0, 1) := by decide +kernel
theorem d_K_takeReading_53 : decode prog_2_method_9_code 53 = .ok (.getfield 23, 3) := by decide +kernel
theorem d_K_takeReading_56 : decode prog_2_method_9_code 56 = .ok (.iload_n 1, 1) := by decide +kernel
theorem d_K_takeReading_57 : decode prog_2_method_9_code 57 = .ok (.iaload, 1) := by decide +kernel
theorem d_K_takeReading_58 : decode prog_2_method_9_code 58 = .ok (.if_icmp .ne 7, 3) := by decide +kernel
theorem d_K_takeReading_61 : decode prog_2_method_9_code 61 = .ok (.iconst 1, 1) := by decide +kernel
theorem d_K_takeReading_62 : decode prog_2_method_9_code 62 = .ok (.goto 4, 3) := by decide +kernel
theorem d_K_takeReading_65 : decode prog_2_method_9_code 65 = .ok (.iconst 0, 1) := by decide +kernel
theorem d_K_takeReading_66 : decode prog_2_method_9_code 66 = .ok (.istore_n 3, 1) := by decide +kernel
theorem d_K_takeReading_67 : decode prog_2_method_9_code 67 = .ok (.iload_n 3, 1) := by decide +kernel
theorem d_K_takeReading_68 : decode prog_2_method_9_code 68 = .ok (.ifCond .ne 13, 3) := by decide +kernel
theorem d_K_takeReading_71 : decode prog_2_method_9_code 71 = .ok (.aload_n 0, 1) := by decide +kernel
theorem d_K_takeReading_72 : decode prog_2_method_9_code 72 = .ok (.dup, 1) := by decide +kernel
theorem d_K_takeReading_73 : decode prog_2_method_9_code 73 = .ok (.getfield 42, 3) := by decide +kernel
theorem d_K_takeReading_76 : decode prog_2_method_9_code 76 = .ok (.iconst 1, 1) := by decide +kernel
theorem d_K_takeReading_77 : decode prog_2_method_9_code 77 = .ok (.iadd, 1) := by decide +kernel
theorem d_K_takeReading_78 : decode prog_2_method_9_code 78 = .ok (.putfield 42, 3) := by decide +kernel
theorem d_K_takeReading_81 : decode prog_2_method_9_code 81 = .ok (.aload_n 0, 1) := by decide +kernel
theorem d_K_takeReading_82 : decode prog_2_method_9_code 82 = .ok (.getfield 39, 3) := by decide +kernel
theorem d_K_takeReading_85 : decode prog_2_method_9_code 85 = .ok (.aload_n 0, 1) := by decide +kernel
theorem d_K_takeReading_86 : decode prog_2_method_9_code 86 = .ok (.getfield 19, 3) := by decide +kernel
theorem d_K_takeReading_89 : decode prog_2_method_9_code 89 = .ok (.arraylength, 1) := by decide +kernel
theorem d_K_takeReading_90 : decode prog_2_method_9_code 90 = .ok (.if_icmp .ne 15, 3) := by decide +kernel
theorem d_K_takeReading_93 : decode prog_2_method_9_code 93 = .ok (.aload_n 0, 1) := by decide +kernel
theorem d_K_takeReading_94 : decode prog_2_method_9_code 94 = .ok (.getfield 42, 3) := by decide +kernel
theorem d_K_takeReading_97 : decode prog_2_method_9_code 97 = .ok (.ifCond .ne 8, 3) := by decide +kernel
theorem d_K_takeReading_100 : decode prog_2_method_9_code 100 = .ok (.aload_n 0, 1) := by decide +kernel
theorem d_K_takeReading_101 : decode prog_2_method_9_code 101 = .ok (.iconst 3, 1) := by decide +kernel
theorem d_K_takeReading_102 : decode prog_2_method_9_code 102 = .ok (.putfield 45, 3) := by decide +kernel
theorem d_K_takeReading_105 : decode prog_2_method_9_code 105 = .ok (.iload_n 3, 1) := by decide +kernel
theorem d_K_takeReading_106 : decode prog_2_method_9_code 106 = .ok (.ifCond .eq 7, 3) := by decide +kernel
theorem d_K_takeReading_109 : decode prog_2_method_9_code 109 = .ok (.iconst 1, 1) := by decide +kernel
theorem d_K_takeReading_110 : decode prog_2_method_9_code 110 = .ok (.goto 4, 3) := by decide +kernel
theorem d_K_takeReading_113 : decode prog_2_method_9_code 113 = .ok (.iconst 0, 1) := by decide +kernel
theorem d_K_takeReading_114 : decode prog_2_method_9_code 114 = .ok (.ireturn, 1) := by decide +kernel
theorem d_C_unlike_0 : decode prog_1_method_11_code 0 = .ok (.aload_n 0, 1) := by decide +kernel
theorem d_C_unlike_1 : decode prog_1_method_11_code 1 = .ok (.iload_n 1, 1) := by decide +kernel
theorem d_C_unlike_2 : decode prog_1_method_11_code 2 = .ok (.invokevirtual 56, 3) := by decide +kernel
theorem d_C_unlike_5 : decode prog_1_method_11_code 5 = .ok (.astore_n 2, 1) := by decide +kernel
theorem d_C_unlike_6 : decode prog_1_method_11_code 6 = .ok (.aload_n 2, 1) := by decide +kernel
theorem d_C_unlike_7 : decode prog_1_method_11_code 7 = .ok (.ifnonnull 7, 3) := by decide +kernel
theorem d_C_unlike_10 : decode prog_1_method_11_code 10 = .ok (.iconst (-1), 1) := by decide +kernel
theorem d_C_unlike_11 : decode prog_1_method_11_code 11 = .ok (.goto 7, 3) := by decide +kernel
theorem d_C_unlike_14 : decode prog_1_method_11_code 14 = .ok (.aload_n 2, 1) := by decide +kernel
theorem d_C_unlike_15 : decode prog_1_method_11_code 15 = .ok (.getfield 104, 3) := by decide +kernel
theorem d_C_unlike_18 : decode prog_1_method_11_code 18 = .ok (.ireturn, 1) := by decide +kernel
theorem d_C_odds_0 : decode prog_1_method_12_code 0 = .ok (.iload_n 1, 1) := by decide +kernel
theorem d_C_odds_1 : decode prog_1_method_12_code 1 = .ok (.iconst 1, 1) := by decide +kernel
theorem d_C_odds_2 : decode prog_1_method_12_code 2 = .ok (.bipush 40, 2) := by decide +kernel
theorem d_C_odds_4 : decode prog_1_method_12_code 4 = .ok (.invokestatic 42, 3) := by decide +kernel
theorem d_C_odds_7 : decode prog_1_method_12_code 7 = .ok (.ifCond .eq 13, 3) := by decide +kernel
theorem d_C_odds_10 : decode prog_1_method_12_code 10 = .ok (.iload 4, 2) := by decide +kernel
theorem d_C_odds_12 : decode prog_1_method_12_code 12 = .ok (.iconst 0, 1) := by decide +kernel
theorem d_C_odds_13 : decode prog_1_method_12_code 13 = .ok (.iconst 1, 1) := by decide +kernel
theorem d_C_odds_14 : decode prog_1_method_12_code 14 = .ok (.invokestatic 42, 3) := by decide +kernel
theorem d_C_odds_17 : decode prog_1_method_12_code 17 = .ok (.ifCond .ne 7, 3) := by decide +kernel
theorem d_C_odds_20 : decode prog_1_method_12_code 20 = .ok (.ldc2_w 107, 3) := by decide +kernel
theorem d_C_odds_23 : decode prog_1_method_12_code 23 = .ok (.lreturn, 1) := by decide +kernel
theorem d_C_odds_24 : decode prog_1_method_12_code 24 = .ok (.iload_n 2, 1) := by decide +kernel
theorem d_C_odds_25 : decode prog_1_method_12_code 25 = .ok (.iconst 0, 1) := by decide +kernel
theorem d_C_odds_26 : decode prog_1_method_12_code 26 = .ok (.iload_n 1, 1) := by decide +kernel
theorem d_C_odds_27 : decode prog_1_method_12_code 27 = .ok (.invokestatic 42, 3) := by decide +kernel
theorem d_C_odds_30 : decode prog_1_method_12_code 30 = .ok (.ifCond .eq 12, 3) := by decide +kernel
theorem d_C_odds_33 : decode prog_1_method_12_code 33 = .ok (.iload_n 3, 1) := by decide +kernel
theorem d_C_odds_34 : decode prog_1_method_12_code 34 = .ok (.iconst 0, 1) := by decide +kernel
theorem d_C_odds_35 : decode prog_1_method_12_code 35 = .ok (.iload_n 1, 1) := by decide +kernel
theorem d_C_odds_36 : decode prog_1_method_12_code 36 = .ok (.invokestatic 42, 3) := by decide +kernel
theorem d_C_odds_39 : decode prog_1_method_12_code 39 = .ok (.ifCond .ne 7, 3) := by decide +kernel
theorem d_C_odds_42 : decode prog_1_method_12_code 42 = .ok (.ldc2_w 107, 3) := by decide +kernel
theorem d_C_odds_45 : decode prog_1_method_12_code 45 = .ok (.lreturn, 1) := by decide +kernel
theorem d_C_odds_46 : decode prog_1_method_12_code 46 = .ok (.iload_n 1, 1) := by decide +kernel
theorem d_C_odds_47 : decode prog_1_method_12_code 47 = .ok (.iload_n 3, 1) := by decide +kernel
theorem d_C_odds_48 : decode prog_1_method_12_code 48 = .ok (.isub, 1) := by decide +kernel
theorem d_C_odds_49 : decode prog_1_method_12_code 49 = .ok (.iload_n 2, 1) := by decide +kernel
theorem d_C_odds_50 : decode prog_1_method_12_code 50 = .ok (.invokestatic 109, 3) := by decide +kernel
theorem d_C_odds_53 : decode prog_1_method_12_code 53 = .ok (.lstore 5, 2) := by decide +kernel
theorem d_C_odds_55 : decode prog_1_method_12_code 55 = .ok (.iload_n 1, 1) := by decide +kernel
theorem d_C_odds_56 : decode prog_1_method_12_code 56 = .ok (.iload_n 2, 1) := by decide +kernel
theorem d_C_odds_57 : decode prog_1_method_12_code 57 = .ok (.invokestatic 109, 3) := by decide +kernel
theorem d_C_odds_60 : decode prog_1_method_12_code 60 = .ok (.lstore 7, 2) := by decide +kernel
theorem d_C_odds_62 : decode prog_1_method_12_code 62 = .ok (.lload 5, 2) := by decide +kernel
theorem d_C_odds_64 : decode prog_1_method_12_code 64 = .ok (.lload 7, 2) := by decide +kernel
theorem d_C_odds_66 : decode prog_1_method_12_code 66 = .ok (.invokestatic 113, 3) := by decide +kernel
theorem d_C_odds_69 : decode prog_1_method_12_code 69 = .ok (.lstore 9, 2) := by decide +kernel
theorem d_C_odds_71 : decode prog_1_method_12_code 71 = .ok (.iload 4, 2) := by decide +kernel
theorem d_C_odds_73 : decode prog_1_method_12_code 73 = .ok (.ifCond .ne 8, 3) := by decide +kernel
theorem d_C_odds_76 : decode prog_1_method_12_code 76 = .ok (.lload 5, 2) := by decide +kernel
theorem d_C_odds_78 : decode prog_1_method_12_code 78 = .ok (.goto 5, 3) := by decide +kernel
theorem d_C_odds_81 : decode prog_1_method_12_code 81 = .ok (.lload 7, 2) := by decide +kernel
theorem d_C_odds_83 : decode prog_1_method_12_code 83 = .ok (.lload 9, 2) := by decide +kernel
theorem d_C_odds_85 : decode prog_1_method_12_code 85 = .ok (.ldiv, 1) := by decide +kernel
theorem d_C_odds_86 : decode prog_1_method_12_code 86 = .ok (.lreturn, 1) := by decide +kernel
theorem d_C_waysToChoose_0 : decode prog_1_method_34_code 0 = .ok (.lconst 1, 1) := by decide +kernel
theorem d_C_waysToChoose_1 : decode prog_1_method_34_code 1 = .ok (.lstore_n 2, 1) := by decide +kernel
theorem d_C_waysToChoose_2 : decode prog_1_method_34_code 2 = .ok (.iconst 0, 1) := by decide +kernel
theorem d_C_waysToChoose_3 : decode prog_1_method_34_code 3 = .ok (.istore 4, 2) := by decide +kernel
theorem d_C_waysToChoose_5 : decode prog_1_method_34_code 5 = .ok (.iload 4, 2) := by decide +kernel
theorem d_C_waysToChoose_7 : decode prog_1_method_34_code 7 = .ok (.iload_n 1, 1) := by decide +kernel
theorem d_C_waysToChoose_8 : decode prog_1_method_34_code 8 = .ok (.if_icmp .ge 23, 3) := by decide +kernel
theorem d_C_waysToChoose_11 : decode prog_1_method_34_code 11 = .ok (.lload_n 2, 1) := by decide +kernel
theorem d_C_waysToChoose_12 : decode prog_1_method_34_code 12 = .ok (.iload_n 0, 1) := by decide +kernel
theorem d_C_waysToChoose_13 : decode prog_1_method_34_code 13 = .ok (.iload 4, 2) := by decide +kernel
theorem d_C_waysToChoose_15 : decode prog_1_method_34_code 15 = .ok (.isub, 1) := by decide +kernel
theorem d_C_waysToChoose_16 : decode prog_1_method_34_code 16 = .ok (.i2l, 1) := by decide +kernel
theorem d_C_waysToChoose_17 : decode prog_1_method_34_code 17 = .ok (.lmul, 1) := by decide +kernel
theorem d_C_waysToChoose_18 : decode prog_1_method_34_code 18 = .ok (.iload 4, 2) := by decide +kernel
theorem d_C_waysToChoose_20 : decode prog_1_method_34_code 20 = .ok (.iconst 1, 1) := by decide +kernel
theorem d_C_waysToChoose_21 : decode prog_1_method_34_code 21 = .ok (.iadd, 1) := by decide +kernel
theorem d_C_waysToChoose_22 : decode prog_1_method_34_code 22 = .ok (.i2l, 1) := by decide +kernel
theorem d_C_waysToChoose_23 : decode prog_1_method_34_code 23 = .ok (.ldiv, 1) := by decide +kernel
theorem d_C_waysToChoose_24 : decode prog_1_method_34_code 24 = .ok (.lstore_n 2, 1) := by decide +kernel
theorem d_C_waysToChoose_25 : decode prog_1_method_34_code 25 = .ok (.iinc 4 1, 3) := by decide +kernel
theorem d_C_waysToChoose_28 : decode prog_1_method_34_code 28 = .ok (.goto (-23), 3) := by decide +kernel
theorem d_C_waysToChoose_31 : decode prog_1_method_34_code 31 = .ok (.lload_n 2, 1) := by decide +kernel
theorem d_C_waysToChoose_32 : decode prog_1_method_34_code 32 = .ok (.lreturn, 1) := by decide +kernel
theorem d_C_commonDivisor_0 : decode prog_1_method_35_code 0 = .ok (.lload_n 0, 1) := by decide +kernel
theorem d_C_commonDivisor_1 : decode prog_1_method_35_code 1 = .ok (.lstore 4, 2) := by decide +kernel
theorem d_C_commonDivisor_3 : decode prog_1_method_35_code 3 = .ok (.lload_n 2, 1) := by decide +kernel
theorem d_C_commonDivisor_4 : decode prog_1_method_35_code 4 = .ok (.lstore 6, 2) := by decide +kernel
theorem d_C_commonDivisor_6 : decode prog_1_method_35_code 6 = .ok (.iconst 0, 1) := by decide +kernel
theorem d_C_commonDivisor_7 : decode prog_1_method_35_code 7 = .ok (.istore 8, 2) := by decide +kernel
theorem d_C_commonDivisor_9 : decode prog_1_method_35_code 9 = .ok (.iload 8, 2) := by decide +kernel
theorem d_C_commonDivisor_11 : decode prog_1_method_35_code 11 = .ok (.bipush 100, 2) := by decide +kernel
theorem d_C_commonDivisor_13 : decode prog_1_method_35_code 13 = .ok (.if_icmp .ge 31, 3) := by decide +kernel
theorem d_C_commonDivisor_16 : decode prog_1_method_35_code 16 = .ok (.lload 6, 2) := by decide +kernel
theorem d_C_commonDivisor_18 : decode prog_1_method_35_code 18 = .ok (.lconst 0, 1) := by decide +kernel
theorem d_C_commonDivisor_19 : decode prog_1_method_35_code 19 = .ok (.lcmp, 1) := by decide +kernel
theorem d_C_commonDivisor_20 : decode prog_1_method_35_code 20 = .ok (.ifCond .eq 24, 3) := by decide +kernel
theorem d_C_commonDivisor_23 : decode prog_1_method_35_code 23 = .ok (.lload 4, 2) := by decide +kernel
theorem d_C_commonDivisor_25 : decode prog_1_method_35_code 25 = .ok (.lload 6, 2) := by decide +kernel
theorem d_C_commonDivisor_27 : decode prog_1_method_35_code 27 = .ok (.lrem, 1) := by decide +kernel
theorem d_C_commonDivisor_28 : decode prog_1_method_35_code 28 = .ok (.lstore 9, 2) := by decide +kernel
theorem d_C_commonDivisor_30 : decode prog_1_method_35_code 30 = .ok (.lload 6, 2) := by decide +kernel
theorem d_C_commonDivisor_32 : decode prog_1_method_35_code 32 = .ok (.lstore 4, 2) := by decide +kernel
theorem d_C_commonDivisor_34 : decode prog_1_method_35_code 34 = .ok (.lload 9, 2) := by decide +kernel
theorem d_C_commonDivisor_36 : decode prog_1_method_35_code 36 = .ok (.lstore 6, 2) := by decide +kernel
theorem d_C_commonDivisor_38 : decode prog_1_method_35_code 38 = .ok (.iinc 8 1, 3) := by decide +kernel
theorem d_C_commonDivisor_41 : decode prog_1_method_35_code 41 = .ok (.goto (-32), 3) := by decide +kernel
theorem d_C_commonDivisor_44 : decode prog_1_method_35_code 44 = .ok (.lload 4, 2) := by decide +kernel
theorem d_C_commonDivisor_46 : decode prog_1_method_35_code 46 = .ok (.lconst 1, 1) := by decide +kernel
theorem d_C_commonDivisor_47 : decode prog_1_method_35_code 47 = .ok (.invokestatic 150, 3) := by decide +kernel
theorem d_C_commonDivisor_50 : decode prog_1_method_35_code 50 = .ok (.lreturn, 1) := by decide +kernel
theorem d_A_maxL_0 : decode prog_7_method_66_code 0 = .ok (.lload_n 0, 1) := by decide +kernel
theorem d_A_maxL_1 : decode prog_7_method_66_code 1 = .ok (.lload_n 2, 1) := by decide +kernel
theorem d_A_maxL_2 : decode prog_7_method_66_code 2 = .ok (.lcmp, 1) := by decide +kernel
theorem d_A_maxL_3 : decode prog_7_method_66_code 3 = .ok (.ifCond .lt 7, 3) := by decide +kernel
theorem d_A_maxL_6 : decode prog_7_method_66_code 6 = .ok (.lload_n 0, 1) := by decide +kernel
theorem d_A_maxL_7 : decode prog_7_method_66_code 7 = .ok (.goto 4, 3) := by decide +kernel
theorem d_A_maxL_10 : decode prog_7_method_66_code 10 = .ok (.lload_n 2, 1) := by decide +kernel
theorem d_A_maxL_11 : decode prog_7_method_66_code 11 = .ok (.lreturn, 1) := by decide +kernel
theorem d_C_shred_0 : decode prog_1_method_13_code 0 = .ok (.aload_n 0, 1) := by decide +kernel
theorem d_C_shred_1 : decode prog_1_method_13_code 1 = .ok (.iload_n 1, 1) := by decide +kernel
theorem d_C_shred_2 : decode prog_1_method_13_code 2 = .ok (.invokevirtual 56, 3) := by decide +kernel
theorem d_C_shred_5 : decode prog_1_method_13_code 5 = .ok (.astore_n 3, 1) := by decide +kernel
theorem d_C_shred_6 : decode prog_1_method_13_code 6 = .ok (.aload_n 3, 1) := by decide +kernel
theorem d_C_shred_7 : decode prog_1_method_13_code 7 = .ok (.ifnull 13, 3) := by decide +kernel
theorem d_C_shred_10 : decode prog_1_method_13_code 10 = .ok (.iload_n 2, 1) := by decide +kernel
theorem d_C_shred_11 : decode prog_1_method_13_code 11 = .ok (.iconst 1, 1) := by decide +kernel
theorem d_C_shred_12 : decode prog_1_method_13_code 12 = .ok (.bipush 100, 2) := by decide +kernel
theorem d_C_shred_14 : decode prog_1_method_13_code 14 = .ok (.invokestatic 42, 3) := by decide +kernel
theorem d_C_shred_17 : decode prog_1_method_13_code 17 = .ok (.ifCond .ne 5, 3) := by decide +kernel
theorem d_C_shred_20 : decode prog_1_method_13_code 20 = .ok (.iconst 0, 1) := by decide +kernel
theorem d_C_shred_21 : decode prog_1_method_13_code 21 = .ok (.ireturn, 1) := by decide +kernel
theorem d_C_shred_22 : decode prog_1_method_13_code 22 = .ok (.aload_n 3, 1) := by decide +kernel
theorem d_C_shred_23 : decode prog_1_method_13_code 23 = .ok (.getfield 60, 3) := by decide +kernel
theorem d_C_shred_26 : decode prog_1_method_13_code 26 = .ok (.iconst 3, 1) := by decide +kernel
theorem d_C_shred_27 : decode prog_1_method_13_code 27 = .ok (.if_icmp .eq 13, 3) := by decide +kernel
theorem d_C_shred_30 : decode prog_1_method_13_code 30 = .ok (.aload_n 3, 1) := by decide +kernel
theorem d_C_shred_31 : decode prog_1_method_13_code 31 = .ok (.getfield 60, 3) := by decide +kernel
theorem d_C_shred_34 : decode prog_1_method_13_code 34 = .ok (.iconst 4, 1) := by decide +kernel
theorem d_C_shred_35 : decode prog_1_method_13_code 35 = .ok (.if_icmp .eq 5, 3) := by decide +kernel
theorem d_C_shred_38 : decode prog_1_method_13_code 38 = .ok (.iconst 0, 1) := by decide +kernel
theorem d_C_shred_39 : decode prog_1_method_13_code 39 = .ok (.ireturn, 1) := by decide +kernel
theorem d_C_shred_40 : decode prog_1_method_13_code 40 = .ok (.iload_n 2, 1) := by decide +kernel
theorem d_C_shred_41 : decode prog_1_method_13_code 41 = .ok (.iconst 2, 1) := by decide +kernel
theorem d_C_shred_42 : decode prog_1_method_13_code 42 = .ok (.bipush 6, 2) := by decide +kernel
theorem d_C_shred_44 : decode prog_1_method_13_code 44 = .ok (.aload_n 3, 1) := by decide +kernel
theorem d_C_shred_45 : decode prog_1_method_13_code 45 = .ok (.getfield 117, 3) := by decide +kernel
theorem d_C_shred_48 : decode prog_1_method_13_code 48 = .ok (.imul, 1) := by decide +kernel
theorem d_C_shred_49 : decode prog_1_method_13_code 49 = .ok (.iadd, 1) := by decide +kernel
theorem d_C_shred_50 : decode prog_1_method_13_code 50 = .ok (.if_icmp .le 5, 3) := by decide +kernel
theorem d_C_shred_53 : decode prog_1_method_13_code 53 = .ok (.iconst 0, 1) := by decide +kernel
theorem d_C_shred_54 : decode prog_1_method_13_code 54 = .ok (.ireturn, 1) := by decide +kernel
theorem d_C_shred_55 : decode prog_1_method_13_code 55 = .ok (.aload_n 3, 1) := by decide +kernel
theorem d_C_shred_56 : decode prog_1_method_13_code 56 = .ok (.iconst 5, 1) := by decide +kernel
theorem d_C_shred_57 : decode prog_1_method_13_code 57 = .ok (.putfield 60, 3) := by decide +kernel
theorem d_C_shred_60 : decode prog_1_method_13_code 60 = .ok (.iconst 1, 1) := by decide +kernel
theorem d_C_shred_61 : decode prog_1_method_13_code 61 = .ok (.ireturn, 1) := by decide +kernel
theorem d_C_paper_0 : decode prog_1_method_14_code 0 = .ok (.aload_n 0, 1) := by decide +kernel
theorem d_C_paper_1 : decode prog_1_method_14_code 1 = .ok (.iload_n 1, 1) := by decide +kernel
theorem d_C_paper_2 : decode prog_1_method_14_code 2 = .ok (.invokevirtual 56, 3) := by decide +kernel
theorem d_C_paper_5 : decode prog_1_method_14_code 5 = .ok (.astore 4, 2) := by decide +kernel
theorem d_C_paper_7 : decode prog_1_method_14_code 7 = .ok (.aload 4, 2) := by decide +kernel
theorem d_C_paper_9 : decode prog_1_method_14_code 9 = .ok (.ifnull 22, 3) := by decide +kernel
theorem d_C_paper_12 : decode prog_1_method_14_code 12 = .ok (.iload_n 2, 1) := by decide +kernel
theorem d_C_paper_13 : decode prog_1_method_14_code 13 = .ok (.invokestatic 63, 3) := by decide +kernel
theorem d_C_paper_16 : decode prog_1_method_14_code 16 = .ok (.ifCond .eq 15, 3) := by decide +kernel
theorem d_C_paper_19 : decode prog_1_method_14_code 19 = .ok (.iload_n 3, 1) := by decide +kernel
theorem d_C_paper_20 : decode prog_1_method_14_code 20 = .ok (.invokestatic 63, 3) := by decide +kernel
theorem d_C_paper_23 : decode prog_1_method_14_code 23 = .ok (.ifCond .eq 8, 3) := by decide +kernel
theorem d_C_paper_26 : decode prog_1_method_14_code 26 = .ok (.iload_n 2, 1) := by decide +kernel
theorem d_C_paper_27 : decode prog_1_method_14_code 27 = .ok (.iload_n 3, 1) := by decide +kernel
theorem d_C_paper_28 : decode prog_1_method_14_code 28 = .ok (.if_icmp .ne 5, 3) := by decide +kernel
theorem d_C_paper_31 : decode prog_1_method_14_code 31 = .ok (.iconst (-1), 1) := by decide +kernel
theorem d_C_paper_32 : decode prog_1_method_14_code 32 = .ok (.ireturn, 1) := by decide +kernel
theorem d_C_paper_33 : decode prog_1_method_14_code 33 = .ok (.aload 4, 2) := by decide +kernel
theorem d_C_paper_35 : decode prog_1_method_14_code 35 = .ok (.getfield 60, 3) := by decide +kernel
theorem d_C_paper_38 : decode prog_1_method_14_code 38 = .ok (.iconst 3, 1) := by decide +kernel
theorem d_C_paper_39 : decode prog_1_method_14_code 39 = .ok (.if_icmp .eq 14, 3) := by decide +kernel
theorem d_C_paper_42 : decode prog_1_method_14_code 42 = .ok (.aload 4, 2) := by decide +kernel
theorem d_C_paper_44 : decode prog_1_method_14_code 44 = .ok (.getfield 60, 3) := by decide +kernel
theorem d_C_paper_47 : decode prog_1_method_14_code 47 = .ok (.iconst 5, 1) := by decide +kernel
theorem d_C_paper_48 : decode prog_1_method_14_code 48 = .ok (.if_icmp .eq 5, 3) := by decide +kernel
theorem d_C_paper_51 : decode prog_1_method_14_code 51 = .ok (.iconst (-1), 1) := by decide +kernel
theorem d_C_paper_52 : decode prog_1_method_14_code 52 = .ok (.ireturn, 1) := by decide +kernel
theorem d_C_paper_53 : decode prog_1_method_14_code 53 = .ok (.aload_n 0, 1) := by decide +kernel
theorem d_C_paper_54 : decode prog_1_method_14_code 54 = .ok (.getfield 25, 3) := by decide +kernel
theorem d_C_paper_57 : decode prog_1_method_14_code 57 = .ok (.aload_n 0, 1) := by decide +kernel
theorem d_C_paper_58 : decode prog_1_method_14_code 58 = .ok (.getfield 21, 3) := by decide +kernel
theorem d_C_paper_61 : decode prog_1_method_14_code 61 = .ok (.arraylength, 1) := by decide +kernel
theorem d_C_paper_62 : decode prog_1_method_14_code 62 = .ok (.if_icmp .lt 5, 3) := by decide +kernel
theorem d_C_paper_65 : decode prog_1_method_14_code 65 = .ok (.iconst (-1), 1) := by decide +kernel
theorem d_C_paper_66 : decode prog_1_method_14_code 66 = .ok (.ireturn, 1) := by decide +kernel
theorem d_C_paper_67 : decode prog_1_method_14_code 67 = .ok (.aload_n 0, 1) := by decide +kernel
theorem d_C_paper_68 : decode prog_1_method_14_code 68 = .ok (.getfield 21, 3) := by decide +kernel
theorem d_C_paper_71 : decode prog_1_method_14_code 71 = .ok (.aload_n 0, 1) := by decide +kernel
theorem d_C_paper_72 : decode prog_1_method_14_code 72 = .ok (.getfield 25, 3) := by decide +kernel
theorem d_C_paper_75 : decode prog_1_method_14_code 75 = .ok (.new 19, 3) := by decide +kernel
theorem d_C_paper_78 : decode prog_1_method_14_code 78 = .ok (.dup, 1) := by decide +kernel
theorem d_C_paper_79 : decode prog_1_method_14_code 79 = .ok (.iload_n 1, 1) := by decide +kernel
theorem d_C_paper_80 : decode prog_1_method_14_code 80 = .ok (.aload 4, 2) := by decide +kernel
theorem d_C_paper_82 : decode prog_1_method_14_code 82 = .ok (.iload_n 2, 1) := by decide +kernel
theorem d_C_paper_83 : decode prog_1_method_14_code 83 = .ok (.iload_n 3, 1) := by decide +kernel
theorem d_C_paper_84 : decode prog_1_method_14_code 84 = .ok (.invokespecial 120, 3) := by decide +kernel
theorem d_C_paper_87 : decode prog_1_method_14_code 87 = .ok (.aastore, 1) := by decide +kernel
theorem d_C_paper_88 : decode prog_1_method_14_code 88 = .ok (.aload_n 0, 1) := by decide +kernel
theorem d_C_paper_89 : decode prog_1_method_14_code 89 = .ok (.dup, 1) := by decide +kernel
theorem d_C_paper_90 : decode prog_1_method_14_code 90 = .ok (.getfield 25, 3) := by decide +kernel
theorem d_C_paper_93 : decode prog_1_method_14_code 93 = .ok (.iconst 1, 1) := by decide +kernel
theorem d_C_paper_94 : decode prog_1_method_14_code 94 = .ok (.iadd, 1) := by decide +kernel
theorem d_C_paper_95 : decode prog_1_method_14_code 95 = .ok (.putfield 25, 3) := by decide +kernel
theorem d_C_paper_98 : decode prog_1_method_14_code 98 = .ok (.aload_n 0, 1) := by decide +kernel
theorem d_C_paper_99 : decode prog_1_method_14_code 99 = .ok (.getfield 25, 3) := by decide +kernel
theorem d_C_paper_102 : decode prog_1_method_14_code 102 = .ok (.iconst 1, 1) := by decide +kernel
theorem d_C_paper_103 : decode prog_1_method_14_code 103 = .ok (.isub, 1) := by decide +kernel
theorem d_C_paper_104 : decode prog_1_method_14_code 104 = .ok (.ireturn, 1) := by decide +kernel
theorem d_P_init_0 : decode prog_3_method_1_code 0 = .ok (.aload_n 0, 1) := by decide +kernel
theorem d_P_init_1 : decode prog_3_method_1_code 1 = .ok (.invokespecial 3, 3) := by decide +kernel
theorem d_P_init_4 : decode prog_3_method_1_code 4 = .ok (.iconst 0, 1) := by decide +kernel
theorem d_P_init_5 : decode prog_3_method_1_code 5 = .ok (.aload_n 2, 1) := by decide +kernel
theorem d_P_init_6 : decode prog_3_method_1_code 6 = .ok (.getfield 9, 3) := by decide +kernel
theorem d_P_init_9 : decode prog_3_method_1_code 9 = .ok (.aload_n 2, 1) := by decide +kernel
theorem d_P_init_10 : decode prog_3_method_1_code 10 = .ok (.getfield 15, 3) := by decide +kernel
theorem d_P_init_13 : decode prog_3_method_1_code 13 = .ok (.arraylength, 1) := by decide +kernel
theorem d_P_init_14 : decode prog_3_method_1_code 14 = .ok (.invokestatic 19, 3) := by decide +kernel
theorem d_P_init_17 : decode prog_3_method_1_code 17 = .ok (.invokestatic 25, 3) := by decide +kernel
theorem d_P_init_20 : decode prog_3_method_1_code 20 = .ok (.istore 5, 2) := by decide +kernel
theorem d_P_init_22 : decode prog_3_method_1_code 22 = .ok (.aload_n 0, 1) := by decide +kernel
theorem d_P_init_23 : decode prog_3_method_1_code 23 = .ok (.bipush 6, 2) := by decide +kernel
theorem d_P_init_25 : decode prog_3_method_1_code 25 = .ok (.iload 5, 2) := by decide +kernel
theorem d_P_init_27 : decode prog_3_method_1_code 27 = .ok (.iadd, 1) := by decide +kernel
theorem d_P_init_28 : decode prog_3_method_1_code 28 = .ok (.newarray .int, 2) := by decide +kernel
theorem d_P_init_30 : decode prog_3_method_1_code 30 = .ok (.putfield 28, 3) := by decide +kernel
theorem d_P_init_33 : decode prog_3_method_1_code 33 = .ok (.aload_n 0, 1) := by decide +kernel
theorem d_P_init_34 : decode prog_3_method_1_code 34 = .ok (.getfield 28, 3) := by decide +kernel
theorem d_P_init_37 : decode prog_3_method_1_code 37 = .ok (.iconst 0, 1) := by decide +kernel
theorem d_P_init_38 : decode prog_3_method_1_code 38 = .ok (.iload_n 1, 1) := by decide +kernel
theorem d_P_init_39 : decode prog_3_method_1_code 39 = .ok (.iastore, 1) := by decide +kernel
theorem d_P_init_40 : decode prog_3_method_1_code 40 = .ok (.aload_n 0, 1) := by decide +kernel
theorem d_P_init_41 : decode prog_3_method_1_code 41 = .ok (.getfield 28, 3) := by decide +kernel
theorem d_P_init_44 : decode prog_3_method_1_code 44 = .ok (.iconst 1, 1) := by decide +kernel
theorem d_P_init_45 : decode prog_3_method_1_code 45 = .ok (.aload_n 2, 1) := by decide +kernel
theorem d_P_init_46 : decode prog_3_method_1_code 46 = .ok (.getfield 33, 3) := by decide +kernel
theorem d_P_init_49 : decode prog_3_method_1_code 49 = .ok (.iastore, 1) := by decide +kernel
theorem d_P_init_50 : decode prog_3_method_1_code 50 = .ok (.aload_n 0, 1) := by decide +kernel
theorem d_P_init_51 : decode prog_3_method_1_code 51 = .ok (.getfield 28, 3) := by decide +kernel
theorem d_P_init_54 : decode prog_3_method_1_code 54 = .ok (.iconst 2, 1) := by decide +kernel
theorem d_P_init_55 : decode prog_3_method_1_code 55 = .ok (.iload_n 3, 1) := by decide +kernel
theorem d_P_init_56 : decode prog_3_method_1_code 56 = .ok (.iastore, 1) := by decide +kernel
theorem d_P_init_57 : decode prog_3_method_1_code 57 = .ok (.aload_n 0, 1) := by decide +kernel
theorem d_P_init_58 : decode prog_3_method_1_code 58 = .ok (.getfield 28, 3) := by decide +kernel
theorem d_P_init_61 : decode prog_3_method_1_code 61 = .ok (.iconst 3, 1) := by decide +kernel
theorem d_P_init_62 : decode prog_3_method_1_code 62 = .ok (.iload 4, 2) := by decide +kernel
theorem d_P_init_64 : decode prog_3_method_1_code 64 = .ok (.iastore, 1) := by decide +kernel
theorem d_P_init_65 : decode prog_3_method_1_code 65 = .ok (.aload_n 0, 1) := by decide +kernel
theorem d_P_init_66 : decode prog_3_method_1_code 66 = .ok (.getfield 28, 3) := by decide +kernel
theorem d_P_init_69 : decode prog_3_method_1_code 69 = .ok (.iconst 4, 1) := by decide +kernel
theorem d_P_init_70 : decode prog_3_method_1_code 70 = .ok (.aload_n 2, 1) := by decide +kernel
theorem d_P_init_71 : decode prog_3_method_1_code 71 = .ok (.getfield 36, 3) := by decide +kernel
theorem d_P_init_74 : decode prog_3_method_1_code 74 = .ok (.iastore, 1) := by decide +kernel
theorem d_P_init_75 : decode prog_3_method_1_code 75 = .ok (.aload_n 0, 1) := by decide +kernel
theorem d_P_init_76 : decode prog_3_method_1_code 76 = .ok (.getfield 28, 3) := by decide +kernel
theorem d_P_init_79 : decode prog_3_method_1_code 79 = .ok (.iconst 5, 1) := by decide +kernel
theorem d_P_init_80 : decode prog_3_method_1_code 80 = .ok (.iload 5, 2) := by decide +kernel
theorem d_P_init_82 : decode prog_3_method_1_code 82 = .ok (.iastore, 1) := by decide +kernel
theorem d_P_init_83 : decode prog_3_method_1_code 83 = .ok (.iconst 0, 1) := by decide +kernel
theorem d_P_init_84 : decode prog_3_method_1_code 84 = .ok (.istore 6, 2) := by decide +kernel
theorem d_P_init_86 : decode prog_3_method_1_code 86 = .ok (.iload 6, 2) := by decide +kernel
theorem d_P_init_88 : decode prog_3_method_1_code 88 = .ok (.iload 5, 2) := by decide +kernel
theorem d_P_init_90 : decode prog_3_method_1_code 90 = .ok (.if_icmp .ge 26, 3) := by decide +kernel
theorem d_P_init_93 : decode prog_3_method_1_code 93 = .ok (.aload_n 0, 1) := by decide +kernel
theorem d_P_init_94 : decode prog_3_method_1_code 94 = .ok (.getfield 28, 3) := by decide +kernel
theorem d_P_init_97 : decode prog_3_method_1_code 97 = .ok (.bipush 6, 2) := by decide +kernel
theorem d_P_init_99 : decode prog_3_method_1_code 99 = .ok (.iload 6, 2) := by decide +kernel
theorem d_P_init_101 : decode prog_3_method_1_code 101 = .ok (.iadd, 1) := by decide +kernel
theorem d_P_init_102 : decode prog_3_method_1_code 102 = .ok (.aload_n 2, 1) := by decide +kernel
theorem d_P_init_103 : decode prog_3_method_1_code 103 = .ok (.getfield 15, 3) := by decide +kernel
theorem d_P_init_106 : decode prog_3_method_1_code 106 = .ok (.iload 6, 2) := by decide +kernel
theorem d_P_init_108 : decode prog_3_method_1_code 108 = .ok (.iaload, 1) := by decide +kernel
theorem d_P_init_109 : decode prog_3_method_1_code 109 = .ok (.iastore, 1) := by decide +kernel
theorem d_P_init_110 : decode prog_3_method_1_code 110 = .ok (.iinc 6 1, 3) := by decide +kernel
theorem d_P_init_113 : decode prog_3_method_1_code 113 = .ok (.goto (-27), 3) := by decide +kernel
theorem d_P_init_116 : decode prog_3_method_1_code 116 = .ok (.return_, 1) := by decide +kernel
theorem d_A_minI_0 : decode prog_7_method_69_code 0 = .ok (.iload_n 0, 1) := by decide +kernel
theorem d_A_minI_1 : decode prog_7_method_69_code 1 = .ok (.iload_n 1, 1) := by decide +kernel
theorem d_A_minI_2 : decode prog_7_method_69_code 2 = .ok (.if_icmp .gt 7, 3) := by decide +kernel
theorem d_A_minI_5 : decode prog_7_method_69_code 5 = .ok (.iload_n 0, 1) := by decide +kernel
theorem d_A_minI_6 : decode prog_7_method_69_code 6 = .ok (.goto 4, 3) := by decide +kernel
theorem d_A_minI_9 : decode prog_7_method_69_code 9 = .ok (.iload_n 1, 1) := by decide +kernel
theorem d_A_minI_10 : decode prog_7_method_69_code 10 = .ok (.ireturn, 1) := by decide +kernel
theorem d_A_maxI_0 : decode prog_7_method_65_code 0 = .ok (.iload_n 0, 1) := by decide +kernel
theorem d_A_maxI_1 : decode prog_7_method_65_code 1 = .ok (.iload_n 1, 1) := by decide +kernel
theorem d_A_maxI_2 : decode prog_7_method_65_code 2 = .ok (.if_icmp .lt 7, 3) := by decide +kernel
theorem d_A_maxI_5 : decode prog_7_method_65_code 5 = .ok (.iload_n 0, 1) := by decide +kernel
theorem d_A_maxI_6 : decode prog_7_method_65_code 6 = .ok (.goto 4, 3) := by decide +kernel
theorem d_A_maxI_9 : decode prog_7_method_65_code 9 = .ok (.iload_n 1, 1) := by decide +kernel
theorem d_A_maxI_10 : decode prog_7_method_65_code 10 = .ok (.ireturn, 1) := by decide +kernel
theorem d_C_at_0 : decode prog_1_method_15_code 0 = .ok (.aload_n 0, 1) := by decide +kernel
theorem d_C_at_1 : decode prog_1_method_15_code 1 = .ok (.iload_n 1, 1) := by decide +kernel
theorem d_C_at_2 : decode prog_1_method_15_code 2 = .ok (.invokevirtual 123, 3) := by decide +kernel
theorem d_C_at_5 : decode prog_1_method_15_code 5 = .ok (.astore_n 3, 1) := by decide +kernel
theorem d_C_at_6 : decode prog_1_method_15_code 6 = .ok (.aload_n 3, 1) := by decide +kernel
theorem d_C_at_7 : decode prog_1_method_15_code 7 = .ok (.ifnull 16, 3) := by decide +kernel
theorem d_C_at_10 : decode prog_1_method_15_code 10 = .ok (.iload_n 2, 1) := by decide +kernel
theorem d_C_at_11 : decode prog_1_method_15_code 11 = .ok (.ifCond .lt 12, 3) := by decide +kernel
theorem d_C_at_14 : decode prog_1_method_15_code 14 = .ok (.iload_n 2, 1) := by decide +kernel
theorem d_C_at_15 : decode prog_1_method_15_code 15 = .ok (.aload_n 3, 1) := by decide +kernel
theorem d_C_at_16 : decode prog_1_method_15_code 16 = .ok (.getfield 127, 3) := by decide +kernel
theorem d_C_at_19 : decode prog_1_method_15_code 19 = .ok (.arraylength, 1) := by decide +kernel
theorem d_C_at_20 : decode prog_1_method_15_code 20 = .ok (.if_icmp .lt 5, 3) := by decide +kernel
theorem d_C_at_23 : decode prog_1_method_15_code 23 = .ok (.iconst (-1), 1) := by decide +kernel
theorem d_C_at_24 : decode prog_1_method_15_code 24 = .ok (.ireturn, 1) := by decide +kernel
theorem d_C_at_25 : decode prog_1_method_15_code 25 = .ok (.aload_n 3, 1) := by decide +kernel
theorem d_C_at_26 : decode prog_1_method_15_code 26 = .ok (.getfield 127, 3) := by decide +kernel
theorem d_C_at_29 : decode prog_1_method_15_code 29 = .ok (.iload_n 2, 1) := by decide +kernel
theorem d_C_at_30 : decode prog_1_method_15_code 30 = .ok (.iaload, 1) := by decide +kernel
theorem d_C_at_31 : decode prog_1_method_15_code 31 = .ok (.ireturn, 1) := by decide +kernel
theorem d_C_findPaper_0 : decode prog_1_method_25_code 0 = .ok (.iload_n 1, 1) := by decide +kernel
theorem d_C_findPaper_1 : decode prog_1_method_25_code 1 = .ok (.ifCond .lt 20, 3) := by decide +kernel
theorem d_C_findPaper_4 : decode prog_1_method_25_code 4 = .ok (.iload_n 1, 1) := by decide +kernel
theorem d_C_findPaper_5 : decode prog_1_method_25_code 5 = .ok (.aload_n 0, 1) := by decide +kernel
theorem d_C_findPaper_6 : decode prog_1_method_25_code 6 = .ok (.getfield 25, 3) := by decide +kernel
theorem d_C_findPaper_9 : decode prog_1_method_25_code 9 = .ok (.if_icmp .ge 12, 3) := by decide +kernel
theorem d_C_findPaper_12 : decode prog_1_method_25_code 12 = .ok (.iload_n 1, 1) := by decide +kernel
theorem d_C_findPaper_13 : decode prog_1_method_25_code 13 = .ok (.aload_n 0, 1) := by decide +kernel
theorem d_C_findPaper_14 : decode prog_1_method_25_code 14 = .ok (.getfield 21, 3) := by decide +kernel
theorem d_C_findPaper_17 : decode prog_1_method_25_code 17 = .ok (.arraylength, 1) := by decide +kernel
theorem d_C_findPaper_18 : decode prog_1_method_25_code 18 = .ok (.if_icmp .lt 5, 3) := by decide +kernel
theorem d_C_findPaper_21 : decode prog_1_method_25_code 21 = .ok (.aconst_null, 1) := by decide +kernel
theorem d_C_findPaper_22 : decode prog_1_method_25_code 22 = .ok (.areturn, 1) := by decide +kernel
theorem d_C_findPaper_23 : decode prog_1_method_25_code 23 = .ok (.aload_n 0, 1) := by decide +kernel
theorem d_C_findPaper_24 : decode prog_1_method_25_code 24 = .ok (.getfield 21, 3) := by decide +kernel
theorem d_C_findPaper_27 : decode prog_1_method_25_code 27 = .ok (.iload_n 1, 1) := by decide +kernel
theorem d_C_findPaper_28 : decode prog_1_method_25_code 28 = .ok (.aaload, 1) := by decide +kernel
theorem d_C_findPaper_29 : decode prog_1_method_25_code 29 = .ok (.areturn, 1) := by decide +kernel
theorem d_C_mark_0 : decode prog_1_method_16_code 0 = .ok (.aload_n 0, 1) := by decide +kernel
theorem d_C_mark_1 : decode prog_1_method_16_code 1 = .ok (.iload_n 1, 1) := by decide +kernel
theorem d_C_mark_2 : decode prog_1_method_16_code 2 = .ok (.invokevirtual 123, 3) := by decide +kernel
theorem d_C_mark_5 : decode prog_1_method_16_code 5 = .ok (.astore 5, 2) := by decide +kernel
theorem d_C_mark_7 : decode prog_1_method_16_code 7 = .ok (.aload 5, 2) := by decide +kernel
theorem d_C_mark_9 : decode prog_1_method_16_code 9 = .ok (.ifnull 14, 3) := by decide +kernel
theorem d_C_mark_12 : decode prog_1_method_16_code 12 = .ok (.iload 4, 2) := by decide +kernel
theorem d_C_mark_14 : decode prog_1_method_16_code 14 = .ok (.iconst 0, 1) := by decide +kernel
theorem d_C_mark_15 : decode prog_1_method_16_code 15 = .ok (.bipush 7, 2) := by decide +kernel
theorem d_C_mark_17 : decode prog_1_method_16_code 17 = .ok (.invokestatic 42, 3) := by decide +kernel
theorem d_C_mark_20 : decode prog_1_method_16_code 20 = .ok (.ifCond .ne 5, 3) := by decide +kernel
theorem d_C_mark_23 : decode prog_1_method_16_code 23 = .ok (.iconst (-1), 1) := by decide +kernel
theorem d_C_mark_24 : decode prog_1_method_16_code 24 = .ok (.ireturn, 1) := by decide +kernel
theorem d_C_mark_25 : decode prog_1_method_16_code 25 = .ok (.bipush 8, 2) := by decide +kernel
theorem d_C_mark_27 : decode prog_1_method_16_code 27 = .ok (.bipush 7, 2) := by decide +kernel
theorem d_C_mark_29 : decode prog_1_method_16_code 29 = .ok (.iload 4, 2) := by decide +kernel
theorem d_C_mark_31 : decode prog_1_method_16_code 31 = .ok (.isub, 1) := by decide +kernel
theorem d_C_mark_32 : decode prog_1_method_16_code 32 = .ok (.imul, 1) := by decide +kernel
theorem d_C_mark_33 : decode prog_1_method_16_code 33 = .ok (.istore 6, 2) := by decide +kernel
theorem d_C_mark_35 : decode prog_1_method_16_code 35 = .ok (.aload 5, 2) := by decide +kernel
theorem d_C_mark_37 : decode prog_1_method_16_code 37 = .ok (.lload_n 2, 1) := by decide +kernel
theorem d_C_mark_38 : decode prog_1_method_16_code 38 = .ok (.invokevirtual 130, 3) := by decide +kernel
theorem d_C_mark_41 : decode prog_1_method_16_code 41 = .ok (.iload 6, 2) := by decide +kernel
theorem d_C_mark_43 : decode prog_1_method_16_code 43 = .ok (.lushr, 1) := by decide +kernel
theorem d_C_mark_44 : decode prog_1_method_16_code 44 = .ok (.ldc2_w 134, 3) := by decide +kernel
theorem d_C_mark_47 : decode prog_1_method_16_code 47 = .ok (.land, 1) := by decide +kernel
theorem d_C_mark_48 : decode prog_1_method_16_code 48 = .ok (.l2i, 1) := by decide +kernel
theorem d_C_mark_49 : decode prog_1_method_16_code 49 = .ok (.ireturn, 1) := by decide +kernel
theorem d_P_markBy_0 : decode prog_3_method_2_code 0 = .ok (.lload_n 1, 1) := by decide +kernel
theorem d_P_markBy_1 : decode prog_3_method_2_code 1 = .ok (.lstore_n 3, 1) := by decide +kernel
theorem d_P_markBy_2 : decode prog_3_method_2_code 2 = .ok (.iconst 0, 1) := by decide +kernel
theorem d_P_markBy_3 : decode prog_3_method_2_code 3 = .ok (.istore 5, 2) := by decide +kernel
theorem d_P_markBy_5 : decode prog_3_method_2_code 5 = .ok (.iload 5, 2) := by decide +kernel
theorem d_P_markBy_7 : decode prog_3_method_2_code 7 = .ok (.aload_n 0, 1) := by decide +kernel
theorem d_P_markBy_8 : decode prog_3_method_2_code 8 = .ok (.getfield 28, 3) := by decide +kernel
theorem d_P_markBy_11 : decode prog_3_method_2_code 11 = .ok (.arraylength, 1) := by decide +kernel
theorem d_P_markBy_12 : decode prog_3_method_2_code 12 = .ok (.if_icmp .ge 33, 3) := by decide +kernel
theorem d_P_markBy_15 : decode prog_3_method_2_code 15 = .ok (.lload_n 3, 1) := by decide +kernel
theorem d_P_markBy_16 : decode prog_3_method_2_code 16 = .ok (.aload_n 0, 1) := by decide +kernel
theorem d_P_markBy_17 : decode prog_3_method_2_code 17 = .ok (.getfield 28, 3) := by decide +kernel
theorem d_P_markBy_20 : decode prog_3_method_2_code 20 = .ok (.iload 5, 2) := by decide +kernel
theorem d_P_markBy_22 : decode prog_3_method_2_code 22 = .ok (.iaload, 1) := by decide +kernel
theorem d_P_markBy_23 : decode prog_3_method_2_code 23 = .ok (.i2l, 1) := by decide +kernel
theorem d_P_markBy_24 : decode prog_3_method_2_code 24 = .ok (.ladd, 1) := by decide +kernel
theorem d_P_markBy_25 : decode prog_3_method_2_code 25 = .ok (.lconst 1, 1) := by decide +kernel
theorem d_P_markBy_26 : decode prog_3_method_2_code 26 = .ok (.ladd, 1) := by decide +kernel
theorem d_P_markBy_27 : decode prog_3_method_2_code 27 = .ok (.ldc2_w 39, 3) := by decide +kernel
theorem d_P_markBy_30 : decode prog_3_method_2_code 30 = .ok (.lmul, 1) := by decide +kernel
theorem d_P_markBy_31 : decode prog_3_method_2_code 31 = .ok (.lstore_n 3, 1) := by decide +kernel
theorem d_P_markBy_32 : decode prog_3_method_2_code 32 = .ok (.lload_n 3, 1) := by decide +kernel
theorem d_P_markBy_33 : decode prog_3_method_2_code 33 = .ok (.lload_n 3, 1) := by decide +kernel
theorem d_P_markBy_34 : decode prog_3_method_2_code 34 = .ok (.bipush 32, 2) := by decide +kernel
theorem d_P_markBy_36 : decode prog_3_method_2_code 36 = .ok (.lushr, 1) := by decide +kernel
theorem d_P_markBy_37 : decode prog_3_method_2_code 37 = .ok (.lxor, 1) := by decide +kernel
theorem d_P_markBy_38 : decode prog_3_method_2_code 38 = .ok (.lstore_n 3, 1) := by decide +kernel
theorem d_P_markBy_39 : decode prog_3_method_2_code 39 = .ok (.iinc 5 1, 3) := by decide +kernel
theorem d_P_markBy_42 : decode prog_3_method_2_code 42 = .ok (.goto (-37), 3) := by decide +kernel
theorem d_P_markBy_45 : decode prog_3_method_2_code 45 = .ok (.lload_n 3, 1) := by decide +kernel
theorem d_P_markBy_46 : decode prog_3_method_2_code 46 = .ok (.lreturn, 1) := by decide +kernel
theorem d_C_check_0 : decode prog_1_method_17_code 0 = .ok (.aload_n 0, 1) := by decide +kernel
theorem d_C_check_1 : decode prog_1_method_17_code 1 = .ok (.iload_n 1, 1) := by decide +kernel
theorem d_C_check_2 : decode prog_1_method_17_code 2 = .ok (.invokevirtual 123, 3) := by decide +kernel
theorem d_C_check_5 : decode prog_1_method_17_code 5 = .ok (.astore 6, 2) := by decide +kernel
theorem d_C_check_7 : decode prog_1_method_17_code 7 = .ok (.aload 6, 2) := by decide +kernel
theorem d_C_check_9 : decode prog_1_method_17_code 9 = .ok (.ifnull 19, 3) := by decide +kernel
theorem d_C_check_12 : decode prog_1_method_17_code 12 = .ok (.aload 6, 2) := by decide +kernel
theorem d_C_check_14 : decode prog_1_method_17_code 14 = .ok (.lload_n 2, 1) := by decide +kernel
theorem d_C_check_15 : decode prog_1_method_17_code 15 = .ok (.invokevirtual 130, 3) := by decide +kernel
theorem d_C_check_18 : decode prog_1_method_17_code 18 = .ok (.lload 4, 2) := by decide +kernel
theorem d_C_check_20 : decode prog_1_method_17_code 20 = .ok (.lcmp, 1) := by decide +kernel
theorem d_C_check_21 : decode prog_1_method_17_code 21 = .ok (.ifCond .ne 7, 3) := by decide +kernel
theorem d_C_check_24 : decode prog_1_method_17_code 24 = .ok (.iconst 1, 1) := by decide +kernel
theorem d_C_check_25 : decode prog_1_method_17_code 25 = .ok (.goto 4, 3) := by decide +kernel
theorem d_C_check_28 : decode prog_1_method_17_code 28 = .ok (.iconst 0, 1) := by decide +kernel
theorem d_C_check_29 : decode prog_1_method_17_code 29 = .ok (.ireturn, 1) := by decide +kernel
theorem d_C_listed_0 : decode prog_1_method_18_code 0 = .ok (.lload_n 1, 1) := by decide +kernel
theorem d_C_listed_1 : decode prog_1_method_18_code 1 = .ok (.invokestatic 46, 3) := by decide +kernel
theorem d_C_listed_4 : decode prog_1_method_18_code 4 = .ok (.ifCond .eq 23, 3) := by decide +kernel
theorem d_C_listed_7 : decode prog_1_method_18_code 7 = .ok (.aload_n 0, 1) := by decide +kernel
theorem d_C_listed_8 : decode prog_1_method_18_code 8 = .ok (.lload_n 1, 1) := by decide +kernel
theorem d_C_listed_9 : decode prog_1_method_18_code 9 = .ok (.invokevirtual 136, 3) := by decide +kernel
theorem d_C_listed_12 : decode prog_1_method_18_code 12 = .ok (.ifCond .ne 15, 3) := by decide +kernel
theorem d_C_listed_15 : decode prog_1_method_18_code 15 = .ok (.aload_n 0, 1) := by decide +kernel
theorem d_C_listed_16 : decode prog_1_method_18_code 16 = .ok (.getfield 32, 3) := by decide +kernel
theorem d_C_listed_19 : decode prog_1_method_18_code 19 = .ok (.aload_n 0, 1) := by decide +kernel
theorem d_C_listed_20 : decode prog_1_method_18_code 20 = .ok (.getfield 28, 3) := by decide +kernel
theorem d_C_listed_23 : decode prog_1_method_18_code 23 = .ok (.arraylength, 1) := by decide +kernel
theorem d_C_listed_24 : decode prog_1_method_18_code 24 = .ok (.if_icmp .lt 5, 3) := by decide +kernel
theorem d_C_listed_27 : decode prog_1_method_18_code 27 = .ok (.iconst (-1), 1) := by decide +kernel
theorem d_C_listed_28 : decode prog_1_method_18_code 28 = .ok (.ireturn, 1) := by decide +kernel
theorem d_C_listed_29 : decode prog_1_method_18_code 29 = .ok (.aload_n 0, 1) := by decide +kernel
theorem d_C_listed_30 : decode prog_1_method_18_code 30 = .ok (.getfield 28, 3) := by decide +kernel
theorem d_C_listed_33 : decode prog_1_method_18_code 33 = .ok (.aload_n 0, 1) := by decide +kernel
theorem d_C_listed_34 : decode prog_1_method_18_code 34 = .ok (.getfield 32, 3) := by decide +kernel
theorem d_C_listed_37 : decode prog_1_method_18_code 37 = .ok (.lload_n 1, 1) := by decide +kernel
theorem d_C_listed_38 : decode prog_1_method_18_code 38 = .ok (.lastore, 1) := by decide +kernel
theorem d_C_listed_39 : decode prog_1_method_18_code 39 = .ok (.aload_n 0, 1) := by decide +kernel
theorem d_C_listed_40 : decode prog_1_method_18_code 40 = .ok (.dup, 1) := by decide +kernel
theorem d_C_listed_41 : decode prog_1_method_18_code 41 = .ok (.getfield 32, 3) := by decide +kernel
theorem d_C_listed_44 : decode prog_1_method_18_code 44 = .ok (.iconst 1, 1) := by decide +kernel
theorem d_C_listed_45 : decode prog_1_method_18_code 45 = .ok (.iadd, 1) := by decide +kernel
theorem d_C_listed_46 : decode prog_1_method_18_code 46 = .ok (.putfield 32, 3) := by decide +kernel
theorem d_C_listed_49 : decode prog_1_method_18_code 49 = .ok (.aload_n 0, 1) := by decide +kernel
theorem d_C_listed_50 : decode prog_1_method_18_code 50 = .ok (.getfield 32, 3) := by decide +kernel
theorem d_C_listed_53 : decode prog_1_method_18_code 53 = .ok (.ireturn, 1) := by decide +kernel
theorem d_C_listHasSerial_0 : decode prog_1_method_27_code 0 = .ok (.iconst 0, 1) := by decide +kernel
theorem d_C_listHasSerial_1 : decode prog_1_method_27_code 1 = .ok (.istore_n 3, 1) := by decide +kernel
theorem d_C_listHasSerial_2 : decode prog_1_method_27_code 2 = .ok (.iload_n 3, 1) := by decide +kernel
theorem d_C_listHasSerial_3 : decode prog_1_method_27_code 3 = .ok (.aload_n 0, 1) := by decide +kernel
theorem d_C_listHasSerial_4 : decode prog_1_method_27_code 4 = .ok (.getfield 32, 3) := by decide +kernel
theorem d_C_listHasSerial_7 : decode prog_1_method_27_code 7 = .ok (.if_icmp .ge 31, 3) := by decide +kernel
theorem d_C_listHasSerial_10 : decode prog_1_method_27_code 10 = .ok (.iload_n 3, 1) := by decide +kernel
theorem d_C_listHasSerial_11 : decode prog_1_method_27_code 11 = .ok (.aload_n 0, 1) := by decide +kernel
theorem d_C_listHasSerial_12 : decode prog_1_method_27_code 12 = .ok (.getfield 28, 3) := by decide +kernel
theorem d_C_listHasSerial_15 : decode prog_1_method_27_code 15 = .ok (.arraylength, 1) := by decide +kernel
theorem d_C_listHasSerial_16 : decode prog_1_method_27_code 16 = .ok (.if_icmp .ge 22, 3) := by decide +kernel
theorem d_C_listHasSerial_19 : decode prog_1_method_27_code 19 = .ok (.aload_n 0, 1) := by decide +kernel
theorem d_C_listHasSerial_20 : decode prog_1_method_27_code 20 = .ok (.getfield 28, 3) := by decide +kernel
theorem d_C_listHasSerial_23 : decode prog_1_method_27_code 23 = .ok (.iload_n 3, 1) := by decide +kernel
theorem d_C_listHasSerial_24 : decode prog_1_method_27_code 24 = .ok (.laload, 1) := by decide +kernel
theorem d_C_listHasSerial_25 : decode prog_1_method_27_code 25 = .ok (.lload_n 1, 1) := by decide +kernel
theorem d_C_listHasSerial_26 : decode prog_1_method_27_code 26 = .ok (.lcmp, 1) := by decide +kernel
theorem d_C_listHasSerial_27 : decode prog_1_method_27_code 27 = .ok (.ifCond .ne 5, 3) := by decide +kernel
theorem d_C_listHasSerial_30 : decode prog_1_method_27_code 30 = .ok (.iconst 1, 1) := by decide +kernel
theorem d_C_listHasSerial_31 : decode prog_1_method_27_code 31 = .ok (.ireturn, 1) := by decide +kernel
theorem d_C_listHasSerial_32 : decode prog_1_method_27_code 32 = .ok (.iinc 3 1, 3) := by decide +kernel
theorem d_C_listHasSerial_35 : decode prog_1_method_27_code 35 = .ok (.goto (-33), 3) := by decide +kernel
theorem d_C_listHasSerial_38 : decode prog_1_method_27_code 38 = .ok (.iconst 0, 1) := by decide +kernel
theorem d_C_listHasSerial_39 : decode prog_1_method_27_code 39 = .ok (.ireturn, 1) := by decide +kernel
theorem d_C_missing_0 : decode prog_1_method_19_code 0 = .ok (.iconst 0, 1) := by decide +kernel
theorem d_C_missing_1 : decode prog_1_method_19_code 1 = .ok (.istore_n 2, 1) := by decide +kernel
theorem d_C_missing_2 : decode prog_1_method_19_code 2 = .ok (.iconst 0, 1) := by decide +kernel
theorem d_C_missing_3 : decode prog_1_method_19_code 3 = .ok (.istore_n 3, 1) := by decide +kernel
theorem d_C_missing_4 : decode prog_1_method_19_code 4 = .ok (.iload_n 3, 1) := by decide +kernel
theorem d_C_missing_5 : decode prog_1_method_19_code 5 = .ok (.aload_n 0, 1) := by decide +kernel
theorem d_C_missing_6 : decode prog_1_method_19_code 6 = .ok (.getfield 32, 3) := by decide +kernel
theorem d_C_missing_9 : decode prog_1_method_19_code 9 = .ok (.if_icmp .ge 41, 3) := by decide +kernel
theorem d_C_missing_12 : decode prog_1_method_19_code 12 = .ok (.iload_n 3, 1) := by decide +kernel
theorem d_C_missing_13 : decode prog_1_method_19_code 13 = .ok (.aload_n 0, 1) := by decide +kernel
theorem d_C_missing_14 : decode prog_1_method_19_code 14 = .ok (.getfield 28, 3) := by decide +kernel
theorem d_C_missing_17 : decode prog_1_method_19_code 17 = .ok (.arraylength, 1) := by decide +kernel
theorem d_C_missing_18 : decode prog_1_method_19_code 18 = .ok (.if_icmp .ge 32, 3) := by decide +kernel
theorem d_C_missing_21 : decode prog_1_method_19_code 21 = .ok (.aload_n 0, 1) := by decide +kernel
theorem d_C_missing_22 : decode prog_1_method_19_code 22 = .ok (.aload_n 0, 1) := by decide +kernel
theorem d_C_missing_23 : decode prog_1_method_19_code 23 = .ok (.getfield 28, 3) := by decide +kernel
theorem d_C_missing_26 : decode prog_1_method_19_code 26 = .ok (.iload_n 3, 1) := by decide +kernel
theorem d_C_missing_27 : decode prog_1_method_19_code 27 = .ok (.laload, 1) := by decide +kernel
theorem d_C_missing_28 : decode prog_1_method_19_code 28 = .ok (.invokevirtual 50, 3) := by decide +kernel
theorem d_C_missing_31 : decode prog_1_method_19_code 31 = .ok (.ifCond .ne 13, 3) := by decide +kernel
theorem d_C_missing_34 : decode prog_1_method_19_code 34 = .ok (.iload_n 2, 1) := by decide +kernel
theorem d_C_missing_35 : decode prog_1_method_19_code 35 = .ok (.iload_n 1, 1) := by decide +kernel
theorem d_C_missing_36 : decode prog_1_method_19_code 36 = .ok (.if_icmp .ne 5, 3) := by decide +kernel
theorem d_C_missing_39 : decode prog_1_method_19_code 39 = .ok (.iload_n 3, 1) := by decide +kernel
theorem d_C_missing_40 : decode prog_1_method_19_code 40 = .ok (.ireturn, 1) := by decide +kernel
theorem d_C_missing_41 : decode prog_1_method_19_code 41 = .ok (.iinc 2 1, 3) := by decide +kernel
theorem d_C_missing_44 : decode prog_1_method_19_code 44 = .ok (.iinc 3 1, 3) := by decide +kernel
theorem d_C_missing_47 : decode prog_1_method_19_code 47 = .ok (.goto (-43), 3) := by decide +kernel
theorem d_C_missing_50 : decode prog_1_method_19_code 50 = .ok (.iconst (-1), 1) := by decide +kernel
theorem d_C_missing_51 : decode prog_1_method_19_code 51 = .ok (.ireturn, 1) := by decide +kernel
theorem d_C_extra_0 : decode prog_1_method_20_code 0 = .ok (.iconst 0, 1) := by decide +kernel
theorem d_C_extra_1 : decode prog_1_method_20_code 1 = .ok (.istore_n 2, 1) := by decide +kernel
theorem d_C_extra_2 : decode prog_1_method_20_code 2 = .ok (.iconst 0, 1) := by decide +kernel
theorem d_C_extra_3 : decode prog_1_method_20_code 3 = .ok (.istore_n 3, 1) := by decide +kernel
theorem d_C_extra_4 : decode prog_1_method_20_code 4 = .ok (.iload_n 3, 1) := by decide +kernel
theorem d_C_extra_5 : decode prog_1_method_20_code 5 = .ok (.aload_n 0, 1) := by decide +kernel
theorem d_C_extra_6 : decode prog_1_method_20_code 6 = .ok (.getfield 15, 3) := by decide +kernel
theorem d_C_extra_9 : decode prog_1_method_20_code 9 = .ok (.if_icmp .ge 43, 3) := by decide +kernel
theorem d_C_extra_12 : decode prog_1_method_20_code 12 = .ok (.aload_n 0, 1) := by decide +kernel
theorem d_C_extra_13 : decode prog_1_method_20_code 13 = .ok (.iload_n 3, 1) := by decide +kernel
theorem d_C_extra_14 : decode prog_1_method_20_code 14 = .ok (.invokevirtual 56, 3) := by decide +kernel
theorem d_C_extra_17 : decode prog_1_method_20_code 17 = .ok (.astore 4, 2) := by decide +kernel
theorem d_C_extra_19 : decode prog_1_method_20_code 19 = .ok (.aload 4, 2) := by decide +kernel
theorem d_C_extra_21 : decode prog_1_method_20_code 21 = .ok (.ifnull 25, 3) := by decide +kernel
theorem d_C_extra_24 : decode prog_1_method_20_code 24 = .ok (.aload_n 0, 1) := by decide +kernel
theorem d_C_extra_25 : decode prog_1_method_20_code 25 = .ok (.aload 4, 2) := by decide +kernel
theorem d_C_extra_27 : decode prog_1_method_20_code 27 = .ok (.getfield 139, 3) := by decide +kernel
theorem d_C_extra_30 : decode prog_1_method_20_code 30 = .ok (.invokevirtual 136, 3) := by decide +kernel
theorem d_C_extra_33 : decode prog_1_method_20_code 33 = .ok (.ifCond .ne 13, 3) := by decide +kernel
theorem d_C_extra_36 : decode prog_1_method_20_code 36 = .ok (.iload_n 2, 1) := by decide +kernel
theorem d_C_extra_37 : decode prog_1_method_20_code 37 = .ok (.iload_n 1, 1) := by decide +kernel
theorem d_C_extra_38 : decode prog_1_method_20_code 38 = .ok (.if_icmp .ne 5, 3) := by decide +kernel
theorem d_C_extra_41 : decode prog_1_method_20_code 41 = .ok (.iload_n 3, 1) := by decide +kernel
theorem d_C_extra_42 : decode prog_1_method_20_code 42 = .ok (.ireturn, 1) := by decide +kernel
theorem d_C_extra_43 : decode prog_1_method_20_code 43 = .ok (.iinc 2 1, 3) := by decide +kernel
theorem d_C_extra_46 : decode prog_1_method_20_code 46 = .ok (.iinc 3 1, 3) := by decide +kernel
theorem d_C_extra_49 : decode prog_1_method_20_code 49 = .ok (.goto (-45), 3) := by decide +kernel
theorem d_C_extra_52 : decode prog_1_method_20_code 52 = .ok (.iconst (-1), 1) := by decide +kernel
theorem d_C_extra_53 : decode prog_1_method_20_code 53 = .ok (.ireturn, 1) := by decide +kernel
theorem d_C_lost_0 : decode prog_1_method_21_code 0 = .ok (.aload_n 0, 1) := by decide +kernel
theorem d_C_lost_1 : decode prog_1_method_21_code 1 = .ok (.iload_n 1, 1) := by decide +kernel
theorem d_C_lost_2 : decode prog_1_method_21_code 2 = .ok (.invokevirtual 56, 3) := by decide +kernel
theorem d_C_lost_5 : decode prog_1_method_21_code 5 = .ok (.astore_n 2, 1) := by decide +kernel
theorem d_C_lost_6 : decode prog_1_method_21_code 6 = .ok (.aload_n 2, 1) := by decide +kernel
theorem d_C_lost_7 : decode prog_1_method_21_code 7 = .ok (.ifnull 22, 3) := by decide +kernel
theorem d_C_lost_10 : decode prog_1_method_21_code 10 = .ok (.aload_n 2, 1) := by decide +kernel
theorem d_C_lost_11 : decode prog_1_method_21_code 11 = .ok (.invokevirtual 81, 3) := by decide +kernel
theorem d_C_lost_14 : decode prog_1_method_21_code 14 = .ok (.ifCond .ne 15, 3) := by decide +kernel
theorem d_C_lost_17 : decode prog_1_method_21_code 17 = .ok (.aload_n 0, 1) := by decide +kernel
theorem d_C_lost_18 : decode prog_1_method_21_code 18 = .ok (.getfield 39, 3) := by decide +kernel
theorem d_C_lost_21 : decode prog_1_method_21_code 21 = .ok (.aload_n 0, 1) := by decide +kernel
theorem d_C_lost_22 : decode prog_1_method_21_code 22 = .ok (.getfield 35, 3) := by decide +kernel
theorem d_C_lost_25 : decode prog_1_method_21_code 25 = .ok (.arraylength, 1) := by decide +kernel
theorem d_C_lost_26 : decode prog_1_method_21_code 26 = .ok (.if_icmp .lt 5, 3) := by decide +kernel
theorem d_C_lost_29 : decode prog_1_method_21_code 29 = .ok (.iconst (-1), 1) := by decide +kernel
theorem d_C_lost_30 : decode prog_1_method_21_code 30 = .ok (.ireturn, 1) := by decide +kernel
theorem d_C_lost_31 : decode prog_1_method_21_code 31 = .ok (.aload_n 2, 1) := by decide +kernel
theorem d_C_lost_32 : decode prog_1_method_21_code 32 = .ok (.bipush 6, 2) := by decide +kernel
theorem d_C_lost_34 : decode prog_1_method_21_code 34 = .ok (.putfield 60, 3) := by decide +kernel
theorem d_C_lost_37 : decode prog_1_method_21_code 37 = .ok (.aload_n 0, 1) := by decide +kernel
theorem d_C_lost_38 : decode prog_1_method_21_code 38 = .ok (.getfield 35, 3) := by decide +kernel
theorem d_C_lost_41 : decode prog_1_method_21_code 41 = .ok (.aload_n 0, 1) := by decide +kernel
theorem d_C_lost_42 : decode prog_1_method_21_code 42 = .ok (.getfield 39, 3) := by decide +kernel
theorem d_C_lost_45 : decode prog_1_method_21_code 45 = .ok (.iload_n 1, 1) := by decide +kernel
theorem d_C_lost_46 : decode prog_1_method_21_code 46 = .ok (.iastore, 1) := by decide +kernel
theorem d_C_lost_47 : decode prog_1_method_21_code 47 = .ok (.aload_n 0, 1) := by decide +kernel
theorem d_C_lost_48 : decode prog_1_method_21_code 48 = .ok (.dup, 1) := by decide +kernel
theorem d_C_lost_49 : decode prog_1_method_21_code 49 = .ok (.getfield 39, 3) := by decide +kernel
theorem d_C_lost_52 : decode prog_1_method_21_code 52 = .ok (.iconst 1, 1) := by decide +kernel
theorem d_C_lost_53 : decode prog_1_method_21_code 53 = .ok (.iadd, 1) := by decide +kernel
theorem d_C_lost_54 : decode prog_1_method_21_code 54 = .ok (.putfield 39, 3) := by decide +kernel
theorem d_C_lost_57 : decode prog_1_method_21_code 57 = .ok (.aload_n 0, 1) := by decide +kernel
theorem d_C_lost_58 : decode prog_1_method_21_code 58 = .ok (.getfield 39, 3) := by decide +kernel
theorem d_C_lost_61 : decode prog_1_method_21_code 61 = .ok (.ireturn, 1) := by decide +kernel
theorem d_C_told_0 : decode prog_1_method_22_code 0 = .ok (.iload_n 1, 1) := by decide +kernel
theorem d_C_told_1 : decode prog_1_method_22_code 1 = .ok (.ifCond .lt 20, 3) := by decide +kernel
theorem d_C_told_4 : decode prog_1_method_22_code 4 = .ok (.iload_n 1, 1) := by decide +kernel
theorem d_C_told_5 : decode prog_1_method_22_code 5 = .ok (.aload_n 0, 1) := by decide +kernel
theorem d_C_told_6 : decode prog_1_method_22_code 6 = .ok (.getfield 39, 3) := by decide +kernel
theorem d_C_told_9 : decode prog_1_method_22_code 9 = .ok (.if_icmp .ge 12, 3) := by decide +kernel
theorem d_C_told_12 : decode prog_1_method_22_code 12 = .ok (.iload_n 1, 1) := by decide +kernel
theorem d_C_told_13 : decode prog_1_method_22_code 13 = .ok (.aload_n 0, 1) := by decide +kernel
theorem d_C_told_14 : decode prog_1_method_22_code 14 = .ok (.getfield 35, 3) := by decide +kernel
theorem d_C_told_17 : decode prog_1_method_22_code 17 = .ok (.arraylength, 1) := by decide +kernel
theorem d_C_told_18 : decode prog_1_method_22_code 18 = .ok (.if_icmp .lt 5, 3) := by decide +kernel
theorem d_C_told_21 : decode prog_1_method_22_code 21 = .ok (.iconst (-1), 1) := by decide +kernel
theorem d_C_told_22 : decode prog_1_method_22_code 22 = .ok (.ireturn, 1) := by decide +kernel
theorem d_C_told_23 : decode prog_1_method_22_code 23 = .ok (.aload_n 0, 1) := by decide +kernel
theorem d_C_told_24 : decode prog_1_method_22_code 24 = .ok (.getfield 35, 3) := by decide +kernel
theorem d_C_told_27 : decode prog_1_method_22_code 27 = .ok (.iload_n 1, 1) := by decide +kernel
theorem d_C_told_28 : decode prog_1_method_22_code 28 = .ok (.iaload, 1) := by decide +kernel
theorem d_C_told_29 : decode prog_1_method_22_code 29 = .ok (.ireturn, 1) := by decide +kernel
theorem d_C_states_0 : decode prog_1_method_23_code 0 = .ok (.iconst 0, 1) := by decide +kernel
theorem d_C_states_1 : decode prog_1_method_23_code 1 = .ok (.istore_n 1, 1) := by decide +kernel
theorem d_C_states_2 : decode prog_1_method_23_code 2 = .ok (.iconst 0, 1) := by decide +kernel
theorem d_C_states_3 : decode prog_1_method_23_code 3 = .ok (.istore_n 2, 1) := by decide +kernel
theorem d_C_states_4 : decode prog_1_method_23_code 4 = .ok (.iload_n 2, 1) := by decide +kernel
theorem d_C_states_5 : decode prog_1_method_23_code 5 = .ok (.aload_n 0, 1) := by decide +kernel
theorem d_C_states_6 : decode prog_1_method_23_code 6 = .ok (.getfield 15, 3) := by decide +kernel
theorem d_C_states_9 : decode prog_1_method_23_code 9 = .ok (.if_icmp .ge 28, 3) := by decide +kernel
theorem d_C_states_12 : decode prog_1_method_23_code 12 = .ok (.aload_n 0, 1) := by decide +kernel
theorem d_C_states_13 : decode prog_1_method_23_code 13 = .ok (.iload_n 2, 1) := by decide +kernel
theorem d_C_states_14 : decode prog_1_method_23_code 14 = .ok (.invokevirtual 56, 3) := by decide +kernel
theorem d_C_states_17 : decode prog_1_method_23_code 17 = .ok (.astore_n 3, 1) := by decide +kernel
theorem d_C_states_18 : decode prog_1_method_23_code 18 = .ok (.aload_n 3, 1) := by decide +kernel
theorem d_C_states_19 : decode prog_1_method_23_code 19 = .ok (.ifnull 12, 3) := by decide +kernel
theorem d_C_states_22 : decode prog_1_method_23_code 22 = .ok (.iload_n 1, 1) := by decide +kernel
theorem d_C_states_23 : decode prog_1_method_23_code 23 = .ok (.iconst 1, 1) := by decide +kernel
theorem d_C_states_24 : decode prog_1_method_23_code 24 = .ok (.aload_n 3, 1) := by decide +kernel
theorem d_C_states_25 : decode prog_1_method_23_code 25 = .ok (.getfield 60, 3) := by decide +kernel
theorem d_C_states_28 : decode prog_1_method_23_code 28 = .ok (.ishl, 1) := by decide +kernel
theorem d_C_states_29 : decode prog_1_method_23_code 29 = .ok (.ior, 1) := by decide +kernel
theorem d_C_states_30 : decode prog_1_method_23_code 30 = .ok (.istore_n 1, 1) := by decide +kernel
theorem d_C_states_31 : decode prog_1_method_23_code 31 = .ok (.iinc 2 1, 3) := by decide +kernel
theorem d_C_states_34 : decode prog_1_method_23_code 34 = .ok (.goto (-30), 3) := by decide +kernel
theorem d_C_states_37 : decode prog_1_method_23_code 37 = .ok (.iload_n 1, 1) := by decide +kernel
theorem d_C_states_38 : decode prog_1_method_23_code 38 = .ok (.invokestatic 143, 3) := by decide +kernel
theorem d_C_states_41 : decode prog_1_method_23_code 41 = .ok (.ireturn, 1) := by decide +kernel
theorem d_I_bitCount_0 : decode prog_6_method_49_code 0 = .ok (.iload_n 0, 1) := by decide +kernel
theorem d_I_bitCount_1 : decode prog_6_method_49_code 1 = .ok (.iload_n 0, 1) := by decide +kernel
theorem d_I_bitCount_2 : decode prog_6_method_49_code 2 = .ok (.iconst 1, 1) := by decide +kernel
theorem d_I_bitCount_3 : decode prog_6_method_49_code 3 = .ok (.iushr, 1) := by decide +kernel
theorem d_I_bitCount_4 : decode prog_6_method_49_code 4 = .ok (.ldc_w 265, 3) := by decide +kernel
theorem d_I_bitCount_7 : decode prog_6_method_49_code 7 = .ok (.iand, 1) := by decide +kernel
theorem d_I_bitCount_8 : decode prog_6_method_49_code 8 = .ok (.isub, 1) := by decide +kernel
theorem d_I_bitCount_9 : decode prog_6_method_49_code 9 = .ok (.istore_n 0, 1) := by decide +kernel
theorem d_I_bitCount_10 : decode prog_6_method_49_code 10 = .ok (.iload_n 0, 1) := by decide +kernel
theorem d_I_bitCount_11 : decode prog_6_method_49_code 11 = .ok (.ldc_w 266, 3) := by decide +kernel
theorem d_I_bitCount_14 : decode prog_6_method_49_code 14 = .ok (.iand, 1) := by decide +kernel
theorem d_I_bitCount_15 : decode prog_6_method_49_code 15 = .ok (.iload_n 0, 1) := by decide +kernel
theorem d_I_bitCount_16 : decode prog_6_method_49_code 16 = .ok (.iconst 2, 1) := by decide +kernel
theorem d_I_bitCount_17 : decode prog_6_method_49_code 17 = .ok (.iushr, 1) := by decide +kernel
theorem d_I_bitCount_18 : decode prog_6_method_49_code 18 = .ok (.ldc_w 266, 3) := by decide +kernel
theorem d_I_bitCount_21 : decode prog_6_method_49_code 21 = .ok (.iand, 1) := by decide +kernel
theorem d_I_bitCount_22 : decode prog_6_method_49_code 22 = .ok (.iadd, 1) := by decide +kernel
theorem d_I_bitCount_23 : decode prog_6_method_49_code 23 = .ok (.istore_n 0, 1) := by decide +kernel
theorem d_I_bitCount_24 : decode prog_6_method_49_code 24 = .ok (.iload_n 0, 1) := by decide +kernel
theorem d_I_bitCount_25 : decode prog_6_method_49_code 25 = .ok (.iload_n 0, 1) := by decide +kernel
theorem d_I_bitCount_26 : decode prog_6_method_49_code 26 = .ok (.iconst 4, 1) := by decide +kernel
theorem d_I_bitCount_27 : decode prog_6_method_49_code 27 = .ok (.iushr, 1) := by decide +kernel
theorem d_I_bitCount_28 : decode prog_6_method_49_code 28 = .ok (.iadd, 1) := by decide +kernel
theorem d_I_bitCount_29 : decode prog_6_method_49_code 29 = .ok (.ldc_w 267, 3) := by decide +kernel
theorem d_I_bitCount_32 : decode prog_6_method_49_code 32 = .ok (.iand, 1) := by decide +kernel
theorem d_I_bitCount_33 : decode prog_6_method_49_code 33 = .ok (.istore_n 0, 1) := by decide +kernel
theorem d_I_bitCount_34 : decode prog_6_method_49_code 34 = .ok (.iload_n 0, 1) := by decide +kernel
theorem d_I_bitCount_35 : decode prog_6_method_49_code 35 = .ok (.iload_n 0, 1) := by decide +kernel
theorem d_I_bitCount_36 : decode prog_6_method_49_code 36 = .ok (.bipush 8, 2) := by decide +kernel
theorem d_I_bitCount_38 : decode prog_6_method_49_code 38 = .ok (.iushr, 1) := by decide +kernel
theorem d_I_bitCount_39 : decode prog_6_method_49_code 39 = .ok (.iadd, 1) := by decide +kernel
theorem d_I_bitCount_40 : decode prog_6_method_49_code 40 = .ok (.istore_n 0, 1) := by decide +kernel
theorem d_I_bitCount_41 : decode prog_6_method_49_code 41 = .ok (.iload_n 0, 1) := by decide +kernel
theorem d_I_bitCount_42 : decode prog_6_method_49_code 42 = .ok (.iload_n 0, 1) := by decide +kernel
theorem d_I_bitCount_43 : decode prog_6_method_49_code 43 = .ok (.bipush 16, 2) := by decide +kernel
theorem d_I_bitCount_45 : decode prog_6_method_49_code 45 = .ok (.iushr, 1) := by decide +kernel
theorem d_I_bitCount_46 : decode prog_6_method_49_code 46 = .ok (.iadd, 1) := by decide +kernel
theorem d_I_bitCount_47 : decode prog_6_method_49_code 47 = .ok (.istore_n 0, 1) := by decide +kernel
theorem d_I_bitCount_48 : decode prog_6_method_49_code 48 = .ok (.iload_n 0, 1) := by decide +kernel
theorem d_I_bitCount_49 : decode prog_6_method_49_code 49 = .ok (.bipush 63, 2) := by decide +kernel
theorem d_I_bitCount_51 : decode prog_6_method_49_code 51 = .ok (.iand, 1) := by decide +kernel
theorem d_I_bitCount_52 : decode prog_6_method_49_code 52 = .ok (.ireturn, 1) := by decide +kernel
theorem d_R_init_0 : decode prog_5_method_1_code 0 = .ok (.aload_n 0, 1) := by decide +kernel
theorem d_R_init_1 : decode prog_5_method_1_code 1 = .ok (.invokespecial 1, 3) := by decide +kernel
theorem d_R_init_4 : decode prog_5_method_1_code 4 = .ok (.aload_n 0, 1) := by decide +kernel
theorem d_R_init_5 : decode prog_5_method_1_code 5 = .ok (.bipush 10, 2) := by decide +kernel
theorem d_R_init_7 : decode prog_5_method_1_code 7 = .ok (.newarray .int, 2) := by decide +kernel
theorem d_R_init_9 : decode prog_5_method_1_code 9 = .ok (.putfield 7, 3) := by decide +kernel
theorem d_R_init_12 : decode prog_5_method_1_code 12 = .ok (.aload_n 0, 1) := by decide +kernel
theorem d_R_init_13 : decode prog_5_method_1_code 13 = .ok (.bipush 10, 2) := by decide +kernel
theorem d_R_init_15 : decode prog_5_method_1_code 15 = .ok (.newarray .long, 2) := by decide +kernel
theorem d_R_init_17 : decode prog_5_method_1_code 17 = .ok (.putfield 13, 3) := by decide +kernel
theorem d_R_init_20 : decode prog_5_method_1_code 20 = .ok (.aload_n 0, 1) := by decide +kernel
theorem d_R_init_21 : decode prog_5_method_1_code 21 = .ok (.bipush 10, 2) := by decide +kernel
theorem d_R_init_23 : decode prog_5_method_1_code 23 = .ok (.newarray .int, 2) := by decide +kernel
theorem d_R_init_25 : decode prog_5_method_1_code 25 = .ok (.putfield 17, 3) := by decide +kernel
theorem d_R_init_28 : decode prog_5_method_1_code 28 = .ok (.aload_n 0, 1) := by decide +kernel
theorem d_R_init_29 : decode prog_5_method_1_code 29 = .ok (.bipush 10, 2) := by decide +kernel
theorem d_R_init_31 : decode prog_5_method_1_code 31 = .ok (.newarray .int, 2) := by decide +kernel
theorem d_R_init_33 : decode prog_5_method_1_code 33 = .ok (.putfield 20, 3) := by decide +kernel
theorem d_R_init_36 : decode prog_5_method_1_code 36 = .ok (.aload_n 0, 1) := by decide +kernel
theorem d_R_init_37 : decode prog_5_method_1_code 37 = .ok (.bipush 10, 2) := by decide +kernel
theorem d_R_init_39 : decode prog_5_method_1_code 39 = .ok (.newarray .int, 2) := by decide +kernel
theorem d_R_init_41 : decode prog_5_method_1_code 41 = .ok (.putfield 23, 3) := by decide +kernel
theorem d_R_init_44 : decode prog_5_method_1_code 44 = .ok (.aload_n 0, 1) := by decide +kernel
theorem d_R_init_45 : decode prog_5_method_1_code 45 = .ok (.sipush 640, 3) := by decide +kernel
theorem d_R_init_48 : decode prog_5_method_1_code 48 = .ok (.newarray .int, 2) := by decide +kernel
theorem d_R_init_50 : decode prog_5_method_1_code 50 = .ok (.putfield 26, 3) := by decide +kernel
theorem d_R_init_53 : decode prog_5_method_1_code 53 = .ok (.aload_n 0, 1) := by decide +kernel
theorem d_R_init_54 : decode prog_5_method_1_code 54 = .ok (.sipush 640, 3) := by decide +kernel
theorem d_R_init_57 : decode prog_5_method_1_code 57 = .ok (.newarray .int, 2) := by decide +kernel
theorem d_R_init_59 : decode prog_5_method_1_code 59 = .ok (.putfield 29, 3) := by decide +kernel
theorem d_R_init_62 : decode prog_5_method_1_code 62 = .ok (.aload_n 0, 1) := by decide +kernel
theorem d_R_init_63 : decode prog_5_method_1_code 63 = .ok (.sipush 640, 3) := by decide +kernel
theorem d_R_init_66 : decode prog_5_method_1_code 66 = .ok (.newarray .boolean, 2) := by decide +kernel
theorem d_R_init_68 : decode prog_5_method_1_code 68 = .ok (.putfield 32, 3) := by decide +kernel
theorem d_R_init_71 : decode prog_5_method_1_code 71 = .ok (.aload_n 0, 1) := by decide +kernel
theorem d_R_init_72 : decode prog_5_method_1_code 72 = .ok (.sipush 640, 3) := by decide +kernel
theorem d_R_init_75 : decode prog_5_method_1_code 75 = .ok (.newarray .boolean, 2) := by decide +kernel
theorem d_R_init_77 : decode prog_5_method_1_code 77 = .ok (.putfield 36, 3) := by decide +kernel
theorem d_R_init_80 : decode prog_5_method_1_code 80 = .ok (.aload_n 0, 1) := by decide +kernel
theorem d_R_init_81 : decode prog_5_method_1_code 81 = .ok (.bipush 10, 2) := by decide +kernel
theorem d_R_init_83 : decode prog_5_method_1_code 83 = .ok (.newarray .int, 2) := by decide +kernel
theorem d_R_init_85 : decode prog_5_method_1_code 85 = .ok (.putfield 39, 3) := by decide +kernel
theorem d_R_init_88 : decode prog_5_method_1_code 88 = .ok (.aload_n 0, 1) := by decide +kernel
theorem d_R_init_89 : decode prog_5_method_1_code 89 = .ok (.bipush 10, 2) := by decide +kernel
theorem d_R_init_91 : decode prog_5_method_1_code 91 = .ok (.newarray .int, 2) := by decide +kernel
theorem d_R_init_93 : decode prog_5_method_1_code 93 = .ok (.putfield 42, 3) := by decide +kernel
theorem d_R_init_96 : decode prog_5_method_1_code 96 = .ok (.aload_n 0, 1) := by decide +kernel
theorem d_R_init_97 : decode prog_5_method_1_code 97 = .ok (.bipush 60, 2) := by decide +kernel
theorem d_R_init_99 : decode prog_5_method_1_code 99 = .ok (.newarray .int, 2) := by decide +kernel
theorem d_R_init_101 : decode prog_5_method_1_code 101 = .ok (.putfield 45, 3) := by decide +kernel
theorem d_R_init_104 : decode prog_5_method_1_code 104 = .ok (.aload_n 0, 1) := by decide +kernel
theorem d_R_init_105 : decode prog_5_method_1_code 105 = .ok (.sipush 240, 3) := by decide +kernel
theorem d_R_init_108 : decode prog_5_method_1_code 108 = .ok (.newarray .int, 2) := by decide +kernel
theorem d_R_init_110 : decode prog_5_method_1_code 110 = .ok (.putfield 48, 3) := by decide +kernel
theorem d_R_init_113 : decode prog_5_method_1_code 113 = .ok (.aload_n 0, 1) := by decide +kernel
theorem d_R_init_114 : decode prog_5_method_1_code 114 = .ok (.bipush 20, 2) := by decide +kernel
theorem d_R_init_116 : decode prog_5_method_1_code 116 = .ok (.newarray .int, 2) := by decide +kernel
theorem d_R_init_118 : decode prog_5_method_1_code 118 = .ok (.putfield 51, 3) := by decide +kernel
theorem d_R_init_121 : decode prog_5_method_1_code 121 = .ok (.aload_n 0, 1) := by decide +kernel
theorem d_R_init_122 : decode prog_5_method_1_code 122 = .ok (.bipush 20, 2) := by decide +kernel
theorem d_R_init_124 : decode prog_5_method_1_code 124 = .ok (.newarray .long, 2) := by decide +kernel
theorem d_R_init_126 : decode prog_5_method_1_code 126 = .ok (.putfield 54, 3) := by decide +kernel
theorem d_R_init_129 : decode prog_5_method_1_code 129 = .ok (.aload_n 0, 1) := by decide +kernel
theorem d_R_init_130 : decode prog_5_method_1_code 130 = .ok (.bipush 10, 2) := by decide +kernel
theorem d_R_init_132 : decode prog_5_method_1_code 132 = .ok (.newarray .int, 2) := by decide +kernel
theorem d_R_init_134 : decode prog_5_method_1_code 134 = .ok (.putfield 57, 3) := by decide +kernel
theorem d_R_init_137 : decode prog_5_method_1_code 137 = .ok (.return_, 1) := by decide +kernel
theorem d_R_carrier_0 : decode prog_5_method_8_code 0 = .ok (.aload_n 0, 1) := by decide +kernel
theorem d_R_carrier_1 : decode prog_5_method_8_code 1 = .ok (.getfield 60, 3) := by decide +kernel
theorem d_R_carrier_4 : decode prog_5_method_8_code 4 = .ok (.bipush 10, 2) := by decide +kernel
theorem d_R_carrier_6 : decode prog_5_method_8_code 6 = .ok (.if_icmp .eq 47, 3) := by decide +kernel
theorem d_R_carrier_9 : decode prog_5_method_8_code 9 = .ok (.iload_n 1, 1) := by decide +kernel
theorem d_R_carrier_10 : decode prog_5_method_8_code 10 = .ok (.i2l, 1) := by decide +kernel
theorem d_R_carrier_11 : decode prog_5_method_8_code 11 = .ok (.lconst 0, 1) := by decide +kernel
theorem d_R_carrier_12 : decode prog_5_method_8_code 12 = .ok (.ldc2_w 68, 3) := by decide +kernel
theorem d_R_carrier_15 : decode prog_5_method_8_code 15 = .ok (.invokestatic 70, 3) := by decide +kernel
theorem d_R_carrier_18 : decode prog_5_method_8_code 18 = .ok (.ifCond .eq 35, 3) := by decide +kernel
theorem d_R_carrier_21 : decode prog_5_method_8_code 21 = .ok (.lload_n 2, 1) := by decide +kernel
theorem d_R_carrier_22 : decode prog_5_method_8_code 22 = .ok (.lconst 0, 1) := by decide +kernel
theorem d_R_carrier_23 : decode prog_5_method_8_code 23 = .ok (.ldc2_w 74, 3) := by decide +kernel
theorem d_R_carrier_26 : decode prog_5_method_8_code 26 = .ok (.invokestatic 70, 3) := by decide +kernel
theorem d_R_carrier_29 : decode prog_5_method_8_code 29 = .ok (.ifCond .eq 24, 3) := by decide +kernel
theorem d_R_carrier_32 : decode prog_5_method_8_code 32 = .ok (.iload 4, 2) := by decide +kernel
theorem d_R_carrier_34 : decode prog_5_method_8_code 34 = .ok (.i2l, 1) := by decide +kernel
theorem d_R_carrier_35 : decode prog_5_method_8_code 35 = .ok (.lconst 1, 1) := by decide +kernel
theorem d_R_carrier_36 : decode prog_5_method_8_code 36 = .ok (.ldc2_w 76, 3) := by decide +kernel
theorem d_R_carrier_39 : decode prog_5_method_8_code 39 = .ok (.invokestatic 70, 3) := by decide +kernel
theorem d_R_carrier_42 : decode prog_5_method_8_code 42 = .ok (.ifCond .eq 11, 3) := by decide +kernel
theorem d_R_carrier_45 : decode prog_5_method_8_code 45 = .ok (.aload_n 0, 1) := by decide +kernel
theorem d_R_carrier_46 : decode prog_5_method_8_code 46 = .ok (.lload_n 2, 1) := by decide +kernel
theorem d_R_carrier_47 : decode prog_5_method_8_code 47 = .ok (.invokevirtual 78, 3) := by decide +kernel
theorem d_R_carrier_50 : decode prog_5_method_8_code 50 = .ok (.ifCond .eq 5, 3) := by decide +kernel
theorem d_R_carrier_53 : decode prog_5_method_8_code 53 = .ok (.iconst (-1), 1) := by decide +kernel
theorem d_R_carrier_54 : decode prog_5_method_8_code 54 = .ok (.ireturn, 1) := by decide +kernel
theorem d_R_carrier_55 : decode prog_5_method_8_code 55 = .ok (.aload_n 0, 1) := by decide +kernel
theorem d_R_carrier_56 : decode prog_5_method_8_code 56 = .ok (.getfield 7, 3) := by decide +kernel
theorem d_R_carrier_59 : decode prog_5_method_8_code 59 = .ok (.aload_n 0, 1) := by decide +kernel
theorem d_R_carrier_60 : decode prog_5_method_8_code 60 = .ok (.getfield 60, 3) := by decide +kernel
theorem d_R_carrier_63 : decode prog_5_method_8_code 63 = .ok (.iload_n 1, 1) := by decide +kernel
theorem d_R_carrier_64 : decode prog_5_method_8_code 64 = .ok (.iastore, 1) := by decide +kernel
theorem d_R_carrier_65 : decode prog_5_method_8_code 65 = .ok (.aload_n 0, 1) := by decide +kernel
theorem d_R_carrier_66 : decode prog_5_method_8_code 66 = .ok (.getfield 13, 3) := by decide +kernel
theorem d_R_carrier_69 : decode prog_5_method_8_code 69 = .ok (.aload_n 0, 1) := by decide +kernel
theorem d_R_carrier_70 : decode prog_5_method_8_code 70 = .ok (.getfield 60, 3) := by decide +kernel
theorem d_R_carrier_73 : decode prog_5_method_8_code 73 = .ok (.lload_n 2, 1) := by decide +kernel
theorem d_R_carrier_74 : decode prog_5_method_8_code 74 = .ok (.lastore, 1) := by decide +kernel
theorem d_R_carrier_75 : decode prog_5_method_8_code 75 = .ok (.aload_n 0, 1) := by decide +kernel
theorem d_R_carrier_76 : decode prog_5_method_8_code 76 = .ok (.getfield 17, 3) := by decide +kernel
theorem d_R_carrier_79 : decode prog_5_method_8_code 79 = .ok (.aload_n 0, 1) := by decide +kernel
theorem d_R_carrier_80 : decode prog_5_method_8_code 80 = .ok (.getfield 60, 3) := by decide +kernel
theorem d_R_carrier_83 : decode prog_5_method_8_code 83 = .ok (.iload 4, 2) := by decide +kernel
theorem d_R_carrier_85 : decode prog_5_method_8_code 85 = .ok (.iastore, 1) := by decide +kernel
theorem d_R_carrier_86 : decode prog_5_method_8_code 86 = .ok (.aload_n 0, 1) := by decide +kernel
theorem d_R_carrier_87 : decode prog_5_method_8_code 87 = .ok (.getfield 23, 3) := by decide +kernel
theorem d_R_carrier_90 : decode prog_5_method_8_code 90 = .ok (.aload_n 0, 1) := by decide +kernel
theorem d_R_carrier_91 : decode prog_5_method_8_code 91 = .ok (.getfield 60, 3) := by decide +kernel
theorem d_R_carrier_94 : decode prog_5_method_8_code 94 = .ok (.iconst (-1), 1) := by decide +kernel
theorem d_R_carrier_95 : decode prog_5_method_8_code 95 = .ok (.iastore, 1) := by decide +kernel
theorem d_R_carrier_96 : decode prog_5_method_8_code 96 = .ok (.aload_n 0, 1) := by decide +kernel
theorem d_R_carrier_97 : decode prog_5_method_8_code 97 = .ok (.dup, 1) := by decide +kernel
theorem d_R_carrier_98 : decode prog_5_method_8_code 98 = .ok (.getfield 60, 3) := by decide +kernel
theorem d_R_carrier_101 : decode prog_5_method_8_code 101 = .ok (.iconst 1, 1) := by decide +kernel
theorem d_R_carrier_102 : decode prog_5_method_8_code 102 = .ok (.iadd, 1) := by decide +kernel
theorem d_R_carrier_103 : decode prog_5_method_8_code 103 = .ok (.putfield 60, 3) := by decide +kernel
theorem d_R_carrier_106 : decode prog_5_method_8_code 106 = .ok (.aload_n 0, 1) := by decide +kernel
theorem d_R_carrier_107 : decode prog_5_method_8_code 107 = .ok (.getfield 60, 3) := by decide +kernel
theorem d_R_carrier_110 : decode prog_5_method_8_code 110 = .ok (.iconst 1, 1) := by decide +kernel
theorem d_R_carrier_111 : decode prog_5_method_8_code 111 = .ok (.isub, 1) := by decide +kernel
theorem d_R_carrier_112 : decode prog_5_method_8_code 112 = .ok (.ireturn, 1) := by decide +kernel
theorem d_R_isIn_0 : decode prog_5_method_3_code 0 = .ok (.lload_n 0, 1) := by decide +kernel
theorem d_R_isIn_1 : decode prog_5_method_3_code 1 = .ok (.lload_n 2, 1) := by decide +kernel
theorem d_R_isIn_2 : decode prog_5_method_3_code 2 = .ok (.lcmp, 1) := by decide +kernel
theorem d_R_isIn_3 : decode prog_5_method_3_code 3 = .ok (.ifCond .lt 14, 3) := by decide +kernel
theorem d_R_isIn_6 : decode prog_5_method_3_code 6 = .ok (.lload_n 0, 1) := by decide +kernel
theorem d_R_isIn_7 : decode prog_5_method_3_code 7 = .ok (.lload 4, 2) := by decide +kernel
theorem d_R_isIn_9 : decode prog_5_method_3_code 9 = .ok (.lcmp, 1) := by decide +kernel
theorem d_R_isIn_10 : decode prog_5_method_3_code 10 = .ok (.ifCond .gt 7, 3) := by decide +kernel
theorem d_R_isIn_13 : decode prog_5_method_3_code 13 = .ok (.iconst 1, 1) := by decide +kernel
theorem d_R_isIn_14 : decode prog_5_method_3_code 14 = .ok (.goto 4, 3) := by decide +kernel
theorem d_R_isIn_17 : decode prog_5_method_3_code 17 = .ok (.iconst 0, 1) := by decide +kernel
theorem d_R_isIn_18 : decode prog_5_method_3_code 18 = .ok (.ireturn, 1) := by decide +kernel
theorem d_R_hasSerial_0 : decode prog_5_method_7_code 0 = .ok (.iconst 0, 1) := by decide +kernel
theorem d_R_hasSerial_1 : decode prog_5_method_7_code 1 = .ok (.istore_n 3, 1) := by decide +kernel
theorem d_R_hasSerial_2 : decode prog_5_method_7_code 2 = .ok (.iconst 0, 1) := by decide +kernel
theorem d_R_hasSerial_3 : decode prog_5_method_7_code 3 = .ok (.istore 4, 2) := by decide +kernel
theorem d_R_hasSerial_5 : decode prog_5_method_7_code 5 = .ok (.iload 4, 2) := by decide +kernel
theorem d_R_hasSerial_7 : decode prog_5_method_7_code 7 = .ok (.aload_n 0, 1) := by decide +kernel
theorem d_R_hasSerial_8 : decode prog_5_method_7_code 8 = .ok (.getfield 60, 3) := by decide +kernel
theorem d_R_hasSerial_11 : decode prog_5_method_7_code 11 = .ok (.if_icmp .ge 31, 3) := by decide +kernel
theorem d_R_hasSerial_14 : decode prog_5_method_7_code 14 = .ok (.iload_n 3, 1) := by decide +kernel
theorem d_R_hasSerial_15 : decode prog_5_method_7_code 15 = .ok (.ifCond .ne 15, 3) := by decide +kernel
theorem d_R_hasSerial_18 : decode prog_5_method_7_code 18 = .ok (.aload_n 0, 1) := by decide +kernel
theorem d_R_hasSerial_19 : decode prog_5_method_7_code 19 = .ok (.getfield 13, 3) := by decide +kernel
theorem d_R_hasSerial_22 : decode prog_5_method_7_code 22 = .ok (.iload 4, 2) := by decide +kernel
theorem d_R_hasSerial_24 : decode prog_5_method_7_code 24 = .ok (.laload, 1) := by decide +kernel
theorem d_R_hasSerial_25 : decode prog_5_method_7_code 25 = .ok (.lload_n 1, 1) := by decide +kernel
theorem d_R_hasSerial_26 : decode prog_5_method_7_code 26 = .ok (.lcmp, 1) := by decide +kernel
theorem d_R_hasSerial_27 : decode prog_5_method_7_code 27 = .ok (.ifCond .ne 7, 3) := by decide +kernel
theorem d_R_hasSerial_30 : decode prog_5_method_7_code 30 = .ok (.iconst 1, 1) := by decide +kernel
theorem d_R_hasSerial_31 : decode prog_5_method_7_code 31 = .ok (.goto 4, 3) := by decide +kernel
theorem d_R_hasSerial_34 : decode prog_5_method_7_code 34 = .ok (.iconst 0, 1) := by decide +kernel
theorem d_R_hasSerial_35 : decode prog_5_method_7_code 35 = .ok (.istore_n 3, 1) := by decide +kernel
theorem d_R_hasSerial_36 : decode prog_5_method_7_code 36 = .ok (.iinc 4 1, 3) := by decide +kernel
theorem d_R_hasSerial_39 : decode prog_5_method_7_code 39 = .ok (.goto (-34), 3) := by decide +kernel
theorem d_R_hasSerial_42 : decode prog_5_method_7_code 42 = .ok (.iload_n 3, 1) := by decide +kernel
theorem d_R_hasSerial_43 : decode prog_5_method_7_code 43 = .ok (.ireturn, 1) := by decide +kernel
theorem d_R_state_0 : decode prog_5_method_9_code 0 = .ok (.aload_n 0, 1) := by decide +kernel
theorem d_R_state_1 : decode prog_5_method_9_code 1 = .ok (.iload_n 1, 1) := by decide +kernel
theorem d_R_state_2 : decode prog_5_method_9_code 2 = .ok (.invokevirtual 64, 3) := by decide +kernel
theorem d_R_state_5 : decode prog_5_method_9_code 5 = .ok (.ifCond .eq 12, 3) := by decide +kernel
theorem d_R_state_8 : decode prog_5_method_9_code 8 = .ok (.aload_n 0, 1) := by decide +kernel
theorem d_R_state_9 : decode prog_5_method_9_code 9 = .ok (.getfield 20, 3) := by decide +kernel
theorem d_R_state_12 : decode prog_5_method_9_code 12 = .ok (.iload_n 1, 1) := by decide +kernel
theorem d_R_state_13 : decode prog_5_method_9_code 13 = .ok (.iaload, 1) := by decide +kernel
theorem d_R_state_14 : decode prog_5_method_9_code 14 = .ok (.goto 4, 3) := by decide +kernel
theorem d_R_state_17 : decode prog_5_method_9_code 17 = .ok (.iconst (-1), 1) := by decide +kernel
theorem d_R_state_18 : decode prog_5_method_9_code 18 = .ok (.ireturn, 1) := by decide +kernel
theorem d_R_isCarrier_0 : decode prog_5_method_4_code 0 = .ok (.iload_n 1, 1) := by decide +kernel
theorem d_R_isCarrier_1 : decode prog_5_method_4_code 1 = .ok (.ifCond .lt 15, 3) := by decide +kernel
theorem d_R_isCarrier_4 : decode prog_5_method_4_code 4 = .ok (.iload_n 1, 1) := by decide +kernel
theorem d_R_isCarrier_5 : decode prog_5_method_4_code 5 = .ok (.aload_n 0, 1) := by decide +kernel
theorem d_R_isCarrier_6 : decode prog_5_method_4_code 6 = .ok (.getfield 60, 3) := by decide +kernel
theorem d_R_isCarrier_9 : decode prog_5_method_4_code 9 = .ok (.if_icmp .ge 7, 3) := by decide +kernel
theorem d_R_isCarrier_12 : decode prog_5_method_4_code 12 = .ok (.iconst 1, 1) := by decide +kernel
theorem d_R_isCarrier_13 : decode prog_5_method_4_code 13 = .ok (.goto 4, 3) := by decide +kernel
theorem d_R_isCarrier_16 : decode prog_5_method_4_code 16 = .ok (.iconst 0, 1) := by decide +kernel
theorem d_R_isCarrier_17 : decode prog_5_method_4_code 17 = .ok (.ireturn, 1) := by decide +kernel
theorem d_R_event_0 : decode prog_5_method_11_code 0 = .ok (.aload_n 0, 1) := by decide +kernel
theorem d_R_event_1 : decode prog_5_method_11_code 1 = .ok (.iload_n 1, 1) := by decide +kernel
theorem d_R_event_2 : decode prog_5_method_11_code 2 = .ok (.invokevirtual 64, 3) := by decide +kernel
theorem d_R_event_5 : decode prog_5_method_11_code 5 = .ok (.ifCond .eq 28, 3) := by decide +kernel
theorem d_R_event_8 : decode prog_5_method_11_code 8 = .ok (.iload_n 3, 1) := by decide +kernel
theorem d_R_event_9 : decode prog_5_method_11_code 9 = .ok (.i2l, 1) := by decide +kernel
theorem d_R_event_10 : decode prog_5_method_11_code 10 = .ok (.lconst 0, 1) := by decide +kernel
theorem d_R_event_11 : decode prog_5_method_11_code 11 = .ok (.ldc2_w 82, 3) := by decide +kernel
theorem d_R_event_14 : decode prog_5_method_11_code 14 = .ok (.invokestatic 70, 3) := by decide +kernel
theorem d_R_event_17 : decode prog_5_method_11_code 17 = .ok (.ifCond .eq 16, 3) := by decide +kernel
theorem d_R_event_20 : decode prog_5_method_11_code 20 = .ok (.iload_n 2, 1) := by decide +kernel
theorem d_R_event_21 : decode prog_5_method_11_code 21 = .ok (.aload_n 0, 1) := by decide +kernel
theorem d_R_event_22 : decode prog_5_method_11_code 22 = .ok (.getfield 20, 3) := by decide +kernel
theorem d_R_event_25 : decode prog_5_method_11_code 25 = .ok (.iload_n 1, 1) := by decide +kernel
theorem d_R_event_26 : decode prog_5_method_11_code 26 = .ok (.iaload, 1) := by decide +kernel
theorem d_R_event_27 : decode prog_5_method_11_code 27 = .ok (.invokestatic 84, 3) := by decide +kernel
theorem d_R_event_30 : decode prog_5_method_11_code 30 = .ok (.ifCond .ge 5, 3) := by decide +kernel
theorem d_R_event_33 : decode prog_5_method_11_code 33 = .ok (.iconst 0, 1) := by decide +kernel
theorem d_R_event_34 : decode prog_5_method_11_code 34 = .ok (.ireturn, 1) := by decide +kernel
theorem d_R_event_35 : decode prog_5_method_11_code 35 = .ok (.aload_n 0, 1) := by decide +kernel
theorem d_R_event_36 : decode prog_5_method_11_code 36 = .ok (.getfield 20, 3) := by decide +kernel
theorem d_R_event_39 : decode prog_5_method_11_code 39 = .ok (.iload_n 1, 1) := by decide +kernel
theorem d_R_event_40 : decode prog_5_method_11_code 40 = .ok (.iload_n 2, 1) := by decide +kernel
theorem d_R_event_41 : decode prog_5_method_11_code 41 = .ok (.aload_n 0, 1) := by decide +kernel
theorem d_R_event_42 : decode prog_5_method_11_code 42 = .ok (.getfield 20, 3) := by decide +kernel
theorem d_R_event_45 : decode prog_5_method_11_code 45 = .ok (.iload_n 1, 1) := by decide +kernel
theorem d_R_event_46 : decode prog_5_method_11_code 46 = .ok (.iaload, 1) := by decide +kernel
theorem d_R_event_47 : decode prog_5_method_11_code 47 = .ok (.invokestatic 84, 3) := by decide +kernel
theorem d_R_event_50 : decode prog_5_method_11_code 50 = .ok (.iastore, 1) := by decide +kernel
theorem d_R_event_51 : decode prog_5_method_11_code 51 = .ok (.aload_n 0, 1) := by decide +kernel
theorem d_R_event_52 : decode prog_5_method_11_code 52 = .ok (.getfield 23, 3) := by decide +kernel
theorem d_R_event_55 : decode prog_5_method_11_code 55 = .ok (.iload_n 1, 1) := by decide +kernel
theorem d_R_event_56 : decode prog_5_method_11_code 56 = .ok (.iload_n 3, 1) := by decide +kernel
theorem d_R_event_57 : decode prog_5_method_11_code 57 = .ok (.iastore, 1) := by decide +kernel
theorem d_R_event_58 : decode prog_5_method_11_code 58 = .ok (.iload_n 2, 1) := by decide +kernel
theorem d_R_event_59 : decode prog_5_method_11_code 59 = .ok (.iconst 3, 1) := by decide +kernel
theorem d_R_event_60 : decode prog_5_method_11_code 60 = .ok (.if_icmp .ne 15, 3) := by decide +kernel
theorem d_R_event_63 : decode prog_5_method_11_code 63 = .ok (.aload_n 0, 1) := by decide +kernel
theorem d_R_event_64 : decode prog_5_method_11_code 64 = .ok (.getfield 42, 3) := by decide +kernel
theorem d_R_event_67 : decode prog_5_method_11_code 67 = .ok (.iload_n 1, 1) := by decide +kernel
theorem d_R_event_68 : decode prog_5_method_11_code 68 = .ok (.iconst 0, 1) := by decide +kernel
theorem d_R_event_69 : decode prog_5_method_11_code 69 = .ok (.iastore, 1) := by decide +kernel
theorem d_R_event_70 : decode prog_5_method_11_code 70 = .ok (.aload_n 0, 1) := by decide +kernel
theorem d_R_event_71 : decode prog_5_method_11_code 71 = .ok (.iload_n 1, 1) := by decide +kernel
theorem d_R_event_72 : decode prog_5_method_11_code 72 = .ok (.invokevirtual 88, 3) := by decide +kernel
theorem d_R_event_75 : decode prog_5_method_11_code 75 = .ok (.iconst 1, 1) := by decide +kernel
theorem d_R_event_76 : decode prog_5_method_11_code 76 = .ok (.ireturn, 1) := by decide +kernel
theorem d_R_leads_0 : decode prog_5_method_10_code 0 = .ok (.iload_n 0, 1) := by decide +kernel
theorem d_R_leads_1 : decode prog_5_method_10_code 1 = .ok (.tableswitch 89 0 4 #[35, 45, 56, 67, 78], 35) := by decide +kernel
theorem d_R_leads_36 : decode prog_5_method_10_code 36 = .ok (.iload_n 1, 1) := by decide +kernel
theorem d_R_leads_37 : decode prog_5_method_10_code 37 = .ok (.ifCond .ne 7, 3) := by decide +kernel
theorem d_R_leads_40 : decode prog_5_method_10_code 40 = .ok (.iconst 1, 1) := by decide +kernel
theorem d_R_leads_41 : decode prog_5_method_10_code 41 = .ok (.goto 4, 3) := by decide +kernel
theorem d_R_leads_44 : decode prog_5_method_10_code 44 = .ok (.iconst (-1), 1) := by decide +kernel
theorem d_R_leads_45 : decode prog_5_method_10_code 45 = .ok (.ireturn, 1) := by decide +kernel
theorem d_R_leads_46 : decode prog_5_method_10_code 46 = .ok (.iload_n 1, 1) := by decide +kernel
theorem d_R_leads_47 : decode prog_5_method_10_code 47 = .ok (.iconst 1, 1) := by decide +kernel
theorem d_R_leads_48 : decode prog_5_method_10_code 48 = .ok (.if_icmp .ne 7, 3) := by decide +kernel
theorem d_R_leads_51 : decode prog_5_method_10_code 51 = .ok (.iconst 0, 1) := by decide +kernel
theorem d_R_leads_52 : decode prog_5_method_10_code 52 = .ok (.goto 4, 3) := by decide +kernel
theorem d_R_leads_55 : decode prog_5_method_10_code 55 = .ok (.iconst (-1), 1) := by decide +kernel
theorem d_R_leads_56 : decode prog_5_method_10_code 56 = .ok (.ireturn, 1) := by decide +kernel
theorem d_R_leads_57 : decode prog_5_method_10_code 57 = .ok (.iload_n 1, 1) := by decide +kernel
theorem d_R_leads_58 : decode prog_5_method_10_code 58 = .ok (.iconst 3, 1) := by decide +kernel
theorem d_R_leads_59 : decode prog_5_method_10_code 59 = .ok (.if_icmp .gt 7, 3) := by decide +kernel
theorem d_R_leads_62 : decode prog_5_method_10_code 62 = .ok (.iconst 4, 1) := by decide +kernel
theorem d_R_leads_63 : decode prog_5_method_10_code 63 = .ok (.goto 4, 3) := by decide +kernel
theorem d_R_leads_66 : decode prog_5_method_10_code 66 = .ok (.iconst (-1), 1) := by decide +kernel
theorem d_R_leads_67 : decode prog_5_method_10_code 67 = .ok (.ireturn, 1) := by decide +kernel
theorem d_R_leads_68 : decode prog_5_method_10_code 68 = .ok (.iload_n 1, 1) := by decide +kernel
theorem d_R_leads_69 : decode prog_5_method_10_code 69 = .ok (.iconst 1, 1) := by decide +kernel
theorem d_R_leads_70 : decode prog_5_method_10_code 70 = .ok (.if_icmp .ne 7, 3) := by decide +kernel
theorem d_R_leads_73 : decode prog_5_method_10_code 73 = .ok (.iconst 2, 1) := by decide +kernel
theorem d_R_leads_74 : decode prog_5_method_10_code 74 = .ok (.goto 4, 3) := by decide +kernel
theorem d_R_leads_77 : decode prog_5_method_10_code 77 = .ok (.iconst (-1), 1) := by decide +kernel
theorem d_R_leads_78 : decode prog_5_method_10_code 78 = .ok (.ireturn, 1) := by decide +kernel
theorem d_R_leads_79 : decode prog_5_method_10_code 79 = .ok (.iload_n 1, 1) := by decide +kernel
theorem d_R_leads_80 : decode prog_5_method_10_code 80 = .ok (.iconst 3, 1) := by decide +kernel
theorem d_R_leads_81 : decode prog_5_method_10_code 81 = .ok (.if_icmp .ne 7, 3) := by decide +kernel
theorem d_R_leads_84 : decode prog_5_method_10_code 84 = .ok (.iconst 1, 1) := by decide +kernel
theorem d_R_leads_85 : decode prog_5_method_10_code 85 = .ok (.goto 4, 3) := by decide +kernel
theorem d_R_leads_88 : decode prog_5_method_10_code 88 = .ok (.iconst (-1), 1) := by decide +kernel
theorem d_R_leads_89 : decode prog_5_method_10_code 89 = .ok (.ireturn, 1) := by decide +kernel
theorem d_R_leads_90 : decode prog_5_method_10_code 90 = .ok (.iconst (-1), 1) := by decide +kernel
theorem d_R_leads_91 : decode prog_5_method_10_code 91 = .ok (.ireturn, 1) := by decide +kernel
theorem d_R_forget_0 : decode prog_5_method_15_code 0 = .ok (.aload_n 0, 1) := by decide +kernel
theorem d_R_forget_1 : decode prog_5_method_15_code 1 = .ok (.getfield 39, 3) := by decide +kernel
theorem d_R_forget_4 : decode prog_5_method_15_code 4 = .ok (.iload_n 1, 1) := by decide +kernel
theorem d_R_forget_5 : decode prog_5_method_15_code 5 = .ok (.iconst 0, 1) := by decide +kernel
theorem d_R_forget_6 : decode prog_5_method_15_code 6 = .ok (.iastore, 1) := by decide +kernel
theorem d_R_forget_7 : decode prog_5_method_15_code 7 = .ok (.iconst 0, 1) := by decide +kernel
theorem d_R_forget_8 : decode prog_5_method_15_code 8 = .ok (.istore_n 2, 1) := by decide +kernel
theorem d_R_forget_9 : decode prog_5_method_15_code 9 = .ok (.iload_n 2, 1) := by decide +kernel
theorem d_R_forget_10 : decode prog_5_method_15_code 10 = .ok (.bipush 64, 2) := by decide +kernel
theorem d_R_forget_12 : decode prog_5_method_15_code 12 = .ok (.if_icmp .ge 21, 3) := by decide +kernel
theorem d_R_forget_15 : decode prog_5_method_15_code 15 = .ok (.aload_n 0, 1) := by decide +kernel
theorem d_R_forget_16 : decode prog_5_method_15_code 16 = .ok (.getfield 36, 3) := by decide +kernel
theorem d_R_forget_19 : decode prog_5_method_15_code 19 = .ok (.bipush 64, 2) := by decide +kernel
theorem d_R_forget_21 : decode prog_5_method_15_code 21 = .ok (.iload_n 1, 1) := by decide +kernel
theorem d_R_forget_22 : decode prog_5_method_15_code 22 = .ok (.imul, 1) := by decide +kernel
theorem d_R_forget_23 : decode prog_5_method_15_code 23 = .ok (.iload_n 2, 1) := by decide +kernel
theorem d_R_forget_24 : decode prog_5_method_15_code 24 = .ok (.iadd, 1) := by decide +kernel
theorem d_R_forget_25 : decode prog_5_method_15_code 25 = .ok (.iconst 0, 1) := by decide +kernel
theorem d_R_forget_26 : decode prog_5_method_15_code 26 = .ok (.bastore, 1) := by decide +kernel
theorem d_R_forget_27 : decode prog_5_method_15_code 27 = .ok (.iinc 2 1, 3) := by decide +kernel
theorem d_R_forget_30 : decode prog_5_method_15_code 30 = .ok (.goto (-21), 3) := by decide +kernel
theorem d_R_forget_33 : decode prog_5_method_15_code 33 = .ok (.return_, 1) := by decide +kernel
theorem d_R_last_0 : decode prog_5_method_12_code 0 = .ok (.aload_n 0, 1) := by decide +kernel
theorem d_R_last_1 : decode prog_5_method_12_code 1 = .ok (.iload_n 1, 1) := by decide +kernel
theorem d_R_last_2 : decode prog_5_method_12_code 2 = .ok (.invokevirtual 64, 3) := by decide +kernel
theorem d_R_last_5 : decode prog_5_method_12_code 5 = .ok (.ifCond .eq 12, 3) := by decide +kernel
theorem d_R_last_8 : decode prog_5_method_12_code 8 = .ok (.aload_n 0, 1) := by decide +kernel
theorem d_R_last_9 : decode prog_5_method_12_code 9 = .ok (.getfield 23, 3) := by decide +kernel
theorem d_R_last_12 : decode prog_5_method_12_code 12 = .ok (.iload_n 1, 1) := by decide +kernel
theorem d_R_last_13 : decode prog_5_method_12_code 13 = .ok (.iaload, 1) := by decide +kernel
theorem d_R_last_14 : decode prog_5_method_12_code 14 = .ok (.goto 4, 3) := by decide +kernel
theorem d_R_last_17 : decode prog_5_method_12_code 17 = .ok (.iconst (-1), 1) := by decide +kernel
theorem d_R_last_18 : decode prog_5_method_12_code 18 = .ok (.ireturn, 1) := by decide +kernel
theorem d_R_fail_0 : decode prog_5_method_13_code 0 = .ok (.aload_n 0, 1) := by decide +kernel
theorem d_R_fail_1 : decode prog_5_method_13_code 1 = .ok (.iload_n 1, 1) := by decide +kernel
theorem d_R_fail_2 : decode prog_5_method_13_code 2 = .ok (.iload_n 2, 1) := by decide +kernel
theorem d_R_fail_3 : decode prog_5_method_13_code 3 = .ok (.invokevirtual 92, 3) := by decide +kernel
theorem d_R_fail_6 : decode prog_5_method_13_code 6 = .ok (.ifCond .eq 25, 3) := by decide +kernel
theorem d_R_fail_9 : decode prog_5_method_13_code 9 = .ok (.aload_n 0, 1) := by decide +kernel
theorem d_R_fail_10 : decode prog_5_method_13_code 10 = .ok (.getfield 32, 3) := by decide +kernel
theorem d_R_fail_13 : decode prog_5_method_13_code 13 = .ok (.bipush 64, 2) := by decide +kernel
theorem d_R_fail_15 : decode prog_5_method_13_code 15 = .ok (.iload_n 1, 1) := by decide +kernel
theorem d_R_fail_16 : decode prog_5_method_13_code 16 = .ok (.imul, 1) := by decide +kernel
theorem d_R_fail_17 : decode prog_5_method_13_code 17 = .ok (.iload_n 2, 1) := by decide +kernel
theorem d_R_fail_18 : decode prog_5_method_13_code 18 = .ok (.iadd, 1) := by decide +kernel
theorem d_R_fail_19 : decode prog_5_method_13_code 19 = .ok (.baload, 1) := by decide +kernel
theorem d_R_fail_20 : decode prog_5_method_13_code 20 = .ok (.ifCond .ne 11, 3) := by decide +kernel
theorem d_R_fail_23 : decode prog_5_method_13_code 23 = .ok (.aload_n 0, 1) := by decide +kernel
theorem d_R_fail_24 : decode prog_5_method_13_code 24 = .ok (.iload_n 1, 1) := by decide +kernel
theorem d_R_fail_25 : decode prog_5_method_13_code 25 = .ok (.invokevirtual 96, 3) := by decide +kernel
theorem d_R_fail_28 : decode prog_5_method_13_code 28 = .ok (.ifCond .eq 5, 3) := by decide +kernel
theorem d_R_fail_31 : decode prog_5_method_13_code 31 = .ok (.iconst 0, 1) := by decide +kernel
theorem d_R_fail_32 : decode prog_5_method_13_code 32 = .ok (.ireturn, 1) := by decide +kernel
theorem d_R_fail_33 : decode prog_5_method_13_code 33 = .ok (.aload_n 0, 1) := by decide +kernel
theorem d_R_fail_34 : decode prog_5_method_13_code 34 = .ok (.getfield 32, 3) := by decide +kernel
theorem d_R_fail_37 : decode prog_5_method_13_code 37 = .ok (.bipush 64, 2) := by decide +kernel
theorem d_R_fail_39 : decode prog_5_method_13_code 39 = .ok (.iload_n 1, 1) := by decide +kernel
theorem d_R_fail_40 : decode prog_5_method_13_code 40 = .ok (.imul, 1) := by decide +kernel
theorem d_R_fail_41 : decode prog_5_method_13_code 41 = .ok (.iload_n 2, 1) := by decide +kernel
theorem d_R_fail_42 : decode prog_5_method_13_code 42 = .ok (.iadd, 1) := by decide +kernel
theorem d_R_fail_43 : decode prog_5_method_13_code 43 = .ok (.iconst 1, 1) := by decide +kernel
theorem d_R_fail_44 : decode prog_5_method_13_code 44 = .ok (.bastore, 1) := by decide +kernel
theorem d_R_fail_45 : decode prog_5_method_13_code 45 = .ok (.iconst 1, 1) := by decide +kernel
theorem d_R_fail_46 : decode prog_5_method_13_code 46 = .ok (.ireturn, 1) := by decide +kernel
theorem d_R_isPlace_0 : decode prog_5_method_5_code 0 = .ok (.aload_n 0, 1) := by decide +kernel
theorem d_R_isPlace_1 : decode prog_5_method_5_code 1 = .ok (.iload_n 1, 1) := by decide +kernel
theorem d_R_isPlace_2 : decode prog_5_method_5_code 2 = .ok (.invokevirtual 64, 3) := by decide +kernel
theorem d_R_isPlace_5 : decode prog_5_method_5_code 5 = .ok (.ifCond .eq 21, 3) := by decide +kernel
theorem d_R_isPlace_8 : decode prog_5_method_5_code 8 = .ok (.iload_n 2, 1) := by decide +kernel
theorem d_R_isPlace_9 : decode prog_5_method_5_code 9 = .ok (.ifCond .lt 17, 3) := by decide +kernel
theorem d_R_isPlace_12 : decode prog_5_method_5_code 12 = .ok (.iload_n 2, 1) := by decide +kernel
theorem d_R_isPlace_13 : decode prog_5_method_5_code 13 = .ok (.aload_n 0, 1) := by decide +kernel
theorem d_R_isPlace_14 : decode prog_5_method_5_code 14 = .ok (.getfield 17, 3) := by decide +kernel
theorem d_R_isPlace_17 : decode prog_5_method_5_code 17 = .ok (.iload_n 1, 1) := by decide +kernel
theorem d_R_isPlace_18 : decode prog_5_method_5_code 18 = .ok (.iaload, 1) := by decide +kernel
theorem d_R_isPlace_19 : decode prog_5_method_5_code 19 = .ok (.if_icmp .ge 7, 3) := by decide +kernel
theorem d_R_isPlace_22 : decode prog_5_method_5_code 22 = .ok (.iconst 1, 1) := by decide +kernel
theorem d_R_isPlace_23 : decode prog_5_method_5_code 23 = .ok (.goto 4, 3) := by decide +kernel
theorem d_R_isPlace_26 : decode prog_5_method_5_code 26 = .ok (.iconst 0, 1) := by decide +kernel
theorem d_R_isPlace_27 : decode prog_5_method_5_code 27 = .ok (.ireturn, 1) := by decide +kernel
theorem d_R_isGone_0 : decode prog_5_method_6_code 0 = .ok (.aload_n 0, 1) := by decide +kernel
theorem d_R_isGone_1 : decode prog_5_method_6_code 1 = .ok (.getfield 20, 3) := by decide +kernel
theorem d_R_isGone_4 : decode prog_5_method_6_code 4 = .ok (.iload_n 1, 1) := by decide +kernel
theorem d_R_isGone_5 : decode prog_5_method_6_code 5 = .ok (.iaload, 1) := by decide +kernel
theorem d_R_isGone_6 : decode prog_5_method_6_code 6 = .ok (.iconst 5, 1) := by decide +kernel
theorem d_R_isGone_7 : decode prog_5_method_6_code 7 = .ok (.if_icmp .eq 14, 3) := by decide +kernel
theorem d_R_isGone_10 : decode prog_5_method_6_code 10 = .ok (.aload_n 0, 1) := by decide +kernel
theorem d_R_isGone_11 : decode prog_5_method_6_code 11 = .ok (.getfield 20, 3) := by decide +kernel
theorem d_R_isGone_14 : decode prog_5_method_6_code 14 = .ok (.iload_n 1, 1) := by decide +kernel
theorem d_R_isGone_15 : decode prog_5_method_6_code 15 = .ok (.iaload, 1) := by decide +kernel
theorem d_R_isGone_16 : decode prog_5_method_6_code 16 = .ok (.bipush 6, 2) := by decide +kernel
theorem d_R_isGone_18 : decode prog_5_method_6_code 18 = .ok (.if_icmp .ne 7, 3) := by decide +kernel
theorem d_R_isGone_21 : decode prog_5_method_6_code 21 = .ok (.iconst 1, 1) := by decide +kernel
theorem d_R_isGone_22 : decode prog_5_method_6_code 22 = .ok (.goto 4, 3) := by decide +kernel
theorem d_R_isGone_25 : decode prog_5_method_6_code 25 = .ok (.iconst 0, 1) := by decide +kernel
theorem d_R_isGone_26 : decode prog_5_method_6_code 26 = .ok (.ireturn, 1) := by decide +kernel
theorem d_R_failed_0 : decode prog_5_method_14_code 0 = .ok (.iconst 0, 1) := by decide +kernel
theorem d_R_failed_1 : decode prog_5_method_14_code 1 = .ok (.istore_n 3, 1) := by decide +kernel
theorem d_R_failed_2 : decode prog_5_method_14_code 2 = .ok (.iconst 0, 1) := by decide +kernel
theorem d_R_failed_3 : decode prog_5_method_14_code 3 = .ok (.istore 4, 2) := by decide +kernel
theorem d_R_failed_5 : decode prog_5_method_14_code 5 = .ok (.aload_n 0, 1) := by decide +kernel
theorem d_R_failed_6 : decode prog_5_method_14_code 6 = .ok (.iload_n 1, 1) := by decide +kernel
theorem d_R_failed_7 : decode prog_5_method_14_code 7 = .ok (.iload 4, 2) := by decide +kernel
theorem d_R_failed_9 : decode prog_5_method_14_code 9 = .ok (.invokevirtual 92, 3) := by decide +kernel
theorem d_R_failed_12 : decode prog_5_method_14_code 12 = .ok (.ifCond .eq 35, 3) := by decide +kernel
theorem d_R_failed_15 : decode prog_5_method_14_code 15 = .ok (.aload_n 0, 1) := by decide +kernel
theorem d_R_failed_16 : decode prog_5_method_14_code 16 = .ok (.getfield 32, 3) := by decide +kernel
theorem d_R_failed_19 : decode prog_5_method_14_code 19 = .ok (.bipush 64, 2) := by decide +kernel
theorem d_R_failed_21 : decode prog_5_method_14_code 21 = .ok (.iload_n 1, 1) := by decide +kernel
theorem d_R_failed_22 : decode prog_5_method_14_code 22 = .ok (.imul, 1) := by decide +kernel
theorem d_R_failed_23 : decode prog_5_method_14_code 23 = .ok (.iload 4, 2) := by decide +kernel
theorem d_R_failed_25 : decode prog_5_method_14_code 25 = .ok (.iadd, 1) := by decide +kernel
theorem d_R_failed_26 : decode prog_5_method_14_code 26 = .ok (.baload, 1) := by decide +kernel
theorem d_R_failed_27 : decode prog_5_method_14_code 27 = .ok (.ifCond .eq 14, 3) := by decide +kernel
theorem d_R_failed_30 : decode prog_5_method_14_code 30 = .ok (.iload_n 3, 1) := by decide +kernel
theorem d_R_failed_31 : decode prog_5_method_14_code 31 = .ok (.iload_n 2, 1) := by decide +kernel
theorem d_R_failed_32 : decode prog_5_method_14_code 32 = .ok (.if_icmp .ne 6, 3) := by decide +kernel
theorem d_R_failed_35 : decode prog_5_method_14_code 35 = .ok (.iload 4, 2) := by decide +kernel
theorem d_R_failed_37 : decode prog_5_method_14_code 37 = .ok (.ireturn, 1) := by decide +kernel
theorem d_R_failed_38 : decode prog_5_method_14_code 38 = .ok (.iinc 3 1, 3) := by decide +kernel
theorem d_R_failed_41 : decode prog_5_method_14_code 41 = .ok (.iinc 4 1, 3) := by decide +kernel
theorem d_R_failed_44 : decode prog_5_method_14_code 44 = .ok (.goto (-39), 3) := by decide +kernel
theorem d_R_failed_47 : decode prog_5_method_14_code 47 = .ok (.iconst (-1), 1) := by decide +kernel
theorem d_R_failed_48 : decode prog_5_method_14_code 48 = .ok (.ireturn, 1) := by decide +kernel
theorem d_R_pass_0 : decode prog_5_method_16_code 0 = .ok (.aload_n 0, 1) := by decide +kernel
theorem d_R_pass_1 : decode prog_5_method_16_code 1 = .ok (.iload_n 1, 1) := by decide +kernel
theorem d_R_pass_2 : decode prog_5_method_16_code 2 = .ok (.invokevirtual 64, 3) := by decide +kernel
theorem d_R_pass_5 : decode prog_5_method_16_code 5 = .ok (.ifCond .eq 36, 3) := by decide +kernel
theorem d_R_pass_8 : decode prog_5_method_16_code 8 = .ok (.iload_n 2, 1) := by decide +kernel
theorem d_R_pass_9 : decode prog_5_method_16_code 9 = .ok (.i2l, 1) := by decide +kernel
theorem d_R_pass_10 : decode prog_5_method_16_code 10 = .ok (.lconst 0, 1) := by decide +kernel
theorem d_R_pass_11 : decode prog_5_method_16_code 11 = .ok (.ldc2_w 99, 3) := by decide +kernel
theorem d_R_pass_14 : decode prog_5_method_16_code 14 = .ok (.invokestatic 70, 3) := by decide +kernel
theorem d_R_pass_17 : decode prog_5_method_16_code 17 = .ok (.ifCond .eq 24, 3) := by decide +kernel
theorem d_R_pass_20 : decode prog_5_method_16_code 20 = .ok (.aload_n 0, 1) := by decide +kernel
theorem d_R_pass_21 : decode prog_5_method_16_code 21 = .ok (.getfield 20, 3) := by decide +kernel
theorem d_R_pass_24 : decode prog_5_method_16_code 24 = .ok (.iload_n 1, 1) := by decide +kernel
theorem d_R_pass_25 : decode prog_5_method_16_code 25 = .ok (.iaload, 1) := by decide +kernel
theorem d_R_pass_26 : decode prog_5_method_16_code 26 = .ok (.iconst 2, 1) := by decide +kernel
theorem d_R_pass_27 : decode prog_5_method_16_code 27 = .ok (.if_icmp .ne 14, 3) := by decide +kernel
theorem d_R_pass_30 : decode prog_5_method_16_code 30 = .ok (.aload_n 0, 1) := by decide +kernel
theorem d_R_pass_31 : decode prog_5_method_16_code 31 = .ok (.getfield 42, 3) := by decide +kernel
theorem d_R_pass_34 : decode prog_5_method_16_code 34 = .ok (.iload_n 1, 1) := by decide +kernel
theorem d_R_pass_35 : decode prog_5_method_16_code 35 = .ok (.iaload, 1) := by decide +kernel
theorem d_R_pass_36 : decode prog_5_method_16_code 36 = .ok (.bipush 6, 2) := by decide +kernel
theorem d_R_pass_38 : decode prog_5_method_16_code 38 = .ok (.if_icmp .ne 5, 3) := by decide +kernel
theorem d_R_pass_41 : decode prog_5_method_16_code 41 = .ok (.iconst (-1), 1) := by decide +kernel
theorem d_R_pass_42 : decode prog_5_method_16_code 42 = .ok (.ireturn, 1) := by decide +kernel
theorem d_R_pass_43 : decode prog_5_method_16_code 43 = .ok (.aload_n 0, 1) := by decide +kernel
theorem d_R_pass_44 : decode prog_5_method_16_code 44 = .ok (.getfield 45, 3) := by decide +kernel
theorem d_R_pass_47 : decode prog_5_method_16_code 47 = .ok (.bipush 6, 2) := by decide +kernel
theorem d_R_pass_49 : decode prog_5_method_16_code 49 = .ok (.iload_n 1, 1) := by decide +kernel
theorem d_R_pass_50 : decode prog_5_method_16_code 50 = .ok (.imul, 1) := by decide +kernel
theorem d_R_pass_51 : decode prog_5_method_16_code 51 = .ok (.aload_n 0, 1) := by decide +kernel
theorem d_R_pass_52 : decode prog_5_method_16_code 52 = .ok (.getfield 42, 3) := by decide +kernel
theorem d_R_pass_55 : decode prog_5_method_16_code 55 = .ok (.iload_n 1, 1) := by decide +kernel
theorem d_R_pass_56 : decode prog_5_method_16_code 56 = .ok (.iaload, 1) := by decide +kernel
theorem d_R_pass_57 : decode prog_5_method_16_code 57 = .ok (.iadd, 1) := by decide +kernel
theorem d_R_pass_58 : decode prog_5_method_16_code 58 = .ok (.iload_n 2, 1) := by decide +kernel
theorem d_R_pass_59 : decode prog_5_method_16_code 59 = .ok (.iastore, 1) := by decide +kernel
theorem d_R_pass_60 : decode prog_5_method_16_code 60 = .ok (.aload_n 0, 1) := by decide +kernel
theorem d_R_pass_61 : decode prog_5_method_16_code 61 = .ok (.getfield 42, 3) := by decide +kernel
theorem d_R_pass_64 : decode prog_5_method_16_code 64 = .ok (.iload_n 1, 1) := by decide +kernel
theorem d_R_pass_65 : decode prog_5_method_16_code 65 = .ok (.dup2, 1) := by decide +kernel
theorem d_R_pass_66 : decode prog_5_method_16_code 66 = .ok (.iaload, 1) := by decide +kernel
theorem d_R_pass_67 : decode prog_5_method_16_code 67 = .ok (.iconst 1, 1) := by decide +kernel
theorem d_R_pass_68 : decode prog_5_method_16_code 68 = .ok (.iadd, 1) := by decide +kernel
theorem d_R_pass_69 : decode prog_5_method_16_code 69 = .ok (.iastore, 1) := by decide +kernel
theorem d_R_pass_70 : decode prog_5_method_16_code 70 = .ok (.aload_n 0, 1) := by decide +kernel
theorem d_R_pass_71 : decode prog_5_method_16_code 71 = .ok (.iload_n 1, 1) := by decide +kernel
theorem d_R_pass_72 : decode prog_5_method_16_code 72 = .ok (.invokevirtual 88, 3) := by decide +kernel
theorem d_R_pass_75 : decode prog_5_method_16_code 75 = .ok (.iconst 0, 1) := by decide +kernel
theorem d_R_pass_76 : decode prog_5_method_16_code 76 = .ok (.istore_n 3, 1) := by decide +kernel
theorem d_R_pass_77 : decode prog_5_method_16_code 77 = .ok (.iload_n 3, 1) := by decide +kernel
theorem d_R_pass_78 : decode prog_5_method_16_code 78 = .ok (.aload_n 0, 1) := by decide +kernel
theorem d_R_pass_79 : decode prog_5_method_16_code 79 = .ok (.getfield 17, 3) := by decide +kernel
theorem d_R_pass_82 : decode prog_5_method_16_code 82 = .ok (.iload_n 1, 1) := by decide +kernel
theorem d_R_pass_83 : decode prog_5_method_16_code 83 = .ok (.iaload, 1) := by decide +kernel
theorem d_R_pass_84 : decode prog_5_method_16_code 84 = .ok (.if_icmp .ge 100, 3) := by decide +kernel
theorem d_R_pass_87 : decode prog_5_method_16_code 87 = .ok (.bipush 64, 2) := by decide +kernel
theorem d_R_pass_89 : decode prog_5_method_16_code 89 = .ok (.iload_n 1, 1) := by decide +kernel
theorem d_R_pass_90 : decode prog_5_method_16_code 90 = .ok (.imul, 1) := by decide +kernel
theorem d_R_pass_91 : decode prog_5_method_16_code 91 = .ok (.iload_n 3, 1) := by decide +kernel
theorem d_R_pass_92 : decode prog_5_method_16_code 92 = .ok (.iadd, 1) := by decide +kernel
theorem d_R_pass_93 : decode prog_5_method_16_code 93 = .ok (.istore 4, 2) := by decide +kernel
theorem d_R_pass_95 : decode prog_5_method_16_code 95 = .ok (.aload_n 0, 1) := by decide +kernel
theorem d_R_pass_96 : decode prog_5_method_16_code 96 = .ok (.getfield 29, 3) := by decide +kernel
theorem d_R_pass_99 : decode prog_5_method_16_code 99 = .ok (.iload 4, 2) := by decide +kernel
theorem d_R_pass_101 : decode prog_5_method_16_code 101 = .ok (.iload_n 2, 1) := by decide +kernel
theorem d_R_pass_102 : decode prog_5_method_16_code 102 = .ok (.sipush 256, 3) := by decide +kernel
theorem d_R_pass_105 : decode prog_5_method_16_code 105 = .ok (.if_icmp .ge 7, 3) := by decide +kernel
theorem d_R_pass_108 : decode prog_5_method_16_code 108 = .ok (.iload_n 2, 1) := by decide +kernel
theorem d_R_pass_109 : decode prog_5_method_16_code 109 = .ok (.goto 34, 3) := by decide +kernel
theorem d_R_pass_112 : decode prog_5_method_16_code 112 = .ok (.iload_n 2, 1) := by decide +kernel
theorem d_R_pass_113 : decode prog_5_method_16_code 113 = .ok (.sipush 256, 3) := by decide +kernel
theorem d_R_pass_116 : decode prog_5_method_16_code 116 = .ok (.if_icmp .ne 16, 3) := by decide +kernel
theorem d_R_pass_119 : decode prog_5_method_16_code 119 = .ok (.bipush 7, 2) := by decide +kernel
theorem d_R_pass_121 : decode prog_5_method_16_code 121 = .ok (.iload_n 3, 1) := by decide +kernel
theorem d_R_pass_122 : decode prog_5_method_16_code 122 = .ok (.imul, 1) := by decide +kernel
theorem d_R_pass_123 : decode prog_5_method_16_code 123 = .ok (.iconst 3, 1) := by decide +kernel
theorem d_R_pass_124 : decode prog_5_method_16_code 124 = .ok (.iadd, 1) := by decide +kernel
theorem d_R_pass_125 : decode prog_5_method_16_code 125 = .ok (.sipush 256, 3) := by decide +kernel
theorem d_R_pass_128 : decode prog_5_method_16_code 128 = .ok (.irem, 1) := by decide +kernel
theorem d_R_pass_129 : decode prog_5_method_16_code 129 = .ok (.goto 14, 3) := by decide +kernel
theorem d_R_pass_132 : decode prog_5_method_16_code 132 = .ok (.sipush 255, 3) := by decide +kernel
theorem d_R_pass_135 : decode prog_5_method_16_code 135 = .ok (.aload_n 0, 1) := by decide +kernel
theorem d_R_pass_136 : decode prog_5_method_16_code 136 = .ok (.getfield 26, 3) := by decide +kernel
theorem d_R_pass_139 : decode prog_5_method_16_code 139 = .ok (.iload 4, 2) := by decide +kernel
theorem d_R_pass_141 : decode prog_5_method_16_code 141 = .ok (.iaload, 1) := by decide +kernel
theorem d_R_pass_142 : decode prog_5_method_16_code 142 = .ok (.isub, 1) := by decide +kernel
theorem d_R_pass_143 : decode prog_5_method_16_code 143 = .ok (.iastore, 1) := by decide +kernel
theorem d_R_pass_144 : decode prog_5_method_16_code 144 = .ok (.aload_n 0, 1) := by decide +kernel
theorem d_R_pass_145 : decode prog_5_method_16_code 145 = .ok (.getfield 26, 3) := by decide +kernel
theorem d_R_pass_148 : decode prog_5_method_16_code 148 = .ok (.iload 4, 2) := by decide +kernel
theorem d_R_pass_150 : decode prog_5_method_16_code 150 = .ok (.aload_n 0, 1) := by decide +kernel
theorem d_R_pass_151 : decode prog_5_method_16_code 151 = .ok (.getfield 32, 3) := by decide +kernel
theorem d_R_pass_154 : decode prog_5_method_16_code 154 = .ok (.iload 4, 2) := by decide +kernel
theorem d_R_pass_156 : decode prog_5_method_16_code 156 = .ok (.baload, 1) := by decide +kernel
theorem d_R_pass_157 : decode prog_5_method_16_code 157 = .ok (.ifCond .eq 13, 3) := by decide +kernel
theorem d_R_pass_160 : decode prog_5_method_16_code 160 = .ok (.aload_n 0, 1) := by decide +kernel
theorem d_R_pass_161 : decode prog_5_method_16_code 161 = .ok (.getfield 26, 3) := by decide +kernel
theorem d_R_pass_164 : decode prog_5_method_16_code 164 = .ok (.iload 4, 2) := by decide +kernel
theorem d_R_pass_166 : decode prog_5_method_16_code 166 = .ok (.iaload, 1) := by decide +kernel
theorem d_R_pass_167 : decode prog_5_method_16_code 167 = .ok (.goto 10, 3) := by decide +kernel
theorem d_R_pass_170 : decode prog_5_method_16_code 170 = .ok (.aload_n 0, 1) := by decide +kernel
theorem d_R_pass_171 : decode prog_5_method_16_code 171 = .ok (.getfield 29, 3) := by decide +kernel
theorem d_R_pass_174 : decode prog_5_method_16_code 174 = .ok (.iload 4, 2) := by decide +kernel
theorem d_R_pass_176 : decode prog_5_method_16_code 176 = .ok (.iaload, 1) := by decide +kernel
theorem d_R_pass_177 : decode prog_5_method_16_code 177 = .ok (.iastore, 1) := by decide +kernel
theorem d_R_pass_178 : decode prog_5_method_16_code 178 = .ok (.iinc 3 1, 3) := by decide +kernel
theorem d_R_pass_181 : decode prog_5_method_16_code 181 = .ok (.goto (-104), 3) := by decide +kernel
theorem d_R_pass_184 : decode prog_5_method_16_code 184 = .ok (.aload_n 0, 1) := by decide +kernel
theorem d_R_pass_185 : decode prog_5_method_16_code 185 = .ok (.getfield 42, 3) := by decide +kernel
theorem d_R_pass_188 : decode prog_5_method_16_code 188 = .ok (.iload_n 1, 1) := by decide +kernel
theorem d_R_pass_189 : decode prog_5_method_16_code 189 = .ok (.iaload, 1) := by decide +kernel
theorem d_R_pass_190 : decode prog_5_method_16_code 190 = .ok (.ireturn, 1) := by decide +kernel
theorem d_R_byteAt_0 : decode prog_5_method_17_code 0 = .ok (.aload_n 0, 1) := by decide +kernel
theorem d_R_byteAt_1 : decode prog_5_method_17_code 1 = .ok (.iload_n 1, 1) := by decide +kernel
theorem d_R_byteAt_2 : decode prog_5_method_17_code 2 = .ok (.iload_n 2, 1) := by decide +kernel
theorem d_R_byteAt_3 : decode prog_5_method_17_code 3 = .ok (.invokevirtual 92, 3) := by decide +kernel
theorem d_R_byteAt_6 : decode prog_5_method_17_code 6 = .ok (.ifCond .eq 25, 3) := by decide +kernel
theorem d_R_byteAt_9 : decode prog_5_method_17_code 9 = .ok (.aload_n 0, 1) := by decide +kernel
theorem d_R_byteAt_10 : decode prog_5_method_17_code 10 = .ok (.iload_n 1, 1) := by decide +kernel
theorem d_R_byteAt_11 : decode prog_5_method_17_code 11 = .ok (.invokevirtual 96, 3) := by decide +kernel
theorem d_R_byteAt_14 : decode prog_5_method_17_code 14 = .ok (.ifCond .ne 17, 3) := by decide +kernel
theorem d_R_byteAt_17 : decode prog_5_method_17_code 17 = .ok (.aload_n 0, 1) := by decide +kernel
theorem d_R_byteAt_18 : decode prog_5_method_17_code 18 = .ok (.getfield 26, 3) := by decide +kernel
theorem d_R_byteAt_21 : decode prog_5_method_17_code 21 = .ok (.bipush 64, 2) := by decide +kernel
theorem d_R_byteAt_23 : decode prog_5_method_17_code 23 = .ok (.iload_n 1, 1) := by decide +kernel
theorem d_R_byteAt_24 : decode prog_5_method_17_code 24 = .ok (.imul, 1) := by decide +kernel
theorem d_R_byteAt_25 : decode prog_5_method_17_code 25 = .ok (.iload_n 2, 1) := by decide +kernel
theorem d_R_byteAt_26 : decode prog_5_method_17_code 26 = .ok (.iadd, 1) := by decide +kernel
theorem d_R_byteAt_27 : decode prog_5_method_17_code 27 = .ok (.iaload, 1) := by decide +kernel
theorem d_R_byteAt_28 : decode prog_5_method_17_code 28 = .ok (.goto 4, 3) := by decide +kernel
theorem d_R_byteAt_31 : decode prog_5_method_17_code 31 = .ok (.iconst (-1), 1) := by decide +kernel
theorem d_R_byteAt_32 : decode prog_5_method_17_code 32 = .ok (.ireturn, 1) := by decide +kernel
theorem d_R_read_0 : decode prog_5_method_18_code 0 = .ok (.aload_n 0, 1) := by decide +kernel
theorem d_R_read_1 : decode prog_5_method_18_code 1 = .ok (.iload_n 1, 1) := by decide +kernel
theorem d_R_read_2 : decode prog_5_method_18_code 2 = .ok (.iload_n 2, 1) := by decide +kernel
theorem d_R_read_3 : decode prog_5_method_18_code 3 = .ok (.invokevirtual 92, 3) := by decide +kernel
theorem d_R_read_6 : decode prog_5_method_18_code 6 = .ok (.ifCond .eq 48, 3) := by decide +kernel
theorem d_R_read_9 : decode prog_5_method_18_code 9 = .ok (.iload_n 3, 1) := by decide +kernel
theorem d_R_read_10 : decode prog_5_method_18_code 10 = .ok (.i2l, 1) := by decide +kernel
theorem d_R_read_11 : decode prog_5_method_18_code 11 = .ok (.lconst 0, 1) := by decide +kernel
theorem d_R_read_12 : decode prog_5_method_18_code 12 = .ok (.ldc2_w 101, 3) := by decide +kernel
theorem d_R_read_15 : decode prog_5_method_18_code 15 = .ok (.invokestatic 70, 3) := by decide +kernel
theorem d_R_read_18 : decode prog_5_method_18_code 18 = .ok (.ifCond .eq 36, 3) := by decide +kernel
theorem d_R_read_21 : decode prog_5_method_18_code 21 = .ok (.aload_n 0, 1) := by decide +kernel
theorem d_R_read_22 : decode prog_5_method_18_code 22 = .ok (.getfield 20, 3) := by decide +kernel
theorem d_R_read_25 : decode prog_5_method_18_code 25 = .ok (.iload_n 1, 1) := by decide +kernel
theorem d_R_read_26 : decode prog_5_method_18_code 26 = .ok (.iaload, 1) := by decide +kernel
theorem d_R_read_27 : decode prog_5_method_18_code 27 = .ok (.iconst 2, 1) := by decide +kernel
theorem d_R_read_28 : decode prog_5_method_18_code 28 = .ok (.if_icmp .ne 26, 3) := by decide +kernel
theorem d_R_read_31 : decode prog_5_method_18_code 31 = .ok (.aload_n 0, 1) := by decide +kernel
theorem d_R_read_32 : decode prog_5_method_18_code 32 = .ok (.getfield 42, 3) := by decide +kernel
theorem d_R_read_35 : decode prog_5_method_18_code 35 = .ok (.iload_n 1, 1) := by decide +kernel
theorem d_R_read_36 : decode prog_5_method_18_code 36 = .ok (.iaload, 1) := by decide +kernel
theorem d_R_read_37 : decode prog_5_method_18_code 37 = .ok (.ifCond .eq 17, 3) := by decide +kernel
theorem d_R_read_40 : decode prog_5_method_18_code 40 = .ok (.aload_n 0, 1) := by decide +kernel
theorem d_R_read_41 : decode prog_5_method_18_code 41 = .ok (.getfield 36, 3) := by decide +kernel
theorem d_R_read_44 : decode prog_5_method_18_code 44 = .ok (.bipush 64, 2) := by decide +kernel
theorem d_R_read_46 : decode prog_5_method_18_code 46 = .ok (.iload_n 1, 1) := by decide +kernel
theorem d_R_read_47 : decode prog_5_method_18_code 47 = .ok (.imul, 1) := by decide +kernel
theorem d_R_read_48 : decode prog_5_method_18_code 48 = .ok (.iload_n 2, 1) := by decide +kernel
theorem d_R_read_49 : decode prog_5_method_18_code 49 = .ok (.iadd, 1) := by decide +kernel
theorem d_R_read_50 : decode prog_5_method_18_code 50 = .ok (.baload, 1) := by decide +kernel
theorem d_R_read_51 : decode prog_5_method_18_code 51 = .ok (.ifCond .eq 5, 3) := by decide +kernel
theorem d_R_read_54 : decode prog_5_method_18_code 54 = .ok (.iconst (-1), 1) := by decide +kernel
theorem d_R_read_55 : decode prog_5_method_18_code 55 = .ok (.ireturn, 1) := by decide +kernel
theorem d_R_read_56 : decode prog_5_method_18_code 56 = .ok (.aload_n 0, 1) := by decide +kernel
theorem d_R_read_57 : decode prog_5_method_18_code 57 = .ok (.getfield 36, 3) := by decide +kernel
theorem d_R_read_60 : decode prog_5_method_18_code 60 = .ok (.bipush 64, 2) := by decide +kernel
theorem d_R_read_62 : decode prog_5_method_18_code 62 = .ok (.iload_n 1, 1) := by decide +kernel
theorem d_R_read_63 : decode prog_5_method_18_code 63 = .ok (.imul, 1) := by decide +kernel
theorem d_R_read_64 : decode prog_5_method_18_code 64 = .ok (.iload_n 2, 1) := by decide +kernel
theorem d_R_read_65 : decode prog_5_method_18_code 65 = .ok (.iadd, 1) := by decide +kernel
theorem d_R_read_66 : decode prog_5_method_18_code 66 = .ok (.iconst 1, 1) := by decide +kernel
theorem d_R_read_67 : decode prog_5_method_18_code 67 = .ok (.bastore, 1) := by decide +kernel
theorem d_R_read_68 : decode prog_5_method_18_code 68 = .ok (.iload_n 3, 1) := by decide +kernel
theorem d_R_read_69 : decode prog_5_method_18_code 69 = .ok (.aload_n 0, 1) := by decide +kernel
theorem d_R_read_70 : decode prog_5_method_18_code 70 = .ok (.getfield 29, 3) := by decide +kernel
theorem d_R_read_73 : decode prog_5_method_18_code 73 = .ok (.bipush 64, 2) := by decide +kernel
theorem d_R_read_75 : decode prog_5_method_18_code 75 = .ok (.iload_n 1, 1) := by decide +kernel
theorem d_R_read_76 : decode prog_5_method_18_code 76 = .ok (.imul, 1) := by decide +kernel
theorem d_R_read_77 : decode prog_5_method_18_code 77 = .ok (.iload_n 2, 1) := by decide +kernel
theorem d_R_read_78 : decode prog_5_method_18_code 78 = .ok (.iadd, 1) := by decide +kernel
theorem d_R_read_79 : decode prog_5_method_18_code 79 = .ok (.iaload, 1) := by decide +kernel
theorem d_R_read_80 : decode prog_5_method_18_code 80 = .ok (.if_icmp .ne 7, 3) := by decide +kernel
theorem d_R_read_83 : decode prog_5_method_18_code 83 = .ok (.iconst 1, 1) := by decide +kernel
theorem d_R_read_84 : decode prog_5_method_18_code 84 = .ok (.goto 4, 3) := by decide +kernel
theorem d_R_read_87 : decode prog_5_method_18_code 87 = .ok (.iconst 0, 1) := by decide +kernel
theorem d_R_read_88 : decode prog_5_method_18_code 88 = .ok (.istore 4, 2) := by decide +kernel
theorem d_R_read_90 : decode prog_5_method_18_code 90 = .ok (.aload_n 0, 1) := by decide +kernel
theorem d_R_read_91 : decode prog_5_method_18_code 91 = .ok (.getfield 39, 3) := by decide +kernel
theorem d_R_read_94 : decode prog_5_method_18_code 94 = .ok (.iload_n 1, 1) := by decide +kernel
theorem d_R_read_95 : decode prog_5_method_18_code 95 = .ok (.dup2, 1) := by decide +kernel
theorem d_R_read_96 : decode prog_5_method_18_code 96 = .ok (.iaload, 1) := by decide +kernel
theorem d_R_read_97 : decode prog_5_method_18_code 97 = .ok (.iload 4, 2) := by decide +kernel
theorem d_R_read_99 : decode prog_5_method_18_code 99 = .ok (.ifCond .eq 7, 3) := by decide +kernel
theorem d_R_read_102 : decode prog_5_method_18_code 102 = .ok (.iconst 0, 1) := by decide +kernel
theorem d_R_read_103 : decode prog_5_method_18_code 103 = .ok (.goto 4, 3) := by decide +kernel
theorem d_R_read_106 : decode prog_5_method_18_code 106 = .ok (.iconst 1, 1) := by decide +kernel
theorem d_R_read_107 : decode prog_5_method_18_code 107 = .ok (.iadd, 1) := by decide +kernel
theorem d_R_read_108 : decode prog_5_method_18_code 108 = .ok (.iastore, 1) := by decide +kernel
theorem d_R_read_109 : decode prog_5_method_18_code 109 = .ok (.aload_n 0, 1) := by decide +kernel
theorem d_R_read_110 : decode prog_5_method_18_code 110 = .ok (.getfield 39, 3) := by decide +kernel
theorem d_R_read_113 : decode prog_5_method_18_code 113 = .ok (.iload_n 1, 1) := by decide +kernel
theorem d_R_read_114 : decode prog_5_method_18_code 114 = .ok (.iaload, 1) := by decide +kernel
theorem d_R_read_115 : decode prog_5_method_18_code 115 = .ok (.ifCond .ne 7, 3) := by decide +kernel
theorem d_R_read_118 : decode prog_5_method_18_code 118 = .ok (.iconst 1, 1) := by decide +kernel
theorem d_R_read_119 : decode prog_5_method_18_code 119 = .ok (.goto 4, 3) := by decide +kernel
theorem d_R_read_122 : decode prog_5_method_18_code 122 = .ok (.iconst 0, 1) := by decide +kernel
theorem d_R_read_123 : decode prog_5_method_18_code 123 = .ok (.istore 5, 2) := by decide +kernel
theorem d_R_read_125 : decode prog_5_method_18_code 125 = .ok (.iconst 0, 1) := by decide +kernel
theorem d_R_read_126 : decode prog_5_method_18_code 126 = .ok (.istore 6, 2) := by decide +kernel
theorem d_R_read_128 : decode prog_5_method_18_code 128 = .ok (.iload 6, 2) := by decide +kernel
theorem d_R_read_130 : decode prog_5_method_18_code 130 = .ok (.aload_n 0, 1) := by decide +kernel
theorem d_R_read_131 : decode prog_5_method_18_code 131 = .ok (.getfield 17, 3) := by decide +kernel
theorem d_R_read_134 : decode prog_5_method_18_code 134 = .ok (.iload_n 1, 1) := by decide +kernel
theorem d_R_read_135 : decode prog_5_method_18_code 135 = .ok (.iaload, 1) := by decide +kernel
theorem d_R_read_136 : decode prog_5_method_18_code 136 = .ok (.if_icmp .ge 36, 3) := by decide +kernel
theorem d_R_read_139 : decode prog_5_method_18_code 139 = .ok (.iload 5, 2) := by decide +kernel
theorem d_R_read_141 : decode prog_5_method_18_code 141 = .ok (.ifCond .eq 22, 3) := by decide +kernel
theorem d_R_read_144 : decode prog_5_method_18_code 144 = .ok (.aload_n 0, 1) := by decide +kernel
theorem d_R_read_145 : decode prog_5_method_18_code 145 = .ok (.getfield 36, 3) := by decide +kernel
theorem d_R_read_148 : decode prog_5_method_18_code 148 = .ok (.bipush 64, 2) := by decide +kernel
theorem d_R_read_150 : decode prog_5_method_18_code 150 = .ok (.iload_n 1, 1) := by decide +kernel
theorem d_R_read_151 : decode prog_5_method_18_code 151 = .ok (.imul, 1) := by decide +kernel
theorem d_R_read_152 : decode prog_5_method_18_code 152 = .ok (.iload 6, 2) := by decide +kernel
theorem d_R_read_154 : decode prog_5_method_18_code 154 = .ok (.iadd, 1) := by decide +kernel
theorem d_R_read_155 : decode prog_5_method_18_code 155 = .ok (.baload, 1) := by decide +kernel
theorem d_R_read_156 : decode prog_5_method_18_code 156 = .ok (.ifCond .eq 7, 3) := by decide +kernel
theorem d_R_read_159 : decode prog_5_method_18_code 159 = .ok (.iconst 1, 1) := by decide +kernel
theorem d_R_read_160 : decode prog_5_method_18_code 160 = .ok (.goto 4, 3) := by decide +kernel
theorem d_R_read_163 : decode prog_5_method_18_code 163 = .ok (.iconst 0, 1) := by decide +kernel
theorem d_R_read_164 : decode prog_5_method_18_code 164 = .ok (.istore 5, 2) := by decide +kernel
theorem d_R_read_166 : decode prog_5_method_18_code 166 = .ok (.iinc 6 1, 3) := by decide +kernel
theorem d_R_read_169 : decode prog_5_method_18_code 169 = .ok (.goto (-41), 3) := by decide +kernel
theorem d_R_read_172 : decode prog_5_method_18_code 172 = .ok (.aload_n 0, 1) := by decide +kernel
theorem d_R_read_173 : decode prog_5_method_18_code 173 = .ok (.getfield 20, 3) := by decide +kernel
theorem d_R_read_176 : decode prog_5_method_18_code 176 = .ok (.iload_n 1, 1) := by decide +kernel
theorem d_R_read_177 : decode prog_5_method_18_code 177 = .ok (.iload 5, 2) := by decide +kernel
theorem d_R_read_179 : decode prog_5_method_18_code 179 = .ok (.ifCond .eq 7, 3) := by decide +kernel
theorem d_R_read_182 : decode prog_5_method_18_code 182 = .ok (.iconst 3, 1) := by decide +kernel
theorem d_R_read_183 : decode prog_5_method_18_code 183 = .ok (.goto 4, 3) := by decide +kernel
theorem d_R_read_186 : decode prog_5_method_18_code 186 = .ok (.iconst 2, 1) := by decide +kernel
theorem d_R_read_187 : decode prog_5_method_18_code 187 = .ok (.iastore, 1) := by decide +kernel
theorem d_R_read_188 : decode prog_5_method_18_code 188 = .ok (.iload 4, 2) := by decide +kernel
theorem d_R_read_190 : decode prog_5_method_18_code 190 = .ok (.ifCond .eq 7, 3) := by decide +kernel
theorem d_R_read_193 : decode prog_5_method_18_code 193 = .ok (.iconst 1, 1) := by decide +kernel
theorem d_R_read_194 : decode prog_5_method_18_code 194 = .ok (.goto 4, 3) := by decide +kernel
theorem d_R_read_197 : decode prog_5_method_18_code 197 = .ok (.iconst 0, 1) := by decide +kernel
theorem d_R_read_198 : decode prog_5_method_18_code 198 = .ok (.ireturn, 1) := by decide +kernel
theorem d_R_unlike_0 : decode prog_5_method_19_code 0 = .ok (.aload_n 0, 1) := by decide +kernel
theorem d_R_unlike_1 : decode prog_5_method_19_code 1 = .ok (.iload_n 1, 1) := by decide +kernel
theorem d_R_unlike_2 : decode prog_5_method_19_code 2 = .ok (.invokevirtual 64, 3) := by decide +kernel
theorem d_R_unlike_5 : decode prog_5_method_19_code 5 = .ok (.ifCond .eq 12, 3) := by decide +kernel
theorem d_R_unlike_8 : decode prog_5_method_19_code 8 = .ok (.aload_n 0, 1) := by decide +kernel
theorem d_R_unlike_9 : decode prog_5_method_19_code 9 = .ok (.getfield 39, 3) := by decide +kernel
theorem d_R_unlike_12 : decode prog_5_method_19_code 12 = .ok (.iload_n 1, 1) := by decide +kernel
theorem d_R_unlike_13 : decode prog_5_method_19_code 13 = .ok (.iaload, 1) := by decide +kernel
theorem d_R_unlike_14 : decode prog_5_method_19_code 14 = .ok (.goto 4, 3) := by decide +kernel
theorem d_R_unlike_17 : decode prog_5_method_19_code 17 = .ok (.iconst (-1), 1) := by decide +kernel
theorem d_R_unlike_18 : decode prog_5_method_19_code 18 = .ok (.ireturn, 1) := by decide +kernel
theorem d_R_odds_0 : decode prog_5_method_21_code 0 = .ok (.iload_n 1, 1) := by decide +kernel
theorem d_R_odds_1 : decode prog_5_method_21_code 1 = .ok (.i2l, 1) := by decide +kernel
theorem d_R_odds_2 : decode prog_5_method_21_code 2 = .ok (.lconst 1, 1) := by decide +kernel
theorem d_R_odds_3 : decode prog_5_method_21_code 3 = .ok (.ldc2_w 103, 3) := by decide +kernel
theorem d_R_odds_6 : decode prog_5_method_21_code 6 = .ok (.invokestatic 70, 3) := by decide +kernel
theorem d_R_odds_9 : decode prog_5_method_21_code 9 = .ok (.ifCond .eq 36, 3) := by decide +kernel
theorem d_R_odds_12 : decode prog_5_method_21_code 12 = .ok (.iload_n 2, 1) := by decide +kernel
theorem d_R_odds_13 : decode prog_5_method_21_code 13 = .ok (.i2l, 1) := by decide +kernel
theorem d_R_odds_14 : decode prog_5_method_21_code 14 = .ok (.lconst 0, 1) := by decide +kernel
theorem d_R_odds_15 : decode prog_5_method_21_code 15 = .ok (.iload_n 1, 1) := by decide +kernel
theorem d_R_odds_16 : decode prog_5_method_21_code 16 = .ok (.i2l, 1) := by decide +kernel
theorem d_R_odds_17 : decode prog_5_method_21_code 17 = .ok (.invokestatic 70, 3) := by decide +kernel
theorem d_R_odds_20 : decode prog_5_method_21_code 20 = .ok (.ifCond .eq 25, 3) := by decide +kernel
theorem d_R_odds_23 : decode prog_5_method_21_code 23 = .ok (.iload_n 3, 1) := by decide +kernel
theorem d_R_odds_24 : decode prog_5_method_21_code 24 = .ok (.i2l, 1) := by decide +kernel
theorem d_R_odds_25 : decode prog_5_method_21_code 25 = .ok (.lconst 0, 1) := by decide +kernel
theorem d_R_odds_26 : decode prog_5_method_21_code 26 = .ok (.iload_n 1, 1) := by decide +kernel
theorem d_R_odds_27 : decode prog_5_method_21_code 27 = .ok (.i2l, 1) := by decide +kernel
theorem d_R_odds_28 : decode prog_5_method_21_code 28 = .ok (.invokestatic 70, 3) := by decide +kernel
theorem d_R_odds_31 : decode prog_5_method_21_code 31 = .ok (.ifCond .eq 14, 3) := by decide +kernel
theorem d_R_odds_34 : decode prog_5_method_21_code 34 = .ok (.iload 4, 2) := by decide +kernel
theorem d_R_odds_36 : decode prog_5_method_21_code 36 = .ok (.i2l, 1) := by decide +kernel
theorem d_R_odds_37 : decode prog_5_method_21_code 37 = .ok (.lconst 0, 1) := by decide +kernel
theorem d_R_odds_38 : decode prog_5_method_21_code 38 = .ok (.lconst 1, 1) := by decide +kernel
theorem d_R_odds_39 : decode prog_5_method_21_code 39 = .ok (.invokestatic 70, 3) := by decide +kernel
theorem d_R_odds_42 : decode prog_5_method_21_code 42 = .ok (.ifCond .ne 7, 3) := by decide +kernel
theorem d_R_odds_45 : decode prog_5_method_21_code 45 = .ok (.ldc2_w 105, 3) := by decide +kernel
theorem d_R_odds_48 : decode prog_5_method_21_code 48 = .ok (.lreturn, 1) := by decide +kernel
theorem d_R_odds_49 : decode prog_5_method_21_code 49 = .ok (.lconst 1, 1) := by decide +kernel
theorem d_R_odds_50 : decode prog_5_method_21_code 50 = .ok (.lstore 5, 2) := by decide +kernel
theorem d_R_odds_52 : decode prog_5_method_21_code 52 = .ok (.lconst 1, 1) := by decide +kernel
theorem d_R_odds_53 : decode prog_5_method_21_code 53 = .ok (.lstore 7, 2) := by decide +kernel
theorem d_R_odds_55 : decode prog_5_method_21_code 55 = .ok (.iconst 0, 1) := by decide +kernel
theorem d_R_odds_56 : decode prog_5_method_21_code 56 = .ok (.istore 9, 2) := by decide +kernel
theorem d_R_odds_58 : decode prog_5_method_21_code 58 = .ok (.iload 9, 2) := by decide +kernel
theorem d_R_odds_60 : decode prog_5_method_21_code 60 = .ok (.iload_n 2, 1) := by decide +kernel
theorem d_R_odds_61 : decode prog_5_method_21_code 61 = .ok (.if_icmp .ge 69, 3) := by decide +kernel
theorem d_R_odds_64 : decode prog_5_method_21_code 64 = .ok (.iload_n 1, 1) := by decide +kernel
theorem d_R_odds_65 : decode prog_5_method_21_code 65 = .ok (.iload_n 3, 1) := by decide +kernel
theorem d_R_odds_66 : decode prog_5_method_21_code 66 = .ok (.isub, 1) := by decide +kernel
theorem d_R_odds_67 : decode prog_5_method_21_code 67 = .ok (.iload 9, 2) := by decide +kernel
theorem d_R_odds_69 : decode prog_5_method_21_code 69 = .ok (.isub, 1) := by decide +kernel
theorem d_R_odds_70 : decode prog_5_method_21_code 70 = .ok (.i2l, 1) := by decide +kernel
theorem d_R_odds_71 : decode prog_5_method_21_code 71 = .ok (.lstore 10, 2) := by decide +kernel
theorem d_R_odds_73 : decode prog_5_method_21_code 73 = .ok (.lload 5, 2) := by decide +kernel
theorem d_R_odds_75 : decode prog_5_method_21_code 75 = .ok (.lload 10, 2) := by decide +kernel
theorem d_R_odds_77 : decode prog_5_method_21_code 77 = .ok (.lconst 0, 1) := by decide +kernel
theorem d_R_odds_78 : decode prog_5_method_21_code 78 = .ok (.lcmp, 1) := by decide +kernel
theorem d_R_odds_79 : decode prog_5_method_21_code 79 = .ok (.ifCond .ge 7, 3) := by decide +kernel
theorem d_R_odds_82 : decode prog_5_method_21_code 82 = .ok (.lconst 0, 1) := by decide +kernel
theorem d_R_odds_83 : decode prog_5_method_21_code 83 = .ok (.goto 5, 3) := by decide +kernel
theorem d_R_odds_86 : decode prog_5_method_21_code 86 = .ok (.lload 10, 2) := by decide +kernel
theorem d_R_odds_88 : decode prog_5_method_21_code 88 = .ok (.lmul, 1) := by decide +kernel
theorem d_R_odds_89 : decode prog_5_method_21_code 89 = .ok (.lstore 5, 2) := by decide +kernel
theorem d_R_odds_91 : decode prog_5_method_21_code 91 = .ok (.lload 7, 2) := by decide +kernel
theorem d_R_odds_93 : decode prog_5_method_21_code 93 = .ok (.iload_n 1, 1) := by decide +kernel
theorem d_R_odds_94 : decode prog_5_method_21_code 94 = .ok (.iload 9, 2) := by decide +kernel
theorem d_R_odds_96 : decode prog_5_method_21_code 96 = .ok (.isub, 1) := by decide +kernel
theorem d_R_odds_97 : decode prog_5_method_21_code 97 = .ok (.i2l, 1) := by decide +kernel
theorem d_R_odds_98 : decode prog_5_method_21_code 98 = .ok (.lmul, 1) := by decide +kernel
theorem d_R_odds_99 : decode prog_5_method_21_code 99 = .ok (.lstore 7, 2) := by decide +kernel
theorem d_R_odds_101 : decode prog_5_method_21_code 101 = .ok (.lload 5, 2) := by decide +kernel
theorem d_R_odds_103 : decode prog_5_method_21_code 103 = .ok (.lload 7, 2) := by decide +kernel
theorem d_R_odds_105 : decode prog_5_method_21_code 105 = .ok (.invokestatic 107, 3) := by decide +kernel
theorem d_R_odds_108 : decode prog_5_method_21_code 108 = .ok (.lstore 12, 2) := by decide +kernel
theorem d_R_odds_110 : decode prog_5_method_21_code 110 = .ok (.lload 5, 2) := by decide +kernel
theorem d_R_odds_112 : decode prog_5_method_21_code 112 = .ok (.lload 12, 2) := by decide +kernel
theorem d_R_odds_114 : decode prog_5_method_21_code 114 = .ok (.ldiv, 1) := by decide +kernel
theorem d_R_odds_115 : decode prog_5_method_21_code 115 = .ok (.lstore 5, 2) := by decide +kernel
theorem d_R_odds_117 : decode prog_5_method_21_code 117 = .ok (.lload 7, 2) := by decide +kernel
theorem d_R_odds_119 : decode prog_5_method_21_code 119 = .ok (.lload 12, 2) := by decide +kernel
theorem d_R_odds_121 : decode prog_5_method_21_code 121 = .ok (.ldiv, 1) := by decide +kernel
theorem d_R_odds_122 : decode prog_5_method_21_code 122 = .ok (.lstore 7, 2) := by decide +kernel
theorem d_R_odds_124 : decode prog_5_method_21_code 124 = .ok (.iinc 9 1, 3) := by decide +kernel
theorem d_R_odds_127 : decode prog_5_method_21_code 127 = .ok (.goto (-69), 3) := by decide +kernel
theorem d_R_odds_130 : decode prog_5_method_21_code 130 = .ok (.iload 4, 2) := by decide +kernel
theorem d_R_odds_132 : decode prog_5_method_21_code 132 = .ok (.ifCond .ne 8, 3) := by decide +kernel
theorem d_R_odds_135 : decode prog_5_method_21_code 135 = .ok (.lload 5, 2) := by decide +kernel
theorem d_R_odds_137 : decode prog_5_method_21_code 137 = .ok (.goto 5, 3) := by decide +kernel
theorem d_R_odds_140 : decode prog_5_method_21_code 140 = .ok (.lload 7, 2) := by decide +kernel
theorem d_R_odds_142 : decode prog_5_method_21_code 142 = .ok (.lreturn, 1) := by decide +kernel
theorem d_R_common_0 : decode prog_5_method_20_code 0 = .ok (.lload_n 0, 1) := by decide +kernel
theorem d_R_common_1 : decode prog_5_method_20_code 1 = .ok (.lstore 4, 2) := by decide +kernel
theorem d_R_common_3 : decode prog_5_method_20_code 3 = .ok (.lload_n 2, 1) := by decide +kernel
theorem d_R_common_4 : decode prog_5_method_20_code 4 = .ok (.lstore 6, 2) := by decide +kernel
theorem d_R_common_6 : decode prog_5_method_20_code 6 = .ok (.lload 6, 2) := by decide +kernel
theorem d_R_common_8 : decode prog_5_method_20_code 8 = .ok (.lconst 0, 1) := by decide +kernel
theorem d_R_common_9 : decode prog_5_method_20_code 9 = .ok (.lcmp, 1) := by decide +kernel
theorem d_R_common_10 : decode prog_5_method_20_code 10 = .ok (.ifCond .eq 21, 3) := by decide +kernel
theorem d_R_common_13 : decode prog_5_method_20_code 13 = .ok (.lload 4, 2) := by decide +kernel
theorem d_R_common_15 : decode prog_5_method_20_code 15 = .ok (.lload 6, 2) := by decide +kernel
theorem d_R_common_17 : decode prog_5_method_20_code 17 = .ok (.lrem, 1) := by decide +kernel
theorem d_R_common_18 : decode prog_5_method_20_code 18 = .ok (.lstore 8, 2) := by decide +kernel
theorem d_R_common_20 : decode prog_5_method_20_code 20 = .ok (.lload 6, 2) := by decide +kernel
theorem d_R_common_22 : decode prog_5_method_20_code 22 = .ok (.lstore 4, 2) := by decide +kernel
theorem d_R_common_24 : decode prog_5_method_20_code 24 = .ok (.lload 8, 2) := by decide +kernel
theorem d_R_common_26 : decode prog_5_method_20_code 26 = .ok (.lstore 6, 2) := by decide +kernel
theorem d_R_common_28 : decode prog_5_method_20_code 28 = .ok (.goto (-22), 3) := by decide +kernel
theorem d_R_common_31 : decode prog_5_method_20_code 31 = .ok (.lload 4, 2) := by decide +kernel
theorem d_R_common_33 : decode prog_5_method_20_code 33 = .ok (.lreturn, 1) := by decide +kernel
theorem d_R_shred_0 : decode prog_5_method_22_code 0 = .ok (.aload_n 0, 1) := by decide +kernel
theorem d_R_shred_1 : decode prog_5_method_22_code 1 = .ok (.iload_n 1, 1) := by decide +kernel
theorem d_R_shred_2 : decode prog_5_method_22_code 2 = .ok (.invokevirtual 64, 3) := by decide +kernel
theorem d_R_shred_5 : decode prog_5_method_22_code 5 = .ok (.ifCond .eq 50, 3) := by decide +kernel
theorem d_R_shred_8 : decode prog_5_method_22_code 8 = .ok (.iload_n 2, 1) := by decide +kernel
theorem d_R_shred_9 : decode prog_5_method_22_code 9 = .ok (.i2l, 1) := by decide +kernel
theorem d_R_shred_10 : decode prog_5_method_22_code 10 = .ok (.lconst 1, 1) := by decide +kernel
theorem d_R_shred_11 : decode prog_5_method_22_code 11 = .ok (.ldc2_w 111, 3) := by decide +kernel
theorem d_R_shred_14 : decode prog_5_method_22_code 14 = .ok (.invokestatic 70, 3) := by decide +kernel
theorem d_R_shred_17 : decode prog_5_method_22_code 17 = .ok (.ifCond .eq 38, 3) := by decide +kernel
theorem d_R_shred_20 : decode prog_5_method_22_code 20 = .ok (.aload_n 0, 1) := by decide +kernel
theorem d_R_shred_21 : decode prog_5_method_22_code 21 = .ok (.getfield 20, 3) := by decide +kernel
theorem d_R_shred_24 : decode prog_5_method_22_code 24 = .ok (.iload_n 1, 1) := by decide +kernel
theorem d_R_shred_25 : decode prog_5_method_22_code 25 = .ok (.iaload, 1) := by decide +kernel
theorem d_R_shred_26 : decode prog_5_method_22_code 26 = .ok (.iconst 3, 1) := by decide +kernel
theorem d_R_shred_27 : decode prog_5_method_22_code 27 = .ok (.if_icmp .eq 13, 3) := by decide +kernel
theorem d_R_shred_30 : decode prog_5_method_22_code 30 = .ok (.aload_n 0, 1) := by decide +kernel
theorem d_R_shred_31 : decode prog_5_method_22_code 31 = .ok (.getfield 20, 3) := by decide +kernel
theorem d_R_shred_34 : decode prog_5_method_22_code 34 = .ok (.iload_n 1, 1) := by decide +kernel
theorem d_R_shred_35 : decode prog_5_method_22_code 35 = .ok (.iaload, 1) := by decide +kernel
theorem d_R_shred_36 : decode prog_5_method_22_code 36 = .ok (.iconst 4, 1) := by decide +kernel
theorem d_R_shred_37 : decode prog_5_method_22_code 37 = .ok (.if_icmp .ne 18, 3) := by decide +kernel
theorem d_R_shred_40 : decode prog_5_method_22_code 40 = .ok (.iload_n 2, 1) := by decide +kernel
theorem d_R_shred_41 : decode prog_5_method_22_code 41 = .ok (.iconst 2, 1) := by decide +kernel
theorem d_R_shred_42 : decode prog_5_method_22_code 42 = .ok (.bipush 6, 2) := by decide +kernel
theorem d_R_shred_44 : decode prog_5_method_22_code 44 = .ok (.aload_n 0, 1) := by decide +kernel
theorem d_R_shred_45 : decode prog_5_method_22_code 45 = .ok (.getfield 7, 3) := by decide +kernel
theorem d_R_shred_48 : decode prog_5_method_22_code 48 = .ok (.iload_n 1, 1) := by decide +kernel
theorem d_R_shred_49 : decode prog_5_method_22_code 49 = .ok (.iaload, 1) := by decide +kernel
theorem d_R_shred_50 : decode prog_5_method_22_code 50 = .ok (.imul, 1) := by decide +kernel
theorem d_R_shred_51 : decode prog_5_method_22_code 51 = .ok (.iadd, 1) := by decide +kernel
theorem d_R_shred_52 : decode prog_5_method_22_code 52 = .ok (.if_icmp .le 5, 3) := by decide +kernel
theorem d_R_shred_55 : decode prog_5_method_22_code 55 = .ok (.iconst 0, 1) := by decide +kernel
theorem d_R_shred_56 : decode prog_5_method_22_code 56 = .ok (.ireturn, 1) := by decide +kernel
theorem d_R_shred_57 : decode prog_5_method_22_code 57 = .ok (.aload_n 0, 1) := by decide +kernel
theorem d_R_shred_58 : decode prog_5_method_22_code 58 = .ok (.getfield 20, 3) := by decide +kernel
theorem d_R_shred_61 : decode prog_5_method_22_code 61 = .ok (.iload_n 1, 1) := by decide +kernel
theorem d_R_shred_62 : decode prog_5_method_22_code 62 = .ok (.iconst 5, 1) := by decide +kernel
theorem d_R_shred_63 : decode prog_5_method_22_code 63 = .ok (.iastore, 1) := by decide +kernel
theorem d_R_shred_64 : decode prog_5_method_22_code 64 = .ok (.iconst 1, 1) := by decide +kernel
theorem d_R_shred_65 : decode prog_5_method_22_code 65 = .ok (.ireturn, 1) := by decide +kernel
theorem d_R_paper_0 : decode prog_5_method_23_code 0 = .ok (.aload_n 0, 1) := by decide +kernel
theorem d_R_paper_1 : decode prog_5_method_23_code 1 = .ok (.getfield 113, 3) := by decide +kernel
theorem d_R_paper_4 : decode prog_5_method_23_code 4 = .ok (.bipush 20, 2) := by decide +kernel
theorem d_R_paper_6 : decode prog_5_method_23_code 6 = .ok (.if_icmp .eq 60, 3) := by decide +kernel
theorem d_R_paper_9 : decode prog_5_method_23_code 9 = .ok (.aload_n 0, 1) := by decide +kernel
theorem d_R_paper_10 : decode prog_5_method_23_code 10 = .ok (.iload_n 1, 1) := by decide +kernel
theorem d_R_paper_11 : decode prog_5_method_23_code 11 = .ok (.invokevirtual 64, 3) := by decide +kernel
theorem d_R_paper_14 : decode prog_5_method_23_code 14 = .ok (.ifCond .eq 52, 3) := by decide +kernel
theorem d_R_paper_17 : decode prog_5_method_23_code 17 = .ok (.iload_n 2, 1) := by decide +kernel
theorem d_R_paper_18 : decode prog_5_method_23_code 18 = .ok (.i2l, 1) := by decide +kernel
theorem d_R_paper_19 : decode prog_5_method_23_code 19 = .ok (.lconst 0, 1) := by decide +kernel
theorem d_R_paper_20 : decode prog_5_method_23_code 20 = .ok (.ldc2_w 82, 3) := by decide +kernel
theorem d_R_paper_23 : decode prog_5_method_23_code 23 = .ok (.invokestatic 70, 3) := by decide +kernel
theorem d_R_paper_26 : decode prog_5_method_23_code 26 = .ok (.ifCond .eq 40, 3) := by decide +kernel
theorem d_R_paper_29 : decode prog_5_method_23_code 29 = .ok (.iload_n 3, 1) := by decide +kernel
theorem d_R_paper_30 : decode prog_5_method_23_code 30 = .ok (.i2l, 1) := by decide +kernel
theorem d_R_paper_31 : decode prog_5_method_23_code 31 = .ok (.lconst 0, 1) := by decide +kernel
theorem d_R_paper_32 : decode prog_5_method_23_code 32 = .ok (.ldc2_w 82, 3) := by decide +kernel
theorem d_R_paper_35 : decode prog_5_method_23_code 35 = .ok (.invokestatic 70, 3) := by decide +kernel
theorem d_R_paper_38 : decode prog_5_method_23_code 38 = .ok (.ifCond .eq 28, 3) := by decide +kernel
theorem d_R_paper_41 : decode prog_5_method_23_code 41 = .ok (.iload_n 2, 1) := by decide +kernel
theorem d_R_paper_42 : decode prog_5_method_23_code 42 = .ok (.iload_n 3, 1) := by decide +kernel
theorem d_R_paper_43 : decode prog_5_method_23_code 43 = .ok (.if_icmp .eq 23, 3) := by decide +kernel
theorem d_R_paper_46 : decode prog_5_method_23_code 46 = .ok (.aload_n 0, 1) := by decide +kernel
theorem d_R_paper_47 : decode prog_5_method_23_code 47 = .ok (.getfield 20, 3) := by decide +kernel
theorem d_R_paper_50 : decode prog_5_method_23_code 50 = .ok (.iload_n 1, 1) := by decide +kernel
theorem d_R_paper_51 : decode prog_5_method_23_code 51 = .ok (.iaload, 1) := by decide +kernel
theorem d_R_paper_52 : decode prog_5_method_23_code 52 = .ok (.iconst 3, 1) := by decide +kernel
theorem d_R_paper_53 : decode prog_5_method_23_code 53 = .ok (.if_icmp .eq 15, 3) := by decide +kernel
theorem d_R_paper_56 : decode prog_5_method_23_code 56 = .ok (.aload_n 0, 1) := by decide +kernel
theorem d_R_paper_57 : decode prog_5_method_23_code 57 = .ok (.getfield 20, 3) := by decide +kernel
theorem d_R_paper_60 : decode prog_5_method_23_code 60 = .ok (.iload_n 1, 1) := by decide +kernel
theorem d_R_paper_61 : decode prog_5_method_23_code 61 = .ok (.iaload, 1) := by decide +kernel
theorem d_R_paper_62 : decode prog_5_method_23_code 62 = .ok (.iconst 5, 1) := by decide +kernel
theorem d_R_paper_63 : decode prog_5_method_23_code 63 = .ok (.if_icmp .eq 5, 3) := by decide +kernel
theorem d_R_paper_66 : decode prog_5_method_23_code 66 = .ok (.iconst (-1), 1) := by decide +kernel
theorem d_R_paper_67 : decode prog_5_method_23_code 67 = .ok (.ireturn, 1) := by decide +kernel
theorem d_R_paper_68 : decode prog_5_method_23_code 68 = .ok (.bipush 12, 2) := by decide +kernel
theorem d_R_paper_70 : decode prog_5_method_23_code 70 = .ok (.aload_n 0, 1) := by decide +kernel
theorem d_R_paper_71 : decode prog_5_method_23_code 71 = .ok (.getfield 113, 3) := by decide +kernel
theorem d_R_paper_74 : decode prog_5_method_23_code 74 = .ok (.imul, 1) := by decide +kernel
theorem d_R_paper_75 : decode prog_5_method_23_code 75 = .ok (.istore 4, 2) := by decide +kernel
theorem d_R_paper_77 : decode prog_5_method_23_code 77 = .ok (.aload_n 0, 1) := by decide +kernel
theorem d_R_paper_78 : decode prog_5_method_23_code 78 = .ok (.getfield 48, 3) := by decide +kernel
theorem d_R_paper_81 : decode prog_5_method_23_code 81 = .ok (.iload 4, 2) := by decide +kernel
theorem d_R_paper_83 : decode prog_5_method_23_code 83 = .ok (.iload_n 1, 1) := by decide +kernel
theorem d_R_paper_84 : decode prog_5_method_23_code 84 = .ok (.iastore, 1) := by decide +kernel
theorem d_R_paper_85 : decode prog_5_method_23_code 85 = .ok (.aload_n 0, 1) := by decide +kernel
theorem d_R_paper_86 : decode prog_5_method_23_code 86 = .ok (.getfield 48, 3) := by decide +kernel
theorem d_R_paper_89 : decode prog_5_method_23_code 89 = .ok (.iload 4, 2) := by decide +kernel
theorem d_R_paper_91 : decode prog_5_method_23_code 91 = .ok (.iconst 1, 1) := by decide +kernel
theorem d_R_paper_92 : decode prog_5_method_23_code 92 = .ok (.iadd, 1) := by decide +kernel
theorem d_R_paper_93 : decode prog_5_method_23_code 93 = .ok (.aload_n 0, 1) := by decide +kernel
theorem d_R_paper_94 : decode prog_5_method_23_code 94 = .ok (.getfield 7, 3) := by decide +kernel
theorem d_R_paper_97 : decode prog_5_method_23_code 97 = .ok (.iload_n 1, 1) := by decide +kernel
theorem d_R_paper_98 : decode prog_5_method_23_code 98 = .ok (.iaload, 1) := by decide +kernel
theorem d_R_paper_99 : decode prog_5_method_23_code 99 = .ok (.iastore, 1) := by decide +kernel
theorem d_R_paper_100 : decode prog_5_method_23_code 100 = .ok (.aload_n 0, 1) := by decide +kernel
theorem d_R_paper_101 : decode prog_5_method_23_code 101 = .ok (.getfield 48, 3) := by decide +kernel
theorem d_R_paper_104 : decode prog_5_method_23_code 104 = .ok (.iload 4, 2) := by decide +kernel
theorem d_R_paper_106 : decode prog_5_method_23_code 106 = .ok (.iconst 2, 1) := by decide +kernel
theorem d_R_paper_107 : decode prog_5_method_23_code 107 = .ok (.iadd, 1) := by decide +kernel
theorem d_R_paper_108 : decode prog_5_method_23_code 108 = .ok (.iload_n 2, 1) := by decide +kernel
theorem d_R_paper_109 : decode prog_5_method_23_code 109 = .ok (.iastore, 1) := by decide +kernel
theorem d_R_paper_110 : decode prog_5_method_23_code 110 = .ok (.aload_n 0, 1) := by decide +kernel
theorem d_R_paper_111 : decode prog_5_method_23_code 111 = .ok (.getfield 48, 3) := by decide +kernel
theorem d_R_paper_114 : decode prog_5_method_23_code 114 = .ok (.iload 4, 2) := by decide +kernel
theorem d_R_paper_116 : decode prog_5_method_23_code 116 = .ok (.iconst 3, 1) := by decide +kernel
theorem d_R_paper_117 : decode prog_5_method_23_code 117 = .ok (.iadd, 1) := by decide +kernel
theorem d_R_paper_118 : decode prog_5_method_23_code 118 = .ok (.iload_n 3, 1) := by decide +kernel
theorem d_R_paper_119 : decode prog_5_method_23_code 119 = .ok (.iastore, 1) := by decide +kernel
theorem d_R_paper_120 : decode prog_5_method_23_code 120 = .ok (.aload_n 0, 1) := by decide +kernel
theorem d_R_paper_121 : decode prog_5_method_23_code 121 = .ok (.getfield 48, 3) := by decide +kernel
theorem d_R_paper_124 : decode prog_5_method_23_code 124 = .ok (.iload 4, 2) := by decide +kernel
theorem d_R_paper_126 : decode prog_5_method_23_code 126 = .ok (.iconst 4, 1) := by decide +kernel
theorem d_R_paper_127 : decode prog_5_method_23_code 127 = .ok (.iadd, 1) := by decide +kernel
theorem d_R_paper_128 : decode prog_5_method_23_code 128 = .ok (.aload_n 0, 1) := by decide +kernel
theorem d_R_paper_129 : decode prog_5_method_23_code 129 = .ok (.getfield 20, 3) := by decide +kernel
theorem d_R_paper_132 : decode prog_5_method_23_code 132 = .ok (.iload_n 1, 1) := by decide +kernel
theorem d_R_paper_133 : decode prog_5_method_23_code 133 = .ok (.iaload, 1) := by decide +kernel
theorem d_R_paper_134 : decode prog_5_method_23_code 134 = .ok (.iastore, 1) := by decide +kernel
theorem d_R_paper_135 : decode prog_5_method_23_code 135 = .ok (.aload_n 0, 1) := by decide +kernel
theorem d_R_paper_136 : decode prog_5_method_23_code 136 = .ok (.getfield 48, 3) := by decide +kernel
theorem d_R_paper_139 : decode prog_5_method_23_code 139 = .ok (.iload 4, 2) := by decide +kernel
theorem d_R_paper_141 : decode prog_5_method_23_code 141 = .ok (.iconst 5, 1) := by decide +kernel
theorem d_R_paper_142 : decode prog_5_method_23_code 142 = .ok (.iadd, 1) := by decide +kernel
theorem d_R_paper_143 : decode prog_5_method_23_code 143 = .ok (.aload_n 0, 1) := by decide +kernel
theorem d_R_paper_144 : decode prog_5_method_23_code 144 = .ok (.getfield 42, 3) := by decide +kernel
theorem d_R_paper_147 : decode prog_5_method_23_code 147 = .ok (.iload_n 1, 1) := by decide +kernel
theorem d_R_paper_148 : decode prog_5_method_23_code 148 = .ok (.iaload, 1) := by decide +kernel
theorem d_R_paper_149 : decode prog_5_method_23_code 149 = .ok (.iastore, 1) := by decide +kernel
theorem d_R_paper_150 : decode prog_5_method_23_code 150 = .ok (.iconst 0, 1) := by decide +kernel
theorem d_R_paper_151 : decode prog_5_method_23_code 151 = .ok (.istore 5, 2) := by decide +kernel
theorem d_R_paper_153 : decode prog_5_method_23_code 153 = .ok (.iload 5, 2) := by decide +kernel
theorem d_R_paper_155 : decode prog_5_method_23_code 155 = .ok (.aload_n 0, 1) := by decide +kernel
theorem d_R_paper_156 : decode prog_5_method_23_code 156 = .ok (.getfield 42, 3) := by decide +kernel
theorem d_R_paper_159 : decode prog_5_method_23_code 159 = .ok (.iload_n 1, 1) := by decide +kernel
theorem d_R_paper_160 : decode prog_5_method_23_code 160 = .ok (.iaload, 1) := by decide +kernel
theorem d_R_paper_161 : decode prog_5_method_23_code 161 = .ok (.if_icmp .ge 34, 3) := by decide +kernel
theorem d_R_paper_164 : decode prog_5_method_23_code 164 = .ok (.aload_n 0, 1) := by decide +kernel
theorem d_R_paper_165 : decode prog_5_method_23_code 165 = .ok (.getfield 48, 3) := by decide +kernel
theorem d_R_paper_168 : decode prog_5_method_23_code 168 = .ok (.iload 4, 2) := by decide +kernel
theorem d_R_paper_170 : decode prog_5_method_23_code 170 = .ok (.bipush 6, 2) := by decide +kernel
theorem d_R_paper_172 : decode prog_5_method_23_code 172 = .ok (.iadd, 1) := by decide +kernel
theorem d_R_paper_173 : decode prog_5_method_23_code 173 = .ok (.iload 5, 2) := by decide +kernel
theorem d_R_paper_175 : decode prog_5_method_23_code 175 = .ok (.iadd, 1) := by decide +kernel
theorem d_R_paper_176 : decode prog_5_method_23_code 176 = .ok (.aload_n 0, 1) := by decide +kernel
theorem d_R_paper_177 : decode prog_5_method_23_code 177 = .ok (.getfield 45, 3) := by decide +kernel
theorem d_R_paper_180 : decode prog_5_method_23_code 180 = .ok (.bipush 6, 2) := by decide +kernel
theorem d_R_paper_182 : decode prog_5_method_23_code 182 = .ok (.iload_n 1, 1) := by decide +kernel
theorem d_R_paper_183 : decode prog_5_method_23_code 183 = .ok (.imul, 1) := by decide +kernel
theorem d_R_paper_184 : decode prog_5_method_23_code 184 = .ok (.iload 5, 2) := by decide +kernel
theorem d_R_paper_186 : decode prog_5_method_23_code 186 = .ok (.iadd, 1) := by decide +kernel
theorem d_R_paper_187 : decode prog_5_method_23_code 187 = .ok (.iaload, 1) := by decide +kernel
theorem d_R_paper_188 : decode prog_5_method_23_code 188 = .ok (.iastore, 1) := by decide +kernel
theorem d_R_paper_189 : decode prog_5_method_23_code 189 = .ok (.iinc 5 1, 3) := by decide +kernel
theorem d_R_paper_192 : decode prog_5_method_23_code 192 = .ok (.goto (-39), 3) := by decide +kernel
theorem d_R_paper_195 : decode prog_5_method_23_code 195 = .ok (.aload_n 0, 1) := by decide +kernel
theorem d_R_paper_196 : decode prog_5_method_23_code 196 = .ok (.getfield 51, 3) := by decide +kernel
theorem d_R_paper_199 : decode prog_5_method_23_code 199 = .ok (.aload_n 0, 1) := by decide +kernel
theorem d_R_paper_200 : decode prog_5_method_23_code 200 = .ok (.getfield 113, 3) := by decide +kernel
theorem d_R_paper_203 : decode prog_5_method_23_code 203 = .ok (.bipush 6, 2) := by decide +kernel
theorem d_R_paper_205 : decode prog_5_method_23_code 205 = .ok (.aload_n 0, 1) := by decide +kernel
theorem d_R_paper_206 : decode prog_5_method_23_code 206 = .ok (.getfield 42, 3) := by decide +kernel
theorem d_R_paper_209 : decode prog_5_method_23_code 209 = .ok (.iload_n 1, 1) := by decide +kernel
theorem d_R_paper_210 : decode prog_5_method_23_code 210 = .ok (.iaload, 1) := by decide +kernel
theorem d_R_paper_211 : decode prog_5_method_23_code 211 = .ok (.iadd, 1) := by decide +kernel
theorem d_R_paper_212 : decode prog_5_method_23_code 212 = .ok (.iastore, 1) := by decide +kernel
theorem d_R_paper_213 : decode prog_5_method_23_code 213 = .ok (.aload_n 0, 1) := by decide +kernel
theorem d_R_paper_214 : decode prog_5_method_23_code 214 = .ok (.dup, 1) := by decide +kernel
theorem d_R_paper_215 : decode prog_5_method_23_code 215 = .ok (.getfield 113, 3) := by decide +kernel
theorem d_R_paper_218 : decode prog_5_method_23_code 218 = .ok (.iconst 1, 1) := by decide +kernel
theorem d_R_paper_219 : decode prog_5_method_23_code 219 = .ok (.iadd, 1) := by decide +kernel
theorem d_R_paper_220 : decode prog_5_method_23_code 220 = .ok (.putfield 113, 3) := by decide +kernel
theorem d_R_paper_223 : decode prog_5_method_23_code 223 = .ok (.aload_n 0, 1) := by decide +kernel
theorem d_R_paper_224 : decode prog_5_method_23_code 224 = .ok (.getfield 113, 3) := by decide +kernel
theorem d_R_paper_227 : decode prog_5_method_23_code 227 = .ok (.iconst 1, 1) := by decide +kernel
theorem d_R_paper_228 : decode prog_5_method_23_code 228 = .ok (.isub, 1) := by decide +kernel
theorem d_R_paper_229 : decode prog_5_method_23_code 229 = .ok (.ireturn, 1) := by decide +kernel
theorem d_R_at_0 : decode prog_5_method_25_code 0 = .ok (.aload_n 0, 1) := by decide +kernel
theorem d_R_at_1 : decode prog_5_method_25_code 1 = .ok (.iload_n 1, 1) := by decide +kernel
theorem d_R_at_2 : decode prog_5_method_25_code 2 = .ok (.invokevirtual 116, 3) := by decide +kernel
theorem d_R_at_5 : decode prog_5_method_25_code 5 = .ok (.ifCond .eq 31, 3) := by decide +kernel
theorem d_R_at_8 : decode prog_5_method_25_code 8 = .ok (.iload_n 2, 1) := by decide +kernel
theorem d_R_at_9 : decode prog_5_method_25_code 9 = .ok (.ifCond .lt 27, 3) := by decide +kernel
theorem d_R_at_12 : decode prog_5_method_25_code 12 = .ok (.iload_n 2, 1) := by decide +kernel
theorem d_R_at_13 : decode prog_5_method_25_code 13 = .ok (.aload_n 0, 1) := by decide +kernel
theorem d_R_at_14 : decode prog_5_method_25_code 14 = .ok (.getfield 51, 3) := by decide +kernel
theorem d_R_at_17 : decode prog_5_method_25_code 17 = .ok (.iload_n 1, 1) := by decide +kernel
theorem d_R_at_18 : decode prog_5_method_25_code 18 = .ok (.iaload, 1) := by decide +kernel
theorem d_R_at_19 : decode prog_5_method_25_code 19 = .ok (.if_icmp .ge 17, 3) := by decide +kernel
theorem d_R_at_22 : decode prog_5_method_25_code 22 = .ok (.aload_n 0, 1) := by decide +kernel
theorem d_R_at_23 : decode prog_5_method_25_code 23 = .ok (.getfield 48, 3) := by decide +kernel
theorem d_R_at_26 : decode prog_5_method_25_code 26 = .ok (.bipush 12, 2) := by decide +kernel
theorem d_R_at_28 : decode prog_5_method_25_code 28 = .ok (.iload_n 1, 1) := by decide +kernel
theorem d_R_at_29 : decode prog_5_method_25_code 29 = .ok (.imul, 1) := by decide +kernel
theorem d_R_at_30 : decode prog_5_method_25_code 30 = .ok (.iload_n 2, 1) := by decide +kernel
theorem d_R_at_31 : decode prog_5_method_25_code 31 = .ok (.iadd, 1) := by decide +kernel
theorem d_R_at_32 : decode prog_5_method_25_code 32 = .ok (.iaload, 1) := by decide +kernel
theorem d_R_at_33 : decode prog_5_method_25_code 33 = .ok (.goto 4, 3) := by decide +kernel
theorem d_R_at_36 : decode prog_5_method_25_code 36 = .ok (.iconst (-1), 1) := by decide +kernel
theorem d_R_at_37 : decode prog_5_method_25_code 37 = .ok (.ireturn, 1) := by decide +kernel
theorem d_R_isPaper_0 : decode prog_5_method_24_code 0 = .ok (.iload_n 1, 1) := by decide +kernel
theorem d_R_isPaper_1 : decode prog_5_method_24_code 1 = .ok (.ifCond .lt 15, 3) := by decide +kernel
theorem d_R_isPaper_4 : decode prog_5_method_24_code 4 = .ok (.iload_n 1, 1) := by decide +kernel
theorem d_R_isPaper_5 : decode prog_5_method_24_code 5 = .ok (.aload_n 0, 1) := by decide +kernel
theorem d_R_isPaper_6 : decode prog_5_method_24_code 6 = .ok (.getfield 113, 3) := by decide +kernel
theorem d_R_isPaper_9 : decode prog_5_method_24_code 9 = .ok (.if_icmp .ge 7, 3) := by decide +kernel
theorem d_R_isPaper_12 : decode prog_5_method_24_code 12 = .ok (.iconst 1, 1) := by decide +kernel
theorem d_R_isPaper_13 : decode prog_5_method_24_code 13 = .ok (.goto 4, 3) := by decide +kernel
theorem d_R_isPaper_16 : decode prog_5_method_24_code 16 = .ok (.iconst 0, 1) := by decide +kernel
theorem d_R_isPaper_17 : decode prog_5_method_24_code 17 = .ok (.ireturn, 1) := by decide +kernel
theorem d_R_mark_0 : decode prog_5_method_27_code 0 = .ok (.aload_n 0, 1) := by decide +kernel
theorem d_R_mark_1 : decode prog_5_method_27_code 1 = .ok (.iload_n 1, 1) := by decide +kernel
theorem d_R_mark_2 : decode prog_5_method_27_code 2 = .ok (.invokevirtual 116, 3) := by decide +kernel
theorem d_R_mark_5 : decode prog_5_method_27_code 5 = .ok (.ifCond .eq 39, 3) := by decide +kernel
theorem d_R_mark_8 : decode prog_5_method_27_code 8 = .ok (.iload 4, 2) := by decide +kernel
theorem d_R_mark_10 : decode prog_5_method_27_code 10 = .ok (.i2l, 1) := by decide +kernel
theorem d_R_mark_11 : decode prog_5_method_27_code 11 = .ok (.lconst 0, 1) := by decide +kernel
theorem d_R_mark_12 : decode prog_5_method_27_code 12 = .ok (.ldc2_w 121, 3) := by decide +kernel
theorem d_R_mark_15 : decode prog_5_method_27_code 15 = .ok (.invokestatic 70, 3) := by decide +kernel
theorem d_R_mark_18 : decode prog_5_method_27_code 18 = .ok (.ifCond .eq 26, 3) := by decide +kernel
theorem d_R_mark_21 : decode prog_5_method_27_code 21 = .ok (.aload_n 0, 1) := by decide +kernel
theorem d_R_mark_22 : decode prog_5_method_27_code 22 = .ok (.iload_n 1, 1) := by decide +kernel
theorem d_R_mark_23 : decode prog_5_method_27_code 23 = .ok (.lload_n 2, 1) := by decide +kernel
theorem d_R_mark_24 : decode prog_5_method_27_code 24 = .ok (.invokevirtual 123, 3) := by decide +kernel
theorem d_R_mark_27 : decode prog_5_method_27_code 27 = .ok (.bipush 56, 2) := by decide +kernel
theorem d_R_mark_29 : decode prog_5_method_27_code 29 = .ok (.bipush 8, 2) := by decide +kernel
theorem d_R_mark_31 : decode prog_5_method_27_code 31 = .ok (.iload 4, 2) := by decide +kernel
theorem d_R_mark_33 : decode prog_5_method_27_code 33 = .ok (.imul, 1) := by decide +kernel
theorem d_R_mark_34 : decode prog_5_method_27_code 34 = .ok (.isub, 1) := by decide +kernel
theorem d_R_mark_35 : decode prog_5_method_27_code 35 = .ok (.lushr, 1) := by decide +kernel
theorem d_R_mark_36 : decode prog_5_method_27_code 36 = .ok (.ldc2_w 101, 3) := by decide +kernel
theorem d_R_mark_39 : decode prog_5_method_27_code 39 = .ok (.land, 1) := by decide +kernel
theorem d_R_mark_40 : decode prog_5_method_27_code 40 = .ok (.l2i, 1) := by decide +kernel
theorem d_R_mark_41 : decode prog_5_method_27_code 41 = .ok (.goto 4, 3) := by decide +kernel
theorem d_R_mark_44 : decode prog_5_method_27_code 44 = .ok (.iconst (-1), 1) := by decide +kernel
theorem d_R_mark_45 : decode prog_5_method_27_code 45 = .ok (.ireturn, 1) := by decide +kernel
theorem d_R_markOf_0 : decode prog_5_method_26_code 0 = .ok (.lload_n 2, 1) := by decide +kernel
theorem d_R_markOf_1 : decode prog_5_method_26_code 1 = .ok (.lstore 4, 2) := by decide +kernel
theorem d_R_markOf_3 : decode prog_5_method_26_code 3 = .ok (.iconst 0, 1) := by decide +kernel
theorem d_R_markOf_4 : decode prog_5_method_26_code 4 = .ok (.istore 6, 2) := by decide +kernel
theorem d_R_markOf_6 : decode prog_5_method_26_code 6 = .ok (.iload 6, 2) := by decide +kernel
theorem d_R_markOf_8 : decode prog_5_method_26_code 8 = .ok (.aload_n 0, 1) := by decide +kernel
theorem d_R_markOf_9 : decode prog_5_method_26_code 9 = .ok (.getfield 51, 3) := by decide +kernel
theorem d_R_markOf_12 : decode prog_5_method_26_code 12 = .ok (.iload_n 1, 1) := by decide +kernel
theorem d_R_markOf_13 : decode prog_5_method_26_code 13 = .ok (.iaload, 1) := by decide +kernel
theorem d_R_markOf_14 : decode prog_5_method_26_code 14 = .ok (.if_icmp .ge 43, 3) := by decide +kernel
theorem d_R_markOf_17 : decode prog_5_method_26_code 17 = .ok (.lload 4, 2) := by decide +kernel
theorem d_R_markOf_19 : decode prog_5_method_26_code 19 = .ok (.aload_n 0, 1) := by decide +kernel
theorem d_R_markOf_20 : decode prog_5_method_26_code 20 = .ok (.getfield 48, 3) := by decide +kernel
theorem d_R_markOf_23 : decode prog_5_method_26_code 23 = .ok (.bipush 12, 2) := by decide +kernel
theorem d_R_markOf_25 : decode prog_5_method_26_code 25 = .ok (.iload_n 1, 1) := by decide +kernel
theorem d_R_markOf_26 : decode prog_5_method_26_code 26 = .ok (.imul, 1) := by decide +kernel
theorem d_R_markOf_27 : decode prog_5_method_26_code 27 = .ok (.iload 6, 2) := by decide +kernel
theorem d_R_markOf_29 : decode prog_5_method_26_code 29 = .ok (.iadd, 1) := by decide +kernel
theorem d_R_markOf_30 : decode prog_5_method_26_code 30 = .ok (.iaload, 1) := by decide +kernel
theorem d_R_markOf_31 : decode prog_5_method_26_code 31 = .ok (.i2l, 1) := by decide +kernel
theorem d_R_markOf_32 : decode prog_5_method_26_code 32 = .ok (.ladd, 1) := by decide +kernel
theorem d_R_markOf_33 : decode prog_5_method_26_code 33 = .ok (.lconst 1, 1) := by decide +kernel
theorem d_R_markOf_34 : decode prog_5_method_26_code 34 = .ok (.ladd, 1) := by decide +kernel
theorem d_R_markOf_35 : decode prog_5_method_26_code 35 = .ok (.ldc2_w 119, 3) := by decide +kernel
theorem d_R_markOf_38 : decode prog_5_method_26_code 38 = .ok (.lmul, 1) := by decide +kernel
theorem d_R_markOf_39 : decode prog_5_method_26_code 39 = .ok (.lstore 4, 2) := by decide +kernel
theorem d_R_markOf_41 : decode prog_5_method_26_code 41 = .ok (.lload 4, 2) := by decide +kernel
theorem d_R_markOf_43 : decode prog_5_method_26_code 43 = .ok (.lload 4, 2) := by decide +kernel
theorem d_R_markOf_45 : decode prog_5_method_26_code 45 = .ok (.bipush 32, 2) := by decide +kernel
theorem d_R_markOf_47 : decode prog_5_method_26_code 47 = .ok (.lushr, 1) := by decide +kernel
theorem d_R_markOf_48 : decode prog_5_method_26_code 48 = .ok (.lxor, 1) := by decide +kernel
theorem d_R_markOf_49 : decode prog_5_method_26_code 49 = .ok (.lstore 4, 2) := by decide +kernel
theorem d_R_markOf_51 : decode prog_5_method_26_code 51 = .ok (.iinc 6 1, 3) := by decide +kernel
theorem d_R_markOf_54 : decode prog_5_method_26_code 54 = .ok (.goto (-48), 3) := by decide +kernel
theorem d_R_markOf_57 : decode prog_5_method_26_code 57 = .ok (.lload 4, 2) := by decide +kernel
theorem d_R_markOf_59 : decode prog_5_method_26_code 59 = .ok (.lreturn, 1) := by decide +kernel
theorem d_R_check_0 : decode prog_5_method_28_code 0 = .ok (.aload_n 0, 1) := by decide +kernel
theorem d_R_check_1 : decode prog_5_method_28_code 1 = .ok (.iload_n 1, 1) := by decide +kernel
theorem d_R_check_2 : decode prog_5_method_28_code 2 = .ok (.invokevirtual 116, 3) := by decide +kernel
theorem d_R_check_5 : decode prog_5_method_28_code 5 = .ok (.istore 6, 2) := by decide +kernel
theorem d_R_check_7 : decode prog_5_method_28_code 7 = .ok (.iconst 0, 1) := by decide +kernel
theorem d_R_check_8 : decode prog_5_method_28_code 8 = .ok (.istore 7, 2) := by decide +kernel
theorem d_R_check_10 : decode prog_5_method_28_code 10 = .ok (.iload 7, 2) := by decide +kernel
theorem d_R_check_12 : decode prog_5_method_28_code 12 = .ok (.bipush 8, 2) := by decide +kernel
theorem d_R_check_14 : decode prog_5_method_28_code 14 = .ok (.if_icmp .ge 48, 3) := by decide +kernel
theorem d_R_check_17 : decode prog_5_method_28_code 17 = .ok (.iload 6, 2) := by decide +kernel
theorem d_R_check_19 : decode prog_5_method_28_code 19 = .ok (.ifCond .eq 43, 3) := by decide +kernel
theorem d_R_check_22 : decode prog_5_method_28_code 22 = .ok (.aload_n 0, 1) := by decide +kernel
theorem d_R_check_23 : decode prog_5_method_28_code 23 = .ok (.iload_n 1, 1) := by decide +kernel
theorem d_R_check_24 : decode prog_5_method_28_code 24 = .ok (.lload_n 2, 1) := by decide +kernel
theorem d_R_check_25 : decode prog_5_method_28_code 25 = .ok (.iload 7, 2) := by decide +kernel
theorem d_R_check_27 : decode prog_5_method_28_code 27 = .ok (.invokevirtual 127, 3) := by decide +kernel
theorem d_R_check_30 : decode prog_5_method_28_code 30 = .ok (.lload 4, 2) := by decide +kernel
theorem d_R_check_32 : decode prog_5_method_28_code 32 = .ok (.bipush 56, 2) := by decide +kernel
theorem d_R_check_34 : decode prog_5_method_28_code 34 = .ok (.bipush 8, 2) := by decide +kernel
theorem d_R_check_36 : decode prog_5_method_28_code 36 = .ok (.iload 7, 2) := by decide +kernel
theorem d_R_check_38 : decode prog_5_method_28_code 38 = .ok (.imul, 1) := by decide +kernel
theorem d_R_check_39 : decode prog_5_method_28_code 39 = .ok (.isub, 1) := by decide +kernel
theorem d_R_check_40 : decode prog_5_method_28_code 40 = .ok (.lushr, 1) := by decide +kernel
theorem d_R_check_41 : decode prog_5_method_28_code 41 = .ok (.ldc2_w 101, 3) := by decide +kernel
theorem d_R_check_44 : decode prog_5_method_28_code 44 = .ok (.land, 1) := by decide +kernel
theorem d_R_check_45 : decode prog_5_method_28_code 45 = .ok (.l2i, 1) := by decide +kernel
theorem d_R_check_46 : decode prog_5_method_28_code 46 = .ok (.if_icmp .ne 7, 3) := by decide +kernel
theorem d_R_check_49 : decode prog_5_method_28_code 49 = .ok (.iconst 1, 1) := by decide +kernel
theorem d_R_check_50 : decode prog_5_method_28_code 50 = .ok (.goto 4, 3) := by decide +kernel
theorem d_R_check_53 : decode prog_5_method_28_code 53 = .ok (.iconst 0, 1) := by decide +kernel
theorem d_R_check_54 : decode prog_5_method_28_code 54 = .ok (.istore 6, 2) := by decide +kernel
theorem d_R_check_56 : decode prog_5_method_28_code 56 = .ok (.iinc 7 1, 3) := by decide +kernel
theorem d_R_check_59 : decode prog_5_method_28_code 59 = .ok (.goto (-49), 3) := by decide +kernel
theorem d_R_check_62 : decode prog_5_method_28_code 62 = .ok (.iload 6, 2) := by decide +kernel
theorem d_R_check_64 : decode prog_5_method_28_code 64 = .ok (.ireturn, 1) := by decide +kernel
theorem d_R_listed_0 : decode prog_5_method_30_code 0 = .ok (.aload_n 0, 1) := by decide +kernel
theorem d_R_listed_1 : decode prog_5_method_30_code 1 = .ok (.getfield 131, 3) := by decide +kernel
theorem d_R_listed_4 : decode prog_5_method_30_code 4 = .ok (.bipush 20, 2) := by decide +kernel
theorem d_R_listed_6 : decode prog_5_method_30_code 6 = .ok (.if_icmp .eq 22, 3) := by decide +kernel
theorem d_R_listed_9 : decode prog_5_method_30_code 9 = .ok (.lload_n 1, 1) := by decide +kernel
theorem d_R_listed_10 : decode prog_5_method_30_code 10 = .ok (.lconst 0, 1) := by decide +kernel
theorem d_R_listed_11 : decode prog_5_method_30_code 11 = .ok (.ldc2_w 74, 3) := by decide +kernel
theorem d_R_listed_14 : decode prog_5_method_30_code 14 = .ok (.invokestatic 70, 3) := by decide +kernel
theorem d_R_listed_17 : decode prog_5_method_30_code 17 = .ok (.ifCond .eq 11, 3) := by decide +kernel
theorem d_R_listed_20 : decode prog_5_method_30_code 20 = .ok (.aload_n 0, 1) := by decide +kernel
theorem d_R_listed_21 : decode prog_5_method_30_code 21 = .ok (.lload_n 1, 1) := by decide +kernel
theorem d_R_listed_22 : decode prog_5_method_30_code 22 = .ok (.invokevirtual 134, 3) := by decide +kernel
theorem d_R_listed_25 : decode prog_5_method_30_code 25 = .ok (.ifCond .eq 5, 3) := by decide +kernel
theorem d_R_listed_28 : decode prog_5_method_30_code 28 = .ok (.iconst (-1), 1) := by decide +kernel
theorem d_R_listed_29 : decode prog_5_method_30_code 29 = .ok (.ireturn, 1) := by decide +kernel
theorem d_R_listed_30 : decode prog_5_method_30_code 30 = .ok (.aload_n 0, 1) := by decide +kernel
theorem d_R_listed_31 : decode prog_5_method_30_code 31 = .ok (.getfield 54, 3) := by decide +kernel
theorem d_R_listed_34 : decode prog_5_method_30_code 34 = .ok (.aload_n 0, 1) := by decide +kernel
theorem d_R_listed_35 : decode prog_5_method_30_code 35 = .ok (.getfield 131, 3) := by decide +kernel
theorem d_R_listed_38 : decode prog_5_method_30_code 38 = .ok (.lload_n 1, 1) := by decide +kernel
theorem d_R_listed_39 : decode prog_5_method_30_code 39 = .ok (.lastore, 1) := by decide +kernel
theorem d_R_listed_40 : decode prog_5_method_30_code 40 = .ok (.aload_n 0, 1) := by decide +kernel
theorem d_R_listed_41 : decode prog_5_method_30_code 41 = .ok (.dup, 1) := by decide +kernel
theorem d_R_listed_42 : decode prog_5_method_30_code 42 = .ok (.getfield 131, 3) := by decide +kernel
theorem d_R_listed_45 : decode prog_5_method_30_code 45 = .ok (.iconst 1, 1) := by decide +kernel
theorem d_R_listed_46 : decode prog_5_method_30_code 46 = .ok (.iadd, 1) := by decide +kernel
theorem d_R_listed_47 : decode prog_5_method_30_code 47 = .ok (.putfield 131, 3) := by decide +kernel
theorem d_R_listed_50 : decode prog_5_method_30_code 50 = .ok (.aload_n 0, 1) := by decide +kernel
theorem d_R_listed_51 : decode prog_5_method_30_code 51 = .ok (.getfield 131, 3) := by decide +kernel
theorem d_R_listed_54 : decode prog_5_method_30_code 54 = .ok (.ireturn, 1) := by decide +kernel
theorem d_R_isListed_0 : decode prog_5_method_29_code 0 = .ok (.iconst 0, 1) := by decide +kernel
theorem d_R_isListed_1 : decode prog_5_method_29_code 1 = .ok (.istore_n 3, 1) := by decide +kernel
theorem d_R_isListed_2 : decode prog_5_method_29_code 2 = .ok (.iconst 0, 1) := by decide +kernel
theorem d_R_isListed_3 : decode prog_5_method_29_code 3 = .ok (.istore 4, 2) := by decide +kernel
theorem d_R_isListed_5 : decode prog_5_method_29_code 5 = .ok (.iload 4, 2) := by decide +kernel
theorem d_R_isListed_7 : decode prog_5_method_29_code 7 = .ok (.aload_n 0, 1) := by decide +kernel
theorem d_R_isListed_8 : decode prog_5_method_29_code 8 = .ok (.getfield 131, 3) := by decide +kernel
theorem d_R_isListed_11 : decode prog_5_method_29_code 11 = .ok (.if_icmp .ge 31, 3) := by decide +kernel
theorem d_R_isListed_14 : decode prog_5_method_29_code 14 = .ok (.iload_n 3, 1) := by decide +kernel
theorem d_R_isListed_15 : decode prog_5_method_29_code 15 = .ok (.ifCond .ne 15, 3) := by decide +kernel
theorem d_R_isListed_18 : decode prog_5_method_29_code 18 = .ok (.aload_n 0, 1) := by decide +kernel
theorem d_R_isListed_19 : decode prog_5_method_29_code 19 = .ok (.getfield 54, 3) := by decide +kernel
theorem d_R_isListed_22 : decode prog_5_method_29_code 22 = .ok (.iload 4, 2) := by decide +kernel
theorem d_R_isListed_24 : decode prog_5_method_29_code 24 = .ok (.laload, 1) := by decide +kernel
theorem d_R_isListed_25 : decode prog_5_method_29_code 25 = .ok (.lload_n 1, 1) := by decide +kernel
theorem d_R_isListed_26 : decode prog_5_method_29_code 26 = .ok (.lcmp, 1) := by decide +kernel
theorem d_R_isListed_27 : decode prog_5_method_29_code 27 = .ok (.ifCond .ne 7, 3) := by decide +kernel
theorem d_R_isListed_30 : decode prog_5_method_29_code 30 = .ok (.iconst 1, 1) := by decide +kernel
theorem d_R_isListed_31 : decode prog_5_method_29_code 31 = .ok (.goto 4, 3) := by decide +kernel
theorem d_R_isListed_34 : decode prog_5_method_29_code 34 = .ok (.iconst 0, 1) := by decide +kernel
theorem d_R_isListed_35 : decode prog_5_method_29_code 35 = .ok (.istore_n 3, 1) := by decide +kernel
theorem d_R_isListed_36 : decode prog_5_method_29_code 36 = .ok (.iinc 4 1, 3) := by decide +kernel
theorem d_R_isListed_39 : decode prog_5_method_29_code 39 = .ok (.goto (-34), 3) := by decide +kernel
theorem d_R_isListed_42 : decode prog_5_method_29_code 42 = .ok (.iload_n 3, 1) := by decide +kernel
theorem d_R_isListed_43 : decode prog_5_method_29_code 43 = .ok (.ireturn, 1) := by decide +kernel
theorem d_R_missing_0 : decode prog_5_method_31_code 0 = .ok (.iconst 0, 1) := by decide +kernel
theorem d_R_missing_1 : decode prog_5_method_31_code 1 = .ok (.istore_n 2, 1) := by decide +kernel
theorem d_R_missing_2 : decode prog_5_method_31_code 2 = .ok (.iconst 0, 1) := by decide +kernel
theorem d_R_missing_3 : decode prog_5_method_31_code 3 = .ok (.istore_n 3, 1) := by decide +kernel
theorem d_R_missing_4 : decode prog_5_method_31_code 4 = .ok (.iload_n 3, 1) := by decide +kernel
theorem d_R_missing_5 : decode prog_5_method_31_code 5 = .ok (.aload_n 0, 1) := by decide +kernel
theorem d_R_missing_6 : decode prog_5_method_31_code 6 = .ok (.getfield 131, 3) := by decide +kernel
theorem d_R_missing_9 : decode prog_5_method_31_code 9 = .ok (.if_icmp .ge 32, 3) := by decide +kernel
theorem d_R_missing_12 : decode prog_5_method_31_code 12 = .ok (.aload_n 0, 1) := by decide +kernel
theorem d_R_missing_13 : decode prog_5_method_31_code 13 = .ok (.aload_n 0, 1) := by decide +kernel
theorem d_R_missing_14 : decode prog_5_method_31_code 14 = .ok (.getfield 54, 3) := by decide +kernel
theorem d_R_missing_17 : decode prog_5_method_31_code 17 = .ok (.iload_n 3, 1) := by decide +kernel
theorem d_R_missing_18 : decode prog_5_method_31_code 18 = .ok (.laload, 1) := by decide +kernel
theorem d_R_missing_19 : decode prog_5_method_31_code 19 = .ok (.invokevirtual 78, 3) := by decide +kernel
theorem d_R_missing_22 : decode prog_5_method_31_code 22 = .ok (.ifCond .ne 13, 3) := by decide +kernel
theorem d_R_missing_25 : decode prog_5_method_31_code 25 = .ok (.iload_n 2, 1) := by decide +kernel
theorem d_R_missing_26 : decode prog_5_method_31_code 26 = .ok (.iload_n 1, 1) := by decide +kernel
theorem d_R_missing_27 : decode prog_5_method_31_code 27 = .ok (.if_icmp .ne 5, 3) := by decide +kernel
theorem d_R_missing_30 : decode prog_5_method_31_code 30 = .ok (.iload_n 3, 1) := by decide +kernel
theorem d_R_missing_31 : decode prog_5_method_31_code 31 = .ok (.ireturn, 1) := by decide +kernel
theorem d_R_missing_32 : decode prog_5_method_31_code 32 = .ok (.iinc 2 1, 3) := by decide +kernel
theorem d_R_missing_35 : decode prog_5_method_31_code 35 = .ok (.iinc 3 1, 3) := by decide +kernel
theorem d_R_missing_38 : decode prog_5_method_31_code 38 = .ok (.goto (-34), 3) := by decide +kernel
theorem d_R_missing_41 : decode prog_5_method_31_code 41 = .ok (.iconst (-1), 1) := by decide +kernel
theorem d_R_missing_42 : decode prog_5_method_31_code 42 = .ok (.ireturn, 1) := by decide +kernel
theorem d_R_extra_0 : decode prog_5_method_32_code 0 = .ok (.iconst 0, 1) := by decide +kernel
theorem d_R_extra_1 : decode prog_5_method_32_code 1 = .ok (.istore_n 2, 1) := by decide +kernel
theorem d_R_extra_2 : decode prog_5_method_32_code 2 = .ok (.iconst 0, 1) := by decide +kernel
theorem d_R_extra_3 : decode prog_5_method_32_code 3 = .ok (.istore_n 3, 1) := by decide +kernel
theorem d_R_extra_4 : decode prog_5_method_32_code 4 = .ok (.iload_n 3, 1) := by decide +kernel
theorem d_R_extra_5 : decode prog_5_method_32_code 5 = .ok (.aload_n 0, 1) := by decide +kernel
theorem d_R_extra_6 : decode prog_5_method_32_code 6 = .ok (.getfield 60, 3) := by decide +kernel
theorem d_R_extra_9 : decode prog_5_method_32_code 9 = .ok (.if_icmp .ge 32, 3) := by decide +kernel
theorem d_R_extra_12 : decode prog_5_method_32_code 12 = .ok (.aload_n 0, 1) := by decide +kernel
theorem d_R_extra_13 : decode prog_5_method_32_code 13 = .ok (.aload_n 0, 1) := by decide +kernel
theorem d_R_extra_14 : decode prog_5_method_32_code 14 = .ok (.getfield 13, 3) := by decide +kernel
theorem d_R_extra_17 : decode prog_5_method_32_code 17 = .ok (.iload_n 3, 1) := by decide +kernel
theorem d_R_extra_18 : decode prog_5_method_32_code 18 = .ok (.laload, 1) := by decide +kernel
theorem d_R_extra_19 : decode prog_5_method_32_code 19 = .ok (.invokevirtual 134, 3) := by decide +kernel
theorem d_R_extra_22 : decode prog_5_method_32_code 22 = .ok (.ifCond .ne 13, 3) := by decide +kernel
theorem d_R_extra_25 : decode prog_5_method_32_code 25 = .ok (.iload_n 2, 1) := by decide +kernel
theorem d_R_extra_26 : decode prog_5_method_32_code 26 = .ok (.iload_n 1, 1) := by decide +kernel
theorem d_R_extra_27 : decode prog_5_method_32_code 27 = .ok (.if_icmp .ne 5, 3) := by decide +kernel
theorem d_R_extra_30 : decode prog_5_method_32_code 30 = .ok (.iload_n 3, 1) := by decide +kernel
theorem d_R_extra_31 : decode prog_5_method_32_code 31 = .ok (.ireturn, 1) := by decide +kernel
theorem d_R_extra_32 : decode prog_5_method_32_code 32 = .ok (.iinc 2 1, 3) := by decide +kernel
theorem d_R_extra_35 : decode prog_5_method_32_code 35 = .ok (.iinc 3 1, 3) := by decide +kernel
theorem d_R_extra_38 : decode prog_5_method_32_code 38 = .ok (.goto (-34), 3) := by decide +kernel
theorem d_R_extra_41 : decode prog_5_method_32_code 41 = .ok (.iconst (-1), 1) := by decide +kernel
theorem d_R_extra_42 : decode prog_5_method_32_code 42 = .ok (.ireturn, 1) := by decide +kernel
theorem d_R_lost_0 : decode prog_5_method_33_code 0 = .ok (.aload_n 0, 1) := by decide +kernel
theorem d_R_lost_1 : decode prog_5_method_33_code 1 = .ok (.iload_n 1, 1) := by decide +kernel
theorem d_R_lost_2 : decode prog_5_method_33_code 2 = .ok (.invokevirtual 64, 3) := by decide +kernel
theorem d_R_lost_5 : decode prog_5_method_33_code 5 = .ok (.ifCond .eq 11, 3) := by decide +kernel
theorem d_R_lost_8 : decode prog_5_method_33_code 8 = .ok (.aload_n 0, 1) := by decide +kernel
theorem d_R_lost_9 : decode prog_5_method_33_code 9 = .ok (.iload_n 1, 1) := by decide +kernel
theorem d_R_lost_10 : decode prog_5_method_33_code 10 = .ok (.invokevirtual 96, 3) := by decide +kernel
theorem d_R_lost_13 : decode prog_5_method_33_code 13 = .ok (.ifCond .eq 5, 3) := by decide +kernel
theorem d_R_lost_16 : decode prog_5_method_33_code 16 = .ok (.iconst (-1), 1) := by decide +kernel
theorem d_R_lost_17 : decode prog_5_method_33_code 17 = .ok (.ireturn, 1) := by decide +kernel
theorem d_R_lost_18 : decode prog_5_method_33_code 18 = .ok (.aload_n 0, 1) := by decide +kernel
theorem d_R_lost_19 : decode prog_5_method_33_code 19 = .ok (.getfield 20, 3) := by decide +kernel
theorem d_R_lost_22 : decode prog_5_method_33_code 22 = .ok (.iload_n 1, 1) := by decide +kernel
theorem d_R_lost_23 : decode prog_5_method_33_code 23 = .ok (.bipush 6, 2) := by decide +kernel
theorem d_R_lost_25 : decode prog_5_method_33_code 25 = .ok (.iastore, 1) := by decide +kernel
theorem d_R_lost_26 : decode prog_5_method_33_code 26 = .ok (.aload_n 0, 1) := by decide +kernel
theorem d_R_lost_27 : decode prog_5_method_33_code 27 = .ok (.getfield 57, 3) := by decide +kernel
theorem d_R_lost_30 : decode prog_5_method_33_code 30 = .ok (.aload_n 0, 1) := by decide +kernel
theorem d_R_lost_31 : decode prog_5_method_33_code 31 = .ok (.getfield 137, 3) := by decide +kernel
theorem d_R_lost_34 : decode prog_5_method_33_code 34 = .ok (.iload_n 1, 1) := by decide +kernel
theorem d_R_lost_35 : decode prog_5_method_33_code 35 = .ok (.iastore, 1) := by decide +kernel
theorem d_R_lost_36 : decode prog_5_method_33_code 36 = .ok (.aload_n 0, 1) := by decide +kernel
theorem d_R_lost_37 : decode prog_5_method_33_code 37 = .ok (.dup, 1) := by decide +kernel
theorem d_R_lost_38 : decode prog_5_method_33_code 38 = .ok (.getfield 137, 3) := by decide +kernel
theorem d_R_lost_41 : decode prog_5_method_33_code 41 = .ok (.iconst 1, 1) := by decide +kernel
theorem d_R_lost_42 : decode prog_5_method_33_code 42 = .ok (.iadd, 1) := by decide +kernel
theorem d_R_lost_43 : decode prog_5_method_33_code 43 = .ok (.putfield 137, 3) := by decide +kernel
theorem d_R_lost_46 : decode prog_5_method_33_code 46 = .ok (.aload_n 0, 1) := by decide +kernel
theorem d_R_lost_47 : decode prog_5_method_33_code 47 = .ok (.getfield 137, 3) := by decide +kernel
theorem d_R_lost_50 : decode prog_5_method_33_code 50 = .ok (.ireturn, 1) := by decide +kernel
theorem d_R_told_0 : decode prog_5_method_34_code 0 = .ok (.iload_n 1, 1) := by decide +kernel
theorem d_R_told_1 : decode prog_5_method_34_code 1 = .ok (.ifCond .lt 20, 3) := by decide +kernel
theorem d_R_told_4 : decode prog_5_method_34_code 4 = .ok (.iload_n 1, 1) := by decide +kernel
theorem d_R_told_5 : decode prog_5_method_34_code 5 = .ok (.aload_n 0, 1) := by decide +kernel
theorem d_R_told_6 : decode prog_5_method_34_code 6 = .ok (.getfield 137, 3) := by decide +kernel
theorem d_R_told_9 : decode prog_5_method_34_code 9 = .ok (.if_icmp .ge 12, 3) := by decide +kernel
theorem d_R_told_12 : decode prog_5_method_34_code 12 = .ok (.aload_n 0, 1) := by decide +kernel
theorem d_R_told_13 : decode prog_5_method_34_code 13 = .ok (.getfield 57, 3) := by decide +kernel
theorem d_R_told_16 : decode prog_5_method_34_code 16 = .ok (.iload_n 1, 1) := by decide +kernel
theorem d_R_told_17 : decode prog_5_method_34_code 17 = .ok (.iaload, 1) := by decide +kernel
theorem d_R_told_18 : decode prog_5_method_34_code 18 = .ok (.goto 4, 3) := by decide +kernel
theorem d_R_told_21 : decode prog_5_method_34_code 21 = .ok (.iconst (-1), 1) := by decide +kernel
theorem d_R_told_22 : decode prog_5_method_34_code 22 = .ok (.ireturn, 1) := by decide +kernel
theorem d_R_states_0 : decode prog_5_method_35_code 0 = .ok (.iconst 0, 1) := by decide +kernel
theorem d_R_states_1 : decode prog_5_method_35_code 1 = .ok (.istore_n 1, 1) := by decide +kernel
theorem d_R_states_2 : decode prog_5_method_35_code 2 = .ok (.iconst 0, 1) := by decide +kernel
theorem d_R_states_3 : decode prog_5_method_35_code 3 = .ok (.istore_n 2, 1) := by decide +kernel
theorem d_R_states_4 : decode prog_5_method_35_code 4 = .ok (.iload_n 2, 1) := by decide +kernel
theorem d_R_states_5 : decode prog_5_method_35_code 5 = .ok (.bipush 6, 2) := by decide +kernel
theorem d_R_states_7 : decode prog_5_method_35_code 7 = .ok (.if_icmp .gt 62, 3) := by decide +kernel
theorem d_R_states_10 : decode prog_5_method_35_code 10 = .ok (.iconst 0, 1) := by decide +kernel
theorem d_R_states_11 : decode prog_5_method_35_code 11 = .ok (.istore_n 3, 1) := by decide +kernel
theorem d_R_states_12 : decode prog_5_method_35_code 12 = .ok (.iconst 0, 1) := by decide +kernel
theorem d_R_states_13 : decode prog_5_method_35_code 13 = .ok (.istore 4, 2) := by decide +kernel
theorem d_R_states_15 : decode prog_5_method_35_code 15 = .ok (.iload 4, 2) := by decide +kernel
theorem d_R_states_17 : decode prog_5_method_35_code 17 = .ok (.aload_n 0, 1) := by decide +kernel
theorem d_R_states_18 : decode prog_5_method_35_code 18 = .ok (.getfield 60, 3) := by decide +kernel
theorem d_R_states_21 : decode prog_5_method_35_code 21 = .ok (.if_icmp .ge 30, 3) := by decide +kernel
theorem d_R_states_24 : decode prog_5_method_35_code 24 = .ok (.iload_n 3, 1) := by decide +kernel
theorem d_R_states_25 : decode prog_5_method_35_code 25 = .ok (.ifCond .ne 14, 3) := by decide +kernel
theorem d_R_states_28 : decode prog_5_method_35_code 28 = .ok (.aload_n 0, 1) := by decide +kernel
theorem d_R_states_29 : decode prog_5_method_35_code 29 = .ok (.getfield 20, 3) := by decide +kernel
theorem d_R_states_32 : decode prog_5_method_35_code 32 = .ok (.iload 4, 2) := by decide +kernel
theorem d_R_states_34 : decode prog_5_method_35_code 34 = .ok (.iaload, 1) := by decide +kernel
theorem d_R_states_35 : decode prog_5_method_35_code 35 = .ok (.iload_n 2, 1) := by decide +kernel
theorem d_R_states_36 : decode prog_5_method_35_code 36 = .ok (.if_icmp .ne 7, 3) := by decide +kernel
theorem d_R_states_39 : decode prog_5_method_35_code 39 = .ok (.iconst 1, 1) := by decide +kernel
theorem d_R_states_40 : decode prog_5_method_35_code 40 = .ok (.goto 4, 3) := by decide +kernel
theorem d_R_states_43 : decode prog_5_method_35_code 43 = .ok (.iconst 0, 1) := by decide +kernel
theorem d_R_states_44 : decode prog_5_method_35_code 44 = .ok (.istore_n 3, 1) := by decide +kernel
theorem d_R_states_45 : decode prog_5_method_35_code 45 = .ok (.iinc 4 1, 3) := by decide +kernel
theorem d_R_states_48 : decode prog_5_method_35_code 48 = .ok (.goto (-33), 3) := by decide +kernel
theorem d_R_states_51 : decode prog_5_method_35_code 51 = .ok (.iload_n 1, 1) := by decide +kernel
theorem d_R_states_52 : decode prog_5_method_35_code 52 = .ok (.iload_n 3, 1) := by decide +kernel
theorem d_R_states_53 : decode prog_5_method_35_code 53 = .ok (.ifCond .eq 7, 3) := by decide +kernel
theorem d_R_states_56 : decode prog_5_method_35_code 56 = .ok (.iconst 1, 1) := by decide +kernel
theorem d_R_states_57 : decode prog_5_method_35_code 57 = .ok (.goto 4, 3) := by decide +kernel
theorem d_R_states_60 : decode prog_5_method_35_code 60 = .ok (.iconst 0, 1) := by decide +kernel
theorem d_R_states_61 : decode prog_5_method_35_code 61 = .ok (.iadd, 1) := by decide +kernel
theorem d_R_states_62 : decode prog_5_method_35_code 62 = .ok (.istore_n 1, 1) := by decide +kernel
theorem d_R_states_63 : decode prog_5_method_35_code 63 = .ok (.iinc 2 1, 3) := by decide +kernel
theorem d_R_states_66 : decode prog_5_method_35_code 66 = .ok (.goto (-62), 3) := by decide +kernel
theorem d_R_states_69 : decode prog_5_method_35_code 69 = .ok (.iload_n 1, 1) := by decide +kernel
theorem d_R_states_70 : decode prog_5_method_35_code 70 = .ok (.ireturn, 1) := by decide +kernel
