theorem dX11_init_0 : decode cX11_init 0 = .ok (.aload_n 0, 1) := by decide +kernel
theorem dX11_init_1 : decode cX11_init 1 = .ok (.invokespecial 1, 3) := by decide +kernel
theorem dX11_init_4 : decode cX11_init 4 = .ok (.aload_n 0, 1) := by decide +kernel
theorem dX11_init_5 : decode cX11_init 5 = .ok (.sipush 2234, 3) := by decide +kernel
theorem dX11_init_8 : decode cX11_init 8 = .ok (.newarray .int, 2) := by decide +kernel
theorem dX11_init_10 : decode cX11_init 10 = .ok (.putfield 7, 3) := by decide +kernel
theorem dX11_init_13 : decode cX11_init 13 = .ok (.aload_n 0, 1) := by decide +kernel
theorem dX11_init_14 : decode cX11_init 14 = .ok (.sipush 2234, 3) := by decide +kernel
theorem dX11_init_17 : decode cX11_init 17 = .ok (.newarray .int, 2) := by decide +kernel
theorem dX11_init_19 : decode cX11_init 19 = .ok (.putfield 13, 3) := by decide +kernel
theorem dX11_init_22 : decode cX11_init 22 = .ok (.aload_n 0, 1) := by decide +kernel
theorem dX11_init_23 : decode cX11_init 23 = .ok (.sipush 4468, 3) := by decide +kernel
theorem dX11_init_26 : decode cX11_init 26 = .ok (.newarray .int, 2) := by decide +kernel
theorem dX11_init_28 : decode cX11_init 28 = .ok (.putfield 16, 3) := by decide +kernel
theorem dX11_init_31 : decode cX11_init 31 = .ok (.aload_n 0, 1) := by decide +kernel
theorem dX11_init_32 : decode cX11_init 32 = .ok (.iconst 2, 1) := by decide +kernel
theorem dX11_init_33 : decode cX11_init 33 = .ok (.newarray .boolean, 2) := by decide +kernel
theorem dX11_init_35 : decode cX11_init 35 = .ok (.putfield 19, 3) := by decide +kernel
theorem dX11_init_38 : decode cX11_init 38 = .ok (.aload_n 0, 1) := by decide +kernel
theorem dX11_init_39 : decode cX11_init 39 = .ok (.sipush 256, 3) := by decide +kernel
theorem dX11_init_42 : decode cX11_init 42 = .ok (.newarray .int, 2) := by decide +kernel
theorem dX11_init_44 : decode cX11_init 44 = .ok (.putfield 23, 3) := by decide +kernel
theorem dX11_init_47 : decode cX11_init 47 = .ok (.aload_n 0, 1) := by decide +kernel
theorem dX11_init_48 : decode cX11_init 48 = .ok (.sipush 256, 3) := by decide +kernel
theorem dX11_init_51 : decode cX11_init 51 = .ok (.newarray .int, 2) := by decide +kernel
theorem dX11_init_53 : decode cX11_init 53 = .ok (.putfield 26, 3) := by decide +kernel
theorem dX11_init_56 : decode cX11_init 56 = .ok (.aload_n 0, 1) := by decide +kernel
theorem dX11_init_57 : decode cX11_init 57 = .ok (.sipush 256, 3) := by decide +kernel
theorem dX11_init_60 : decode cX11_init 60 = .ok (.newarray .int, 2) := by decide +kernel
theorem dX11_init_62 : decode cX11_init 62 = .ok (.putfield 29, 3) := by decide +kernel
theorem dX11_init_65 : decode cX11_init 65 = .ok (.aload_n 0, 1) := by decide +kernel
theorem dX11_init_66 : decode cX11_init 66 = .ok (.sipush 256, 3) := by decide +kernel
theorem dX11_init_69 : decode cX11_init 69 = .ok (.newarray .int, 2) := by decide +kernel
theorem dX11_init_71 : decode cX11_init 71 = .ok (.putfield 32, 3) := by decide +kernel
theorem dX11_init_74 : decode cX11_init 74 = .ok (.aload_n 0, 1) := by decide +kernel
theorem dX11_init_75 : decode cX11_init 75 = .ok (.bipush 64, 2) := by decide +kernel
theorem dX11_init_77 : decode cX11_init 77 = .ok (.newarray .long, 2) := by decide +kernel
theorem dX11_init_79 : decode cX11_init 79 = .ok (.putfield 35, 3) := by decide +kernel
theorem dX11_init_82 : decode cX11_init 82 = .ok (.aload_n 0, 1) := by decide +kernel
theorem dX11_init_83 : decode cX11_init 83 = .ok (.sipush 500, 3) := by decide +kernel
theorem dX11_init_86 : decode cX11_init 86 = .ok (.newarray .int, 2) := by decide +kernel
theorem dX11_init_88 : decode cX11_init 88 = .ok (.putfield 39, 3) := by decide +kernel
theorem dX11_init_91 : decode cX11_init 91 = .ok (.aload_n 0, 1) := by decide +kernel
theorem dX11_init_92 : decode cX11_init 92 = .ok (.iconst (-1), 1) := by decide +kernel
theorem dX11_init_93 : decode cX11_init 93 = .ok (.putfield 42, 3) := by decide +kernel
theorem dX11_init_96 : decode cX11_init 96 = .ok (.aload_n 0, 1) := by decide +kernel
theorem dX11_init_97 : decode cX11_init 97 = .ok (.invokevirtual 46, 3) := by decide +kernel
theorem dX11_init_100 : decode cX11_init 100 = .ok (.return_, 1) := by decide +kernel
theorem dX11_thrown_0 : decode cX11_thrown 0 = .ok (.aload_n 0, 1) := by decide +kernel
theorem dX11_thrown_1 : decode cX11_thrown 1 = .ok (.getfield 49, 3) := by decide +kernel
theorem dX11_thrown_4 : decode cX11_thrown 4 = .ok (.ireturn, 1) := by decide +kernel
theorem dX11_fail_0 : decode cX11_fail 0 = .ok (.aload_n 0, 1) := by decide +kernel
theorem dX11_fail_1 : decode cX11_fail 1 = .ok (.iload_n 1, 1) := by decide +kernel
theorem dX11_fail_2 : decode cX11_fail 2 = .ok (.putfield 49, 3) := by decide +kernel
theorem dX11_fail_5 : decode cX11_fail 5 = .ok (.iconst 0, 1) := by decide +kernel
theorem dX11_fail_6 : decode cX11_fail 6 = .ok (.ireturn, 1) := by decide +kernel
theorem dX11_isBetween_0 : decode cX11_isBetween 0 = .ok (.iload_n 0, 1) := by decide +kernel
theorem dX11_isBetween_1 : decode cX11_isBetween 1 = .ok (.iload_n 1, 1) := by decide +kernel
theorem dX11_isBetween_2 : decode cX11_isBetween 2 = .ok (.if_icmp .lt 12, 3) := by decide +kernel
theorem dX11_isBetween_5 : decode cX11_isBetween 5 = .ok (.iload_n 0, 1) := by decide +kernel
theorem dX11_isBetween_6 : decode cX11_isBetween 6 = .ok (.iload_n 2, 1) := by decide +kernel
theorem dX11_isBetween_7 : decode cX11_isBetween 7 = .ok (.if_icmp .gt 7, 3) := by decide +kernel
theorem dX11_isBetween_10 : decode cX11_isBetween 10 = .ok (.iconst 1, 1) := by decide +kernel
theorem dX11_isBetween_11 : decode cX11_isBetween 11 = .ok (.goto 4, 3) := by decide +kernel
theorem dX11_isBetween_14 : decode cX11_isBetween 14 = .ok (.iconst 0, 1) := by decide +kernel
theorem dX11_isBetween_15 : decode cX11_isBetween 15 = .ok (.ireturn, 1) := by decide +kernel
theorem dX11_clear_0 : decode cX11_clear 0 = .ok (.iconst 0, 1) := by decide +kernel
theorem dX11_clear_1 : decode cX11_clear 1 = .ok (.istore_n 1, 1) := by decide +kernel
theorem dX11_clear_2 : decode cX11_clear 2 = .ok (.iload_n 1, 1) := by decide +kernel
theorem dX11_clear_3 : decode cX11_clear 3 = .ok (.sipush 2234, 3) := by decide +kernel
theorem dX11_clear_6 : decode cX11_clear 6 = .ok (.if_icmp .ge 16, 3) := by decide +kernel
theorem dX11_clear_9 : decode cX11_clear 9 = .ok (.aload_n 0, 1) := by decide +kernel
theorem dX11_clear_10 : decode cX11_clear 10 = .ok (.getfield 7, 3) := by decide +kernel
theorem dX11_clear_13 : decode cX11_clear 13 = .ok (.iload_n 1, 1) := by decide +kernel
theorem dX11_clear_14 : decode cX11_clear 14 = .ok (.iconst 0, 1) := by decide +kernel
theorem dX11_clear_15 : decode cX11_clear 15 = .ok (.iastore, 1) := by decide +kernel
theorem dX11_clear_16 : decode cX11_clear 16 = .ok (.iinc 1 1, 3) := by decide +kernel
theorem dX11_clear_19 : decode cX11_clear 19 = .ok (.goto (-17), 3) := by decide +kernel
theorem dX11_clear_22 : decode cX11_clear 22 = .ok (.aload_n 0, 1) := by decide +kernel
theorem dX11_clear_23 : decode cX11_clear 23 = .ok (.getfield 7, 3) := by decide +kernel
theorem dX11_clear_26 : decode cX11_clear 26 = .ok (.iconst 0, 1) := by decide +kernel
theorem dX11_clear_27 : decode cX11_clear 27 = .ok (.sipush 340, 3) := by decide +kernel
theorem dX11_clear_30 : decode cX11_clear 30 = .ok (.iastore, 1) := by decide +kernel
theorem dX11_clear_31 : decode cX11_clear 31 = .ok (.aload_n 0, 1) := by decide +kernel
theorem dX11_clear_32 : decode cX11_clear 32 = .ok (.getfield 7, 3) := by decide +kernel
theorem dX11_clear_35 : decode cX11_clear 35 = .ok (.iconst 3, 1) := by decide +kernel
theorem dX11_clear_36 : decode cX11_clear 36 = .ok (.iconst 1, 1) := by decide +kernel
theorem dX11_clear_37 : decode cX11_clear 37 = .ok (.iastore, 1) := by decide +kernel
theorem dX11_clear_38 : decode cX11_clear 38 = .ok (.aload_n 0, 1) := by decide +kernel
theorem dX11_clear_39 : decode cX11_clear 39 = .ok (.getfield 7, 3) := by decide +kernel
theorem dX11_clear_42 : decode cX11_clear 42 = .ok (.bipush 10, 2) := by decide +kernel
theorem dX11_clear_44 : decode cX11_clear 44 = .ok (.iconst 1, 1) := by decide +kernel
theorem dX11_clear_45 : decode cX11_clear 45 = .ok (.iastore, 1) := by decide +kernel
theorem dX11_clear_46 : decode cX11_clear 46 = .ok (.aload_n 0, 1) := by decide +kernel
theorem dX11_clear_47 : decode cX11_clear 47 = .ok (.getfield 7, 3) := by decide +kernel
theorem dX11_clear_50 : decode cX11_clear 50 = .ok (.bipush 13, 2) := by decide +kernel
theorem dX11_clear_52 : decode cX11_clear 52 = .ok (.bipush 100, 2) := by decide +kernel
theorem dX11_clear_54 : decode cX11_clear 54 = .ok (.iastore, 1) := by decide +kernel
theorem dX11_clear_55 : decode cX11_clear 55 = .ok (.return_, 1) := by decide +kernel
theorem dX11_copy_0 : decode cX11_copy 0 = .ok (.iconst 0, 1) := by decide +kernel
theorem dX11_copy_1 : decode cX11_copy 1 = .ok (.istore 4, 2) := by decide +kernel
theorem dX11_copy_3 : decode cX11_copy 3 = .ok (.iload 4, 2) := by decide +kernel
theorem dX11_copy_5 : decode cX11_copy 5 = .ok (.sipush 2234, 3) := by decide +kernel
theorem dX11_copy_8 : decode cX11_copy 8 = .ok (.if_icmp .ge 21, 3) := by decide +kernel
theorem dX11_copy_11 : decode cX11_copy 11 = .ok (.aload_n 2, 1) := by decide +kernel
theorem dX11_copy_12 : decode cX11_copy 12 = .ok (.iload_n 3, 1) := by decide +kernel
theorem dX11_copy_13 : decode cX11_copy 13 = .ok (.iload 4, 2) := by decide +kernel
theorem dX11_copy_15 : decode cX11_copy 15 = .ok (.iadd, 1) := by decide +kernel
theorem dX11_copy_16 : decode cX11_copy 16 = .ok (.aload_n 0, 1) := by decide +kernel
theorem dX11_copy_17 : decode cX11_copy 17 = .ok (.iload_n 1, 1) := by decide +kernel
theorem dX11_copy_18 : decode cX11_copy 18 = .ok (.iload 4, 2) := by decide +kernel
theorem dX11_copy_20 : decode cX11_copy 20 = .ok (.iadd, 1) := by decide +kernel
theorem dX11_copy_21 : decode cX11_copy 21 = .ok (.iaload, 1) := by decide +kernel
theorem dX11_copy_22 : decode cX11_copy 22 = .ok (.iastore, 1) := by decide +kernel
theorem dX11_copy_23 : decode cX11_copy 23 = .ok (.iinc 4 1, 3) := by decide +kernel
theorem dX11_copy_26 : decode cX11_copy 26 = .ok (.goto (-23), 3) := by decide +kernel
theorem dX11_copy_29 : decode cX11_copy 29 = .ok (.return_, 1) := by decide +kernel
theorem dX11_isTime_0 : decode cX11_isTime 0 = .ok (.iload_n 0, 1) := by decide +kernel
theorem dX11_isTime_1 : decode cX11_isTime 1 = .ok (.iconst 0, 1) := by decide +kernel
theorem dX11_isTime_2 : decode cX11_isTime 2 = .ok (.sipush 255, 3) := by decide +kernel
theorem dX11_isTime_5 : decode cX11_isTime 5 = .ok (.invokestatic 52, 3) := by decide +kernel
theorem dX11_isTime_8 : decode cX11_isTime 8 = .ok (.ireturn, 1) := by decide +kernel
theorem dX11_isWindow_0 : decode cX11_isWindow 0 = .ok (.iload_n 0, 1) := by decide +kernel
theorem dX11_isWindow_1 : decode cX11_isWindow 1 = .ok (.invokestatic 56, 3) := by decide +kernel
theorem dX11_isWindow_4 : decode cX11_isWindow 4 = .ok (.ifCond .eq 18, 3) := by decide +kernel
theorem dX11_isWindow_7 : decode cX11_isWindow 7 = .ok (.iload_n 1, 1) := by decide +kernel
theorem dX11_isWindow_8 : decode cX11_isWindow 8 = .ok (.iload_n 0, 1) := by decide +kernel
theorem dX11_isWindow_9 : decode cX11_isWindow 9 = .ok (.sipush 255, 3) := by decide +kernel
theorem dX11_isWindow_12 : decode cX11_isWindow 12 = .ok (.invokestatic 52, 3) := by decide +kernel
theorem dX11_isWindow_15 : decode cX11_isWindow 15 = .ok (.ifCond .eq 7, 3) := by decide +kernel
theorem dX11_isWindow_18 : decode cX11_isWindow 18 = .ok (.iconst 1, 1) := by decide +kernel
theorem dX11_isWindow_19 : decode cX11_isWindow 19 = .ok (.goto 4, 3) := by decide +kernel
theorem dX11_isWindow_22 : decode cX11_isWindow 22 = .ok (.iconst 0, 1) := by decide +kernel
theorem dX11_isWindow_23 : decode cX11_isWindow 23 = .ok (.ireturn, 1) := by decide +kernel
theorem dX11_isVehicle_0 : decode cX11_isVehicle 0 = .ok (.iload_n 1, 1) := by decide +kernel
theorem dX11_isVehicle_1 : decode cX11_isVehicle 1 = .ok (.iconst 0, 1) := by decide +kernel
theorem dX11_isVehicle_2 : decode cX11_isVehicle 2 = .ok (.aload_n 0, 1) := by decide +kernel
theorem dX11_isVehicle_3 : decode cX11_isVehicle 3 = .ok (.getfield 7, 3) := by decide +kernel
theorem dX11_isVehicle_6 : decode cX11_isVehicle 6 = .ok (.bipush 6, 2) := by decide +kernel
theorem dX11_isVehicle_8 : decode cX11_isVehicle 8 = .ok (.iaload, 1) := by decide +kernel
theorem dX11_isVehicle_9 : decode cX11_isVehicle 9 = .ok (.iconst 1, 1) := by decide +kernel
theorem dX11_isVehicle_10 : decode cX11_isVehicle 10 = .ok (.isub, 1) := by decide +kernel
theorem dX11_isVehicle_11 : decode cX11_isVehicle 11 = .ok (.invokestatic 52, 3) := by decide +kernel
theorem dX11_isVehicle_14 : decode cX11_isVehicle 14 = .ok (.ireturn, 1) := by decide +kernel
theorem dX11_isSource_0 : decode cX11_isSource 0 = .ok (.iload_n 1, 1) := by decide +kernel
theorem dX11_isSource_1 : decode cX11_isSource 1 = .ok (.iconst 0, 1) := by decide +kernel
theorem dX11_isSource_2 : decode cX11_isSource 2 = .ok (.aload_n 0, 1) := by decide +kernel
theorem dX11_isSource_3 : decode cX11_isSource 3 = .ok (.getfield 7, 3) := by decide +kernel
theorem dX11_isSource_6 : decode cX11_isSource 6 = .ok (.bipush 7, 2) := by decide +kernel
theorem dX11_isSource_8 : decode cX11_isSource 8 = .ok (.iaload, 1) := by decide +kernel
theorem dX11_isSource_9 : decode cX11_isSource 9 = .ok (.iconst 1, 1) := by decide +kernel
theorem dX11_isSource_10 : decode cX11_isSource 10 = .ok (.isub, 1) := by decide +kernel
theorem dX11_isSource_11 : decode cX11_isSource 11 = .ok (.invokestatic 52, 3) := by decide +kernel
theorem dX11_isSource_14 : decode cX11_isSource 14 = .ok (.ireturn, 1) := by decide +kernel
theorem dX11_isMicrophone_0 : decode cX11_isMicrophone 0 = .ok (.iload_n 1, 1) := by decide +kernel
theorem dX11_isMicrophone_1 : decode cX11_isMicrophone 1 = .ok (.iconst 0, 1) := by decide +kernel
theorem dX11_isMicrophone_2 : decode cX11_isMicrophone 2 = .ok (.aload_n 0, 1) := by decide +kernel
theorem dX11_isMicrophone_3 : decode cX11_isMicrophone 3 = .ok (.getfield 7, 3) := by decide +kernel
theorem dX11_isMicrophone_6 : decode cX11_isMicrophone 6 = .ok (.bipush 8, 2) := by decide +kernel
theorem dX11_isMicrophone_8 : decode cX11_isMicrophone 8 = .ok (.iaload, 1) := by decide +kernel
theorem dX11_isMicrophone_9 : decode cX11_isMicrophone 9 = .ok (.iconst 1, 1) := by decide +kernel
theorem dX11_isMicrophone_10 : decode cX11_isMicrophone 10 = .ok (.isub, 1) := by decide +kernel
theorem dX11_isMicrophone_11 : decode cX11_isMicrophone 11 = .ok (.invokestatic 52, 3) := by decide +kernel
theorem dX11_isMicrophone_14 : decode cX11_isMicrophone 14 = .ok (.ireturn, 1) := by decide +kernel
theorem dX11_vehicle_0 : decode cX11_vehicle 0 = .ok (.aload_n 0, 1) := by decide +kernel
theorem dX11_vehicle_1 : decode cX11_vehicle 1 = .ok (.getfield 7, 3) := by decide +kernel
theorem dX11_vehicle_4 : decode cX11_vehicle 4 = .ok (.bipush 16, 2) := by decide +kernel
theorem dX11_vehicle_6 : decode cX11_vehicle 6 = .ok (.iconst 3, 1) := by decide +kernel
theorem dX11_vehicle_7 : decode cX11_vehicle 7 = .ok (.iload_n 1, 1) := by decide +kernel
theorem dX11_vehicle_8 : decode cX11_vehicle 8 = .ok (.imul, 1) := by decide +kernel
theorem dX11_vehicle_9 : decode cX11_vehicle 9 = .ok (.iadd, 1) := by decide +kernel
theorem dX11_vehicle_10 : decode cX11_vehicle 10 = .ok (.iload_n 2, 1) := by decide +kernel
theorem dX11_vehicle_11 : decode cX11_vehicle 11 = .ok (.iadd, 1) := by decide +kernel
theorem dX11_vehicle_12 : decode cX11_vehicle 12 = .ok (.iaload, 1) := by decide +kernel
theorem dX11_vehicle_13 : decode cX11_vehicle 13 = .ok (.ireturn, 1) := by decide +kernel
theorem dX11_source_0 : decode cX11_source 0 = .ok (.aload_n 0, 1) := by decide +kernel
theorem dX11_source_1 : decode cX11_source 1 = .ok (.getfield 7, 3) := by decide +kernel
theorem dX11_source_4 : decode cX11_source 4 = .ok (.bipush 28, 2) := by decide +kernel
theorem dX11_source_6 : decode cX11_source 6 = .ok (.bipush 21, 2) := by decide +kernel
theorem dX11_source_8 : decode cX11_source 8 = .ok (.iload_n 1, 1) := by decide +kernel
theorem dX11_source_9 : decode cX11_source 9 = .ok (.imul, 1) := by decide +kernel
theorem dX11_source_10 : decode cX11_source 10 = .ok (.iadd, 1) := by decide +kernel
theorem dX11_source_11 : decode cX11_source 11 = .ok (.iload_n 2, 1) := by decide +kernel
theorem dX11_source_12 : decode cX11_source 12 = .ok (.iadd, 1) := by decide +kernel
theorem dX11_source_13 : decode cX11_source 13 = .ok (.iaload, 1) := by decide +kernel
theorem dX11_source_14 : decode cX11_source 14 = .ok (.ireturn, 1) := by decide +kernel
theorem dX11_microphone_0 : decode cX11_microphone 0 = .ok (.aload_n 0, 1) := by decide +kernel
theorem dX11_microphone_1 : decode cX11_microphone 1 = .ok (.getfield 7, 3) := by decide +kernel
theorem dX11_microphone_4 : decode cX11_microphone 4 = .ok (.sipush 154, 3) := by decide +kernel
theorem dX11_microphone_7 : decode cX11_microphone 7 = .ok (.iconst 4, 1) := by decide +kernel
theorem dX11_microphone_8 : decode cX11_microphone 8 = .ok (.iload_n 1, 1) := by decide +kernel
theorem dX11_microphone_9 : decode cX11_microphone 9 = .ok (.imul, 1) := by decide +kernel
theorem dX11_microphone_10 : decode cX11_microphone 10 = .ok (.iadd, 1) := by decide +kernel
theorem dX11_microphone_11 : decode cX11_microphone 11 = .ok (.iload_n 2, 1) := by decide +kernel
theorem dX11_microphone_12 : decode cX11_microphone 12 = .ok (.iadd, 1) := by decide +kernel
theorem dX11_microphone_13 : decode cX11_microphone 13 = .ok (.iaload, 1) := by decide +kernel
theorem dX11_microphone_14 : decode cX11_microphone 14 = .ok (.ireturn, 1) := by decide +kernel
theorem dX11_replace_0 : decode cX11_replace 0 = .ok (.aload_n 0, 1) := by decide +kernel
theorem dX11_replace_1 : decode cX11_replace 1 = .ok (.getfield 7, 3) := by decide +kernel
theorem dX11_replace_4 : decode cX11_replace 4 = .ok (.iload_n 1, 1) := by decide +kernel
theorem dX11_replace_5 : decode cX11_replace 5 = .ok (.iaload, 1) := by decide +kernel
theorem dX11_replace_6 : decode cX11_replace 6 = .ok (.istore_n 3, 1) := by decide +kernel
theorem dX11_replace_7 : decode cX11_replace 7 = .ok (.aload_n 0, 1) := by decide +kernel
theorem dX11_replace_8 : decode cX11_replace 8 = .ok (.getfield 7, 3) := by decide +kernel
theorem dX11_replace_11 : decode cX11_replace 11 = .ok (.iload_n 1, 1) := by decide +kernel
theorem dX11_replace_12 : decode cX11_replace 12 = .ok (.iload_n 2, 1) := by decide +kernel
theorem dX11_replace_13 : decode cX11_replace 13 = .ok (.iastore, 1) := by decide +kernel
theorem dX11_replace_14 : decode cX11_replace 14 = .ok (.iload_n 3, 1) := by decide +kernel
theorem dX11_replace_15 : decode cX11_replace 15 = .ok (.ireturn, 1) := by decide +kernel
theorem dX11_setSound_0 : decode cX11_setSound 0 = .ok (.aload_n 0, 1) := by decide +kernel
theorem dX11_setSound_1 : decode cX11_setSound 1 = .ok (.iconst 0, 1) := by decide +kernel
theorem dX11_setSound_2 : decode cX11_setSound 2 = .ok (.putfield 49, 3) := by decide +kernel
theorem dX11_setSound_5 : decode cX11_setSound 5 = .ok (.iload_n 1, 1) := by decide +kernel
theorem dX11_setSound_6 : decode cX11_setSound 6 = .ok (.bipush 100, 2) := by decide +kernel
theorem dX11_setSound_8 : decode cX11_setSound 8 = .ok (.sipush 1000, 3) := by decide +kernel
theorem dX11_setSound_11 : decode cX11_setSound 11 = .ok (.invokestatic 52, 3) := by decide +kernel
theorem dX11_setSound_14 : decode cX11_setSound 14 = .ok (.ifCond .eq 12, 3) := by decide +kernel
theorem dX11_setSound_17 : decode cX11_setSound 17 = .ok (.aload_n 0, 1) := by decide +kernel
theorem dX11_setSound_18 : decode cX11_setSound 18 = .ok (.iconst 0, 1) := by decide +kernel
theorem dX11_setSound_19 : decode cX11_setSound 19 = .ok (.iload_n 1, 1) := by decide +kernel
theorem dX11_setSound_20 : decode cX11_setSound 20 = .ok (.invokevirtual 60, 3) := by decide +kernel
theorem dX11_setSound_23 : decode cX11_setSound 23 = .ok (.goto 8, 3) := by decide +kernel
theorem dX11_setSound_26 : decode cX11_setSound 26 = .ok (.aload_n 0, 1) := by decide +kernel
theorem dX11_setSound_27 : decode cX11_setSound 27 = .ok (.iconst 1, 1) := by decide +kernel
theorem dX11_setSound_28 : decode cX11_setSound 28 = .ok (.invokevirtual 64, 3) := by decide +kernel
theorem dX11_setSound_31 : decode cX11_setSound 31 = .ok (.ireturn, 1) := by decide +kernel
theorem dX11_setGround_0 : decode cX11_setGround 0 = .ok (.aload_n 0, 1) := by decide +kernel
theorem dX11_setGround_1 : decode cX11_setGround 1 = .ok (.iconst 0, 1) := by decide +kernel
theorem dX11_setGround_2 : decode cX11_setGround 2 = .ok (.putfield 49, 3) := by decide +kernel
theorem dX11_setGround_5 : decode cX11_setGround 5 = .ok (.iload_n 1, 1) := by decide +kernel
theorem dX11_setGround_6 : decode cX11_setGround 6 = .ok (.bipush (-90), 2) := by decide +kernel
theorem dX11_setGround_8 : decode cX11_setGround 8 = .ok (.bipush 90, 2) := by decide +kernel
theorem dX11_setGround_10 : decode cX11_setGround 10 = .ok (.invokestatic 52, 3) := by decide +kernel
theorem dX11_setGround_13 : decode cX11_setGround 13 = .ok (.ifCond .eq 12, 3) := by decide +kernel
theorem dX11_setGround_16 : decode cX11_setGround 16 = .ok (.aload_n 0, 1) := by decide +kernel
theorem dX11_setGround_17 : decode cX11_setGround 17 = .ok (.iconst 1, 1) := by decide +kernel
theorem dX11_setGround_18 : decode cX11_setGround 18 = .ok (.iload_n 1, 1) := by decide +kernel
theorem dX11_setGround_19 : decode cX11_setGround 19 = .ok (.invokevirtual 60, 3) := by decide +kernel
theorem dX11_setGround_22 : decode cX11_setGround 22 = .ok (.goto 8, 3) := by decide +kernel
theorem dX11_setGround_25 : decode cX11_setGround 25 = .ok (.aload_n 0, 1) := by decide +kernel
theorem dX11_setGround_26 : decode cX11_setGround 26 = .ok (.iconst 1, 1) := by decide +kernel
theorem dX11_setGround_27 : decode cX11_setGround 27 = .ok (.invokevirtual 64, 3) := by decide +kernel
theorem dX11_setGround_30 : decode cX11_setGround 30 = .ok (.ireturn, 1) := by decide +kernel
theorem dX11_setSpreading_0 : decode cX11_setSpreading 0 = .ok (.aload_n 0, 1) := by decide +kernel
theorem dX11_setSpreading_1 : decode cX11_setSpreading 1 = .ok (.iconst 0, 1) := by decide +kernel
theorem dX11_setSpreading_2 : decode cX11_setSpreading 2 = .ok (.putfield 49, 3) := by decide +kernel
theorem dX11_setSpreading_5 : decode cX11_setSpreading 5 = .ok (.aload_n 0, 1) := by decide +kernel
theorem dX11_setSpreading_6 : decode cX11_setSpreading 6 = .ok (.iconst 2, 1) := by decide +kernel
theorem dX11_setSpreading_7 : decode cX11_setSpreading 7 = .ok (.iload_n 1, 1) := by decide +kernel
theorem dX11_setSpreading_8 : decode cX11_setSpreading 8 = .ok (.ifCond .eq 7, 3) := by decide +kernel
theorem dX11_setSpreading_11 : decode cX11_setSpreading 11 = .ok (.iconst 1, 1) := by decide +kernel
theorem dX11_setSpreading_12 : decode cX11_setSpreading 12 = .ok (.goto 4, 3) := by decide +kernel
theorem dX11_setSpreading_15 : decode cX11_setSpreading 15 = .ok (.iconst 0, 1) := by decide +kernel
theorem dX11_setSpreading_16 : decode cX11_setSpreading 16 = .ok (.invokevirtual 60, 3) := by decide +kernel
theorem dX11_setSpreading_19 : decode cX11_setSpreading 19 = .ok (.iconst 1, 1) := by decide +kernel
theorem dX11_setSpreading_20 : decode cX11_setSpreading 20 = .ok (.if_icmp .ne 7, 3) := by decide +kernel
theorem dX11_setSpreading_23 : decode cX11_setSpreading 23 = .ok (.iconst 1, 1) := by decide +kernel
theorem dX11_setSpreading_24 : decode cX11_setSpreading 24 = .ok (.goto 4, 3) := by decide +kernel
theorem dX11_setSpreading_27 : decode cX11_setSpreading 27 = .ok (.iconst 0, 1) := by decide +kernel
theorem dX11_setSpreading_28 : decode cX11_setSpreading 28 = .ok (.ireturn, 1) := by decide +kernel
theorem dX11_setNoise_0 : decode cX11_setNoise 0 = .ok (.aload_n 0, 1) := by decide +kernel
theorem dX11_setNoise_1 : decode cX11_setNoise 1 = .ok (.iload_n 1, 1) := by decide +kernel
theorem dX11_setNoise_2 : decode cX11_setNoise 2 = .ok (.ifCond .lt 13, 3) := by decide +kernel
theorem dX11_setNoise_5 : decode cX11_setNoise 5 = .ok (.iload_n 2, 1) := by decide +kernel
theorem dX11_setNoise_6 : decode cX11_setNoise 6 = .ok (.iconst 0, 1) := by decide +kernel
theorem dX11_setNoise_7 : decode cX11_setNoise 7 = .ok (.bipush 99, 2) := by decide +kernel
theorem dX11_setNoise_9 : decode cX11_setNoise 9 = .ok (.invokestatic 52, 3) := by decide +kernel
theorem dX11_setNoise_12 : decode cX11_setNoise 12 = .ok (.ifCond .ne 7, 3) := by decide +kernel
theorem dX11_setNoise_15 : decode cX11_setNoise 15 = .ok (.iconst 1, 1) := by decide +kernel
theorem dX11_setNoise_16 : decode cX11_setNoise 16 = .ok (.goto 4, 3) := by decide +kernel
theorem dX11_setNoise_19 : decode cX11_setNoise 19 = .ok (.iconst 0, 1) := by decide +kernel
theorem dX11_setNoise_20 : decode cX11_setNoise 20 = .ok (.putfield 49, 3) := by decide +kernel
theorem dX11_setNoise_23 : decode cX11_setNoise 23 = .ok (.aload_n 0, 1) := by decide +kernel
theorem dX11_setNoise_24 : decode cX11_setNoise 24 = .ok (.getfield 49, 3) := by decide +kernel
theorem dX11_setNoise_27 : decode cX11_setNoise 27 = .ok (.ifCond .ne 17, 3) := by decide +kernel
theorem dX11_setNoise_30 : decode cX11_setNoise 30 = .ok (.aload_n 0, 1) := by decide +kernel
theorem dX11_setNoise_31 : decode cX11_setNoise 31 = .ok (.getfield 7, 3) := by decide +kernel
theorem dX11_setNoise_34 : decode cX11_setNoise 34 = .ok (.iconst 3, 1) := by decide +kernel
theorem dX11_setNoise_35 : decode cX11_setNoise 35 = .ok (.iload_n 1, 1) := by decide +kernel
theorem dX11_setNoise_36 : decode cX11_setNoise 36 = .ok (.iastore, 1) := by decide +kernel
theorem dX11_setNoise_37 : decode cX11_setNoise 37 = .ok (.aload_n 0, 1) := by decide +kernel
theorem dX11_setNoise_38 : decode cX11_setNoise 38 = .ok (.getfield 7, 3) := by decide +kernel
theorem dX11_setNoise_41 : decode cX11_setNoise 41 = .ok (.iconst 4, 1) := by decide +kernel
theorem dX11_setNoise_42 : decode cX11_setNoise 42 = .ok (.iload_n 2, 1) := by decide +kernel
theorem dX11_setNoise_43 : decode cX11_setNoise 43 = .ok (.iastore, 1) := by decide +kernel
theorem dX11_setNoise_44 : decode cX11_setNoise 44 = .ok (.return_, 1) := by decide +kernel
theorem dX11_isVehiclePlace_0 : decode cX11_isVehiclePlace 0 = .ok (.iload_n 0, 1) := by decide +kernel
theorem dX11_isVehiclePlace_1 : decode cX11_isVehiclePlace 1 = .ok (.sipush (-20000), 3) := by decide +kernel
theorem dX11_isVehiclePlace_4 : decode cX11_isVehiclePlace 4 = .ok (.sipush 20000, 3) := by decide +kernel
theorem dX11_isVehiclePlace_7 : decode cX11_isVehiclePlace 7 = .ok (.invokestatic 52, 3) := by decide +kernel
theorem dX11_isVehiclePlace_10 : decode cX11_isVehiclePlace 10 = .ok (.ifCond .eq 30, 3) := by decide +kernel
theorem dX11_isVehiclePlace_13 : decode cX11_isVehiclePlace 13 = .ok (.iload_n 1, 1) := by decide +kernel
theorem dX11_isVehiclePlace_14 : decode cX11_isVehiclePlace 14 = .ok (.bipush (-50), 2) := by decide +kernel
theorem dX11_isVehiclePlace_16 : decode cX11_isVehiclePlace 16 = .ok (.bipush 50, 2) := by decide +kernel
theorem dX11_isVehiclePlace_18 : decode cX11_isVehiclePlace 18 = .ok (.invokestatic 52, 3) := by decide +kernel
theorem dX11_isVehiclePlace_21 : decode cX11_isVehiclePlace 21 = .ok (.ifCond .eq 19, 3) := by decide +kernel
theorem dX11_isVehiclePlace_24 : decode cX11_isVehiclePlace 24 = .ok (.iload_n 2, 1) := by decide +kernel
theorem dX11_isVehiclePlace_25 : decode cX11_isVehiclePlace 25 = .ok (.bipush 100, 2) := by decide +kernel
theorem dX11_isVehiclePlace_27 : decode cX11_isVehiclePlace 27 = .ok (.sipush 5000, 3) := by decide +kernel
theorem dX11_isVehiclePlace_30 : decode cX11_isVehiclePlace 30 = .ok (.invokestatic 52, 3) := by decide +kernel
theorem dX11_isVehiclePlace_33 : decode cX11_isVehiclePlace 33 = .ok (.ifCond .eq 7, 3) := by decide +kernel
theorem dX11_isVehiclePlace_36 : decode cX11_isVehiclePlace 36 = .ok (.iconst 1, 1) := by decide +kernel
theorem dX11_isVehiclePlace_37 : decode cX11_isVehiclePlace 37 = .ok (.goto 4, 3) := by decide +kernel
theorem dX11_isVehiclePlace_40 : decode cX11_isVehiclePlace 40 = .ok (.iconst 0, 1) := by decide +kernel
theorem dX11_isVehiclePlace_41 : decode cX11_isVehiclePlace 41 = .ok (.ireturn, 1) := by decide +kernel
theorem dX11_appendVehicle_0 : decode cX11_appendVehicle 0 = .ok (.bipush 16, 2) := by decide +kernel
theorem dX11_appendVehicle_2 : decode cX11_appendVehicle 2 = .ok (.iconst 3, 1) := by decide +kernel
theorem dX11_appendVehicle_3 : decode cX11_appendVehicle 3 = .ok (.aload_n 0, 1) := by decide +kernel
theorem dX11_appendVehicle_4 : decode cX11_appendVehicle 4 = .ok (.getfield 7, 3) := by decide +kernel
theorem dX11_appendVehicle_7 : decode cX11_appendVehicle 7 = .ok (.bipush 6, 2) := by decide +kernel
theorem dX11_appendVehicle_9 : decode cX11_appendVehicle 9 = .ok (.iaload, 1) := by decide +kernel
theorem dX11_appendVehicle_10 : decode cX11_appendVehicle 10 = .ok (.imul, 1) := by decide +kernel
theorem dX11_appendVehicle_11 : decode cX11_appendVehicle 11 = .ok (.iadd, 1) := by decide +kernel
theorem dX11_appendVehicle_12 : decode cX11_appendVehicle 12 = .ok (.istore 4, 2) := by decide +kernel
theorem dX11_appendVehicle_14 : decode cX11_appendVehicle 14 = .ok (.aload_n 0, 1) := by decide +kernel
theorem dX11_appendVehicle_15 : decode cX11_appendVehicle 15 = .ok (.getfield 7, 3) := by decide +kernel
theorem dX11_appendVehicle_18 : decode cX11_appendVehicle 18 = .ok (.iload 4, 2) := by decide +kernel
theorem dX11_appendVehicle_20 : decode cX11_appendVehicle 20 = .ok (.iconst 0, 1) := by decide +kernel
theorem dX11_appendVehicle_21 : decode cX11_appendVehicle 21 = .ok (.iadd, 1) := by decide +kernel
theorem dX11_appendVehicle_22 : decode cX11_appendVehicle 22 = .ok (.iload_n 1, 1) := by decide +kernel
theorem dX11_appendVehicle_23 : decode cX11_appendVehicle 23 = .ok (.iastore, 1) := by decide +kernel
theorem dX11_appendVehicle_24 : decode cX11_appendVehicle 24 = .ok (.aload_n 0, 1) := by decide +kernel
theorem dX11_appendVehicle_25 : decode cX11_appendVehicle 25 = .ok (.getfield 7, 3) := by decide +kernel
theorem dX11_appendVehicle_28 : decode cX11_appendVehicle 28 = .ok (.iload 4, 2) := by decide +kernel
theorem dX11_appendVehicle_30 : decode cX11_appendVehicle 30 = .ok (.iconst 1, 1) := by decide +kernel
theorem dX11_appendVehicle_31 : decode cX11_appendVehicle 31 = .ok (.iadd, 1) := by decide +kernel
theorem dX11_appendVehicle_32 : decode cX11_appendVehicle 32 = .ok (.iload_n 2, 1) := by decide +kernel
theorem dX11_appendVehicle_33 : decode cX11_appendVehicle 33 = .ok (.iastore, 1) := by decide +kernel
theorem dX11_appendVehicle_34 : decode cX11_appendVehicle 34 = .ok (.aload_n 0, 1) := by decide +kernel
theorem dX11_appendVehicle_35 : decode cX11_appendVehicle 35 = .ok (.getfield 7, 3) := by decide +kernel
theorem dX11_appendVehicle_38 : decode cX11_appendVehicle 38 = .ok (.iload 4, 2) := by decide +kernel
theorem dX11_appendVehicle_40 : decode cX11_appendVehicle 40 = .ok (.iconst 2, 1) := by decide +kernel
theorem dX11_appendVehicle_41 : decode cX11_appendVehicle 41 = .ok (.iadd, 1) := by decide +kernel
theorem dX11_appendVehicle_42 : decode cX11_appendVehicle 42 = .ok (.iload_n 3, 1) := by decide +kernel
theorem dX11_appendVehicle_43 : decode cX11_appendVehicle 43 = .ok (.iastore, 1) := by decide +kernel
theorem dX11_appendVehicle_44 : decode cX11_appendVehicle 44 = .ok (.aload_n 0, 1) := by decide +kernel
theorem dX11_appendVehicle_45 : decode cX11_appendVehicle 45 = .ok (.getfield 7, 3) := by decide +kernel
theorem dX11_appendVehicle_48 : decode cX11_appendVehicle 48 = .ok (.bipush 6, 2) := by decide +kernel
theorem dX11_appendVehicle_50 : decode cX11_appendVehicle 50 = .ok (.dup2, 1) := by decide +kernel
theorem dX11_appendVehicle_51 : decode cX11_appendVehicle 51 = .ok (.iaload, 1) := by decide +kernel
theorem dX11_appendVehicle_52 : decode cX11_appendVehicle 52 = .ok (.iconst 1, 1) := by decide +kernel
theorem dX11_appendVehicle_53 : decode cX11_appendVehicle 53 = .ok (.iadd, 1) := by decide +kernel
theorem dX11_appendVehicle_54 : decode cX11_appendVehicle 54 = .ok (.iastore, 1) := by decide +kernel
theorem dX11_appendVehicle_55 : decode cX11_appendVehicle 55 = .ok (.aload_n 0, 1) := by decide +kernel
theorem dX11_appendVehicle_56 : decode cX11_appendVehicle 56 = .ok (.getfield 7, 3) := by decide +kernel
theorem dX11_appendVehicle_59 : decode cX11_appendVehicle 59 = .ok (.bipush 6, 2) := by decide +kernel
theorem dX11_appendVehicle_61 : decode cX11_appendVehicle 61 = .ok (.iaload, 1) := by decide +kernel
theorem dX11_appendVehicle_62 : decode cX11_appendVehicle 62 = .ok (.iconst 1, 1) := by decide +kernel
theorem dX11_appendVehicle_63 : decode cX11_appendVehicle 63 = .ok (.isub, 1) := by decide +kernel
theorem dX11_appendVehicle_64 : decode cX11_appendVehicle 64 = .ok (.ireturn, 1) := by decide +kernel
theorem dX11_addVehicle_0 : decode cX11_addVehicle 0 = .ok (.aload_n 0, 1) := by decide +kernel
theorem dX11_addVehicle_1 : decode cX11_addVehicle 1 = .ok (.iconst 0, 1) := by decide +kernel
theorem dX11_addVehicle_2 : decode cX11_addVehicle 2 = .ok (.putfield 49, 3) := by decide +kernel
theorem dX11_addVehicle_5 : decode cX11_addVehicle 5 = .ok (.iload_n 1, 1) := by decide +kernel
theorem dX11_addVehicle_6 : decode cX11_addVehicle 6 = .ok (.iload_n 2, 1) := by decide +kernel
theorem dX11_addVehicle_7 : decode cX11_addVehicle 7 = .ok (.iload_n 3, 1) := by decide +kernel
theorem dX11_addVehicle_8 : decode cX11_addVehicle 8 = .ok (.invokestatic 68, 3) := by decide +kernel
theorem dX11_addVehicle_11 : decode cX11_addVehicle 11 = .ok (.ifCond .ne 9, 3) := by decide +kernel
theorem dX11_addVehicle_14 : decode cX11_addVehicle 14 = .ok (.aload_n 0, 1) := by decide +kernel
theorem dX11_addVehicle_15 : decode cX11_addVehicle 15 = .ok (.iconst 1, 1) := by decide +kernel
theorem dX11_addVehicle_16 : decode cX11_addVehicle 16 = .ok (.invokevirtual 64, 3) := by decide +kernel
theorem dX11_addVehicle_19 : decode cX11_addVehicle 19 = .ok (.ireturn, 1) := by decide +kernel
theorem dX11_addVehicle_20 : decode cX11_addVehicle 20 = .ok (.aload_n 0, 1) := by decide +kernel
theorem dX11_addVehicle_21 : decode cX11_addVehicle 21 = .ok (.getfield 7, 3) := by decide +kernel
theorem dX11_addVehicle_24 : decode cX11_addVehicle 24 = .ok (.bipush 6, 2) := by decide +kernel
theorem dX11_addVehicle_26 : decode cX11_addVehicle 26 = .ok (.iaload, 1) := by decide +kernel
theorem dX11_addVehicle_27 : decode cX11_addVehicle 27 = .ok (.iconst 4, 1) := by decide +kernel
theorem dX11_addVehicle_28 : decode cX11_addVehicle 28 = .ok (.if_icmp .ne 11, 3) := by decide +kernel
theorem dX11_addVehicle_31 : decode cX11_addVehicle 31 = .ok (.aload_n 0, 1) := by decide +kernel
theorem dX11_addVehicle_32 : decode cX11_addVehicle 32 = .ok (.iconst 2, 1) := by decide +kernel
theorem dX11_addVehicle_33 : decode cX11_addVehicle 33 = .ok (.invokevirtual 64, 3) := by decide +kernel
theorem dX11_addVehicle_36 : decode cX11_addVehicle 36 = .ok (.goto 10, 3) := by decide +kernel
theorem dX11_addVehicle_39 : decode cX11_addVehicle 39 = .ok (.aload_n 0, 1) := by decide +kernel
theorem dX11_addVehicle_40 : decode cX11_addVehicle 40 = .ok (.iload_n 1, 1) := by decide +kernel
theorem dX11_addVehicle_41 : decode cX11_addVehicle 41 = .ok (.iload_n 2, 1) := by decide +kernel
theorem dX11_addVehicle_42 : decode cX11_addVehicle 42 = .ok (.iload_n 3, 1) := by decide +kernel
theorem dX11_addVehicle_43 : decode cX11_addVehicle 43 = .ok (.invokevirtual 71, 3) := by decide +kernel
theorem dX11_addVehicle_46 : decode cX11_addVehicle 46 = .ok (.ireturn, 1) := by decide +kernel
theorem dX11_isHeight_0 : decode cX11_isHeight 0 = .ok (.iload_n 0, 1) := by decide +kernel
theorem dX11_isHeight_1 : decode cX11_isHeight 1 = .ok (.iconst 0, 1) := by decide +kernel
theorem dX11_isHeight_2 : decode cX11_isHeight 2 = .ok (.sipush 500, 3) := by decide +kernel
theorem dX11_isHeight_5 : decode cX11_isHeight 5 = .ok (.invokestatic 52, 3) := by decide +kernel
theorem dX11_isHeight_8 : decode cX11_isHeight 8 = .ok (.ireturn, 1) := by decide +kernel
theorem dX11_isOffset_0 : decode cX11_isOffset 0 = .ok (.iload_n 0, 1) := by decide +kernel
theorem dX11_isOffset_1 : decode cX11_isOffset 1 = .ok (.sipush (-1000), 3) := by decide +kernel
theorem dX11_isOffset_4 : decode cX11_isOffset 4 = .ok (.sipush 1000, 3) := by decide +kernel
theorem dX11_isOffset_7 : decode cX11_isOffset 7 = .ok (.invokestatic 52, 3) := by decide +kernel
theorem dX11_isOffset_10 : decode cX11_isOffset 10 = .ok (.ireturn, 1) := by decide +kernel
theorem dX11_isValue_0 : decode cX11_isValue 0 = .ok (.iload_n 0, 1) := by decide +kernel
theorem dX11_isValue_1 : decode cX11_isValue 1 = .ok (.bipush (-99), 2) := by decide +kernel
theorem dX11_isValue_3 : decode cX11_isValue 3 = .ok (.bipush 99, 2) := by decide +kernel
theorem dX11_isValue_5 : decode cX11_isValue 5 = .ok (.invokestatic 52, 3) := by decide +kernel
theorem dX11_isValue_8 : decode cX11_isValue 8 = .ok (.ireturn, 1) := by decide +kernel
theorem dX11_appendSource_0 : decode cX11_appendSource 0 = .ok (.bipush 28, 2) := by decide +kernel
theorem dX11_appendSource_2 : decode cX11_appendSource 2 = .ok (.bipush 21, 2) := by decide +kernel
theorem dX11_appendSource_4 : decode cX11_appendSource 4 = .ok (.aload_n 0, 1) := by decide +kernel
theorem dX11_appendSource_5 : decode cX11_appendSource 5 = .ok (.getfield 7, 3) := by decide +kernel
theorem dX11_appendSource_8 : decode cX11_appendSource 8 = .ok (.bipush 7, 2) := by decide +kernel
theorem dX11_appendSource_10 : decode cX11_appendSource 10 = .ok (.iaload, 1) := by decide +kernel
theorem dX11_appendSource_11 : decode cX11_appendSource 11 = .ok (.imul, 1) := by decide +kernel
theorem dX11_appendSource_12 : decode cX11_appendSource 12 = .ok (.iadd, 1) := by decide +kernel
theorem dX11_appendSource_13 : decode cX11_appendSource 13 = .ok (.istore 5, 2) := by decide +kernel
theorem dX11_appendSource_15 : decode cX11_appendSource 15 = .ok (.aload_n 0, 1) := by decide +kernel
theorem dX11_appendSource_16 : decode cX11_appendSource 16 = .ok (.getfield 7, 3) := by decide +kernel
theorem dX11_appendSource_19 : decode cX11_appendSource 19 = .ok (.iload 5, 2) := by decide +kernel
theorem dX11_appendSource_21 : decode cX11_appendSource 21 = .ok (.iconst 0, 1) := by decide +kernel
theorem dX11_appendSource_22 : decode cX11_appendSource 22 = .ok (.iadd, 1) := by decide +kernel
theorem dX11_appendSource_23 : decode cX11_appendSource 23 = .ok (.iload_n 1, 1) := by decide +kernel
theorem dX11_appendSource_24 : decode cX11_appendSource 24 = .ok (.iastore, 1) := by decide +kernel
theorem dX11_appendSource_25 : decode cX11_appendSource 25 = .ok (.aload_n 0, 1) := by decide +kernel
theorem dX11_appendSource_26 : decode cX11_appendSource 26 = .ok (.getfield 7, 3) := by decide +kernel
theorem dX11_appendSource_29 : decode cX11_appendSource 29 = .ok (.iload 5, 2) := by decide +kernel
theorem dX11_appendSource_31 : decode cX11_appendSource 31 = .ok (.iconst 1, 1) := by decide +kernel
theorem dX11_appendSource_32 : decode cX11_appendSource 32 = .ok (.iadd, 1) := by decide +kernel
theorem dX11_appendSource_33 : decode cX11_appendSource 33 = .ok (.iload_n 2, 1) := by decide +kernel
theorem dX11_appendSource_34 : decode cX11_appendSource 34 = .ok (.iastore, 1) := by decide +kernel
theorem dX11_appendSource_35 : decode cX11_appendSource 35 = .ok (.aload_n 0, 1) := by decide +kernel
theorem dX11_appendSource_36 : decode cX11_appendSource 36 = .ok (.getfield 7, 3) := by decide +kernel
theorem dX11_appendSource_39 : decode cX11_appendSource 39 = .ok (.iload 5, 2) := by decide +kernel
theorem dX11_appendSource_41 : decode cX11_appendSource 41 = .ok (.iconst 2, 1) := by decide +kernel
theorem dX11_appendSource_42 : decode cX11_appendSource 42 = .ok (.iadd, 1) := by decide +kernel
theorem dX11_appendSource_43 : decode cX11_appendSource 43 = .ok (.iload_n 3, 1) := by decide +kernel
theorem dX11_appendSource_44 : decode cX11_appendSource 44 = .ok (.iastore, 1) := by decide +kernel
theorem dX11_appendSource_45 : decode cX11_appendSource 45 = .ok (.aload_n 0, 1) := by decide +kernel
theorem dX11_appendSource_46 : decode cX11_appendSource 46 = .ok (.getfield 7, 3) := by decide +kernel
theorem dX11_appendSource_49 : decode cX11_appendSource 49 = .ok (.iload 5, 2) := by decide +kernel
theorem dX11_appendSource_51 : decode cX11_appendSource 51 = .ok (.iconst 3, 1) := by decide +kernel
theorem dX11_appendSource_52 : decode cX11_appendSource 52 = .ok (.iadd, 1) := by decide +kernel
theorem dX11_appendSource_53 : decode cX11_appendSource 53 = .ok (.iload 4, 2) := by decide +kernel
theorem dX11_appendSource_55 : decode cX11_appendSource 55 = .ok (.iastore, 1) := by decide +kernel
theorem dX11_appendSource_56 : decode cX11_appendSource 56 = .ok (.aload_n 0, 1) := by decide +kernel
theorem dX11_appendSource_57 : decode cX11_appendSource 57 = .ok (.getfield 7, 3) := by decide +kernel
theorem dX11_appendSource_60 : decode cX11_appendSource 60 = .ok (.iload 5, 2) := by decide +kernel
theorem dX11_appendSource_62 : decode cX11_appendSource 62 = .ok (.iconst 4, 1) := by decide +kernel
theorem dX11_appendSource_63 : decode cX11_appendSource 63 = .ok (.iadd, 1) := by decide +kernel
theorem dX11_appendSource_64 : decode cX11_appendSource 64 = .ok (.iconst 0, 1) := by decide +kernel
theorem dX11_appendSource_65 : decode cX11_appendSource 65 = .ok (.iastore, 1) := by decide +kernel
theorem dX11_appendSource_66 : decode cX11_appendSource 66 = .ok (.aload_n 0, 1) := by decide +kernel
theorem dX11_appendSource_67 : decode cX11_appendSource 67 = .ok (.getfield 7, 3) := by decide +kernel
theorem dX11_appendSource_70 : decode cX11_appendSource 70 = .ok (.bipush 7, 2) := by decide +kernel
theorem dX11_appendSource_72 : decode cX11_appendSource 72 = .ok (.dup2, 1) := by decide +kernel
theorem dX11_appendSource_73 : decode cX11_appendSource 73 = .ok (.iaload, 1) := by decide +kernel
theorem dX11_appendSource_74 : decode cX11_appendSource 74 = .ok (.iconst 1, 1) := by decide +kernel
theorem dX11_appendSource_75 : decode cX11_appendSource 75 = .ok (.iadd, 1) := by decide +kernel
theorem dX11_appendSource_76 : decode cX11_appendSource 76 = .ok (.iastore, 1) := by decide +kernel
theorem dX11_appendSource_77 : decode cX11_appendSource 77 = .ok (.aload_n 0, 1) := by decide +kernel
theorem dX11_appendSource_78 : decode cX11_appendSource 78 = .ok (.getfield 7, 3) := by decide +kernel
theorem dX11_appendSource_81 : decode cX11_appendSource 81 = .ok (.bipush 7, 2) := by decide +kernel
theorem dX11_appendSource_83 : decode cX11_appendSource 83 = .ok (.iaload, 1) := by decide +kernel
theorem dX11_appendSource_84 : decode cX11_appendSource 84 = .ok (.iconst 1, 1) := by decide +kernel
theorem dX11_appendSource_85 : decode cX11_appendSource 85 = .ok (.isub, 1) := by decide +kernel
theorem dX11_appendSource_86 : decode cX11_appendSource 86 = .ok (.ireturn, 1) := by decide +kernel
theorem dX11_appendValue_0 : decode cX11_appendValue 0 = .ok (.bipush 28, 2) := by decide +kernel
theorem dX11_appendValue_2 : decode cX11_appendValue 2 = .ok (.bipush 21, 2) := by decide +kernel
theorem dX11_appendValue_4 : decode cX11_appendValue 4 = .ok (.iload_n 1, 1) := by decide +kernel
theorem dX11_appendValue_5 : decode cX11_appendValue 5 = .ok (.imul, 1) := by decide +kernel
theorem dX11_appendValue_6 : decode cX11_appendValue 6 = .ok (.iadd, 1) := by decide +kernel
theorem dX11_appendValue_7 : decode cX11_appendValue 7 = .ok (.istore_n 3, 1) := by decide +kernel
theorem dX11_appendValue_8 : decode cX11_appendValue 8 = .ok (.aload_n 0, 1) := by decide +kernel
theorem dX11_appendValue_9 : decode cX11_appendValue 9 = .ok (.getfield 7, 3) := by decide +kernel
theorem dX11_appendValue_12 : decode cX11_appendValue 12 = .ok (.iload_n 3, 1) := by decide +kernel
theorem dX11_appendValue_13 : decode cX11_appendValue 13 = .ok (.iconst 5, 1) := by decide +kernel
theorem dX11_appendValue_14 : decode cX11_appendValue 14 = .ok (.iadd, 1) := by decide +kernel
theorem dX11_appendValue_15 : decode cX11_appendValue 15 = .ok (.aload_n 0, 1) := by decide +kernel
theorem dX11_appendValue_16 : decode cX11_appendValue 16 = .ok (.getfield 7, 3) := by decide +kernel
theorem dX11_appendValue_19 : decode cX11_appendValue 19 = .ok (.iload_n 3, 1) := by decide +kernel
theorem dX11_appendValue_20 : decode cX11_appendValue 20 = .ok (.iconst 4, 1) := by decide +kernel
theorem dX11_appendValue_21 : decode cX11_appendValue 21 = .ok (.iadd, 1) := by decide +kernel
theorem dX11_appendValue_22 : decode cX11_appendValue 22 = .ok (.iaload, 1) := by decide +kernel
theorem dX11_appendValue_23 : decode cX11_appendValue 23 = .ok (.iadd, 1) := by decide +kernel
theorem dX11_appendValue_24 : decode cX11_appendValue 24 = .ok (.iload_n 2, 1) := by decide +kernel
theorem dX11_appendValue_25 : decode cX11_appendValue 25 = .ok (.iastore, 1) := by decide +kernel
theorem dX11_appendValue_26 : decode cX11_appendValue 26 = .ok (.aload_n 0, 1) := by decide +kernel
theorem dX11_appendValue_27 : decode cX11_appendValue 27 = .ok (.getfield 7, 3) := by decide +kernel
theorem dX11_appendValue_30 : decode cX11_appendValue 30 = .ok (.iload_n 3, 1) := by decide +kernel
theorem dX11_appendValue_31 : decode cX11_appendValue 31 = .ok (.iconst 4, 1) := by decide +kernel
theorem dX11_appendValue_32 : decode cX11_appendValue 32 = .ok (.iadd, 1) := by decide +kernel
theorem dX11_appendValue_33 : decode cX11_appendValue 33 = .ok (.dup2, 1) := by decide +kernel
theorem dX11_appendValue_34 : decode cX11_appendValue 34 = .ok (.iaload, 1) := by decide +kernel
theorem dX11_appendValue_35 : decode cX11_appendValue 35 = .ok (.iconst 1, 1) := by decide +kernel
theorem dX11_appendValue_36 : decode cX11_appendValue 36 = .ok (.iadd, 1) := by decide +kernel
theorem dX11_appendValue_37 : decode cX11_appendValue 37 = .ok (.iastore, 1) := by decide +kernel
theorem dX11_appendValue_38 : decode cX11_appendValue 38 = .ok (.aload_n 0, 1) := by decide +kernel
theorem dX11_appendValue_39 : decode cX11_appendValue 39 = .ok (.getfield 7, 3) := by decide +kernel
theorem dX11_appendValue_42 : decode cX11_appendValue 42 = .ok (.iload_n 3, 1) := by decide +kernel
theorem dX11_appendValue_43 : decode cX11_appendValue 43 = .ok (.iconst 4, 1) := by decide +kernel
theorem dX11_appendValue_44 : decode cX11_appendValue 44 = .ok (.iadd, 1) := by decide +kernel
theorem dX11_appendValue_45 : decode cX11_appendValue 45 = .ok (.iaload, 1) := by decide +kernel
theorem dX11_appendValue_46 : decode cX11_appendValue 46 = .ok (.ireturn, 1) := by decide +kernel
theorem dX11_addSource_0 : decode cX11_addSource 0 = .ok (.aload_n 0, 1) := by decide +kernel
theorem dX11_addSource_1 : decode cX11_addSource 1 = .ok (.iconst 0, 1) := by decide +kernel
theorem dX11_addSource_2 : decode cX11_addSource 2 = .ok (.putfield 49, 3) := by decide +kernel
theorem dX11_addSource_5 : decode cX11_addSource 5 = .ok (.aload_n 0, 1) := by decide +kernel
theorem dX11_addSource_6 : decode cX11_addSource 6 = .ok (.iload_n 1, 1) := by decide +kernel
theorem dX11_addSource_7 : decode cX11_addSource 7 = .ok (.invokevirtual 75, 3) := by decide +kernel
theorem dX11_addSource_10 : decode cX11_addSource 10 = .ok (.ifCond .ne 9, 3) := by decide +kernel
theorem dX11_addSource_13 : decode cX11_addSource 13 = .ok (.aload_n 0, 1) := by decide +kernel
theorem dX11_addSource_14 : decode cX11_addSource 14 = .ok (.iconst 1, 1) := by decide +kernel
theorem dX11_addSource_15 : decode cX11_addSource 15 = .ok (.invokevirtual 64, 3) := by decide +kernel
theorem dX11_addSource_18 : decode cX11_addSource 18 = .ok (.ireturn, 1) := by decide +kernel
theorem dX11_addSource_19 : decode cX11_addSource 19 = .ok (.iload_n 2, 1) := by decide +kernel
theorem dX11_addSource_20 : decode cX11_addSource 20 = .ok (.invokestatic 78, 3) := by decide +kernel
theorem dX11_addSource_23 : decode cX11_addSource 23 = .ok (.ifCond .eq 29, 3) := by decide +kernel
theorem dX11_addSource_26 : decode cX11_addSource 26 = .ok (.iload_n 3, 1) := by decide +kernel
theorem dX11_addSource_27 : decode cX11_addSource 27 = .ok (.invokestatic 81, 3) := by decide +kernel
theorem dX11_addSource_30 : decode cX11_addSource 30 = .ok (.ifCond .eq 22, 3) := by decide +kernel
theorem dX11_addSource_33 : decode cX11_addSource 33 = .ok (.iload 4, 2) := by decide +kernel
theorem dX11_addSource_35 : decode cX11_addSource 35 = .ok (.iconst 1, 1) := by decide +kernel
theorem dX11_addSource_36 : decode cX11_addSource 36 = .ok (.bipush 10, 2) := by decide +kernel
theorem dX11_addSource_38 : decode cX11_addSource 38 = .ok (.invokestatic 52, 3) := by decide +kernel
theorem dX11_addSource_41 : decode cX11_addSource 41 = .ok (.ifCond .eq 11, 3) := by decide +kernel
theorem dX11_addSource_44 : decode cX11_addSource 44 = .ok (.iload 5, 2) := by decide +kernel
theorem dX11_addSource_46 : decode cX11_addSource 46 = .ok (.invokestatic 84, 3) := by decide +kernel
theorem dX11_addSource_49 : decode cX11_addSource 49 = .ok (.ifCond .ne 9, 3) := by decide +kernel
theorem dX11_addSource_52 : decode cX11_addSource 52 = .ok (.aload_n 0, 1) := by decide +kernel
theorem dX11_addSource_53 : decode cX11_addSource 53 = .ok (.iconst 2, 1) := by decide +kernel
theorem dX11_addSource_54 : decode cX11_addSource 54 = .ok (.invokevirtual 64, 3) := by decide +kernel
theorem dX11_addSource_57 : decode cX11_addSource 57 = .ok (.ireturn, 1) := by decide +kernel
theorem dX11_addSource_58 : decode cX11_addSource 58 = .ok (.aload_n 0, 1) := by decide +kernel
theorem dX11_addSource_59 : decode cX11_addSource 59 = .ok (.getfield 7, 3) := by decide +kernel
theorem dX11_addSource_62 : decode cX11_addSource 62 = .ok (.bipush 7, 2) := by decide +kernel
theorem dX11_addSource_64 : decode cX11_addSource 64 = .ok (.iaload, 1) := by decide +kernel
theorem dX11_addSource_65 : decode cX11_addSource 65 = .ok (.bipush 6, 2) := by decide +kernel
theorem dX11_addSource_67 : decode cX11_addSource 67 = .ok (.if_icmp .ne 9, 3) := by decide +kernel
theorem dX11_addSource_70 : decode cX11_addSource 70 = .ok (.aload_n 0, 1) := by decide +kernel
theorem dX11_addSource_71 : decode cX11_addSource 71 = .ok (.iconst 3, 1) := by decide +kernel
theorem dX11_addSource_72 : decode cX11_addSource 72 = .ok (.invokevirtual 64, 3) := by decide +kernel
theorem dX11_addSource_75 : decode cX11_addSource 75 = .ok (.ireturn, 1) := by decide +kernel
theorem dX11_addSource_76 : decode cX11_addSource 76 = .ok (.aload_n 0, 1) := by decide +kernel
theorem dX11_addSource_77 : decode cX11_addSource 77 = .ok (.iload_n 1, 1) := by decide +kernel
theorem dX11_addSource_78 : decode cX11_addSource 78 = .ok (.iload_n 2, 1) := by decide +kernel
theorem dX11_addSource_79 : decode cX11_addSource 79 = .ok (.iload_n 3, 1) := by decide +kernel
theorem dX11_addSource_80 : decode cX11_addSource 80 = .ok (.iload 4, 2) := by decide +kernel
theorem dX11_addSource_82 : decode cX11_addSource 82 = .ok (.invokevirtual 87, 3) := by decide +kernel
theorem dX11_addSource_85 : decode cX11_addSource 85 = .ok (.istore 6, 2) := by decide +kernel
theorem dX11_addSource_87 : decode cX11_addSource 87 = .ok (.aload_n 0, 1) := by decide +kernel
theorem dX11_addSource_88 : decode cX11_addSource 88 = .ok (.iload 6, 2) := by decide +kernel
theorem dX11_addSource_90 : decode cX11_addSource 90 = .ok (.iload 5, 2) := by decide +kernel
theorem dX11_addSource_92 : decode cX11_addSource 92 = .ok (.invokevirtual 91, 3) := by decide +kernel
theorem dX11_addSource_95 : decode cX11_addSource 95 = .ok (.istore 7, 2) := by decide +kernel
theorem dX11_addSource_97 : decode cX11_addSource 97 = .ok (.iload 6, 2) := by decide +kernel
theorem dX11_addSource_99 : decode cX11_addSource 99 = .ok (.ireturn, 1) := by decide +kernel
theorem dX11_addValue_0 : decode cX11_addValue 0 = .ok (.aload_n 0, 1) := by decide +kernel
theorem dX11_addValue_1 : decode cX11_addValue 1 = .ok (.iconst 0, 1) := by decide +kernel
theorem dX11_addValue_2 : decode cX11_addValue 2 = .ok (.putfield 49, 3) := by decide +kernel
theorem dX11_addValue_5 : decode cX11_addValue 5 = .ok (.aload_n 0, 1) := by decide +kernel
theorem dX11_addValue_6 : decode cX11_addValue 6 = .ok (.iload_n 1, 1) := by decide +kernel
theorem dX11_addValue_7 : decode cX11_addValue 7 = .ok (.invokevirtual 94, 3) := by decide +kernel
theorem dX11_addValue_10 : decode cX11_addValue 10 = .ok (.ifCond .ne 9, 3) := by decide +kernel
theorem dX11_addValue_13 : decode cX11_addValue 13 = .ok (.aload_n 0, 1) := by decide +kernel
theorem dX11_addValue_14 : decode cX11_addValue 14 = .ok (.iconst 1, 1) := by decide +kernel
theorem dX11_addValue_15 : decode cX11_addValue 15 = .ok (.invokevirtual 64, 3) := by decide +kernel
theorem dX11_addValue_18 : decode cX11_addValue 18 = .ok (.ireturn, 1) := by decide +kernel
theorem dX11_addValue_19 : decode cX11_addValue 19 = .ok (.iload_n 2, 1) := by decide +kernel
theorem dX11_addValue_20 : decode cX11_addValue 20 = .ok (.invokestatic 84, 3) := by decide +kernel
theorem dX11_addValue_23 : decode cX11_addValue 23 = .ok (.ifCond .ne 9, 3) := by decide +kernel
theorem dX11_addValue_26 : decode cX11_addValue 26 = .ok (.aload_n 0, 1) := by decide +kernel
theorem dX11_addValue_27 : decode cX11_addValue 27 = .ok (.iconst 2, 1) := by decide +kernel
theorem dX11_addValue_28 : decode cX11_addValue 28 = .ok (.invokevirtual 64, 3) := by decide +kernel
theorem dX11_addValue_31 : decode cX11_addValue 31 = .ok (.ireturn, 1) := by decide +kernel
theorem dX11_addValue_32 : decode cX11_addValue 32 = .ok (.aload_n 0, 1) := by decide +kernel
theorem dX11_addValue_33 : decode cX11_addValue 33 = .ok (.iload_n 1, 1) := by decide +kernel
theorem dX11_addValue_34 : decode cX11_addValue 34 = .ok (.iconst 4, 1) := by decide +kernel
theorem dX11_addValue_35 : decode cX11_addValue 35 = .ok (.invokevirtual 97, 3) := by decide +kernel
theorem dX11_addValue_38 : decode cX11_addValue 38 = .ok (.bipush 16, 2) := by decide +kernel
theorem dX11_addValue_40 : decode cX11_addValue 40 = .ok (.if_icmp .ne 11, 3) := by decide +kernel
theorem dX11_addValue_43 : decode cX11_addValue 43 = .ok (.aload_n 0, 1) := by decide +kernel
theorem dX11_addValue_44 : decode cX11_addValue 44 = .ok (.iconst 3, 1) := by decide +kernel
theorem dX11_addValue_45 : decode cX11_addValue 45 = .ok (.invokevirtual 64, 3) := by decide +kernel
theorem dX11_addValue_48 : decode cX11_addValue 48 = .ok (.goto 9, 3) := by decide +kernel
theorem dX11_addValue_51 : decode cX11_addValue 51 = .ok (.aload_n 0, 1) := by decide +kernel
theorem dX11_addValue_52 : decode cX11_addValue 52 = .ok (.iload_n 1, 1) := by decide +kernel
theorem dX11_addValue_53 : decode cX11_addValue 53 = .ok (.iload_n 2, 1) := by decide +kernel
theorem dX11_addValue_54 : decode cX11_addValue 54 = .ok (.invokevirtual 91, 3) := by decide +kernel
theorem dX11_addValue_57 : decode cX11_addValue 57 = .ok (.ireturn, 1) := by decide +kernel
theorem dX11_isMicrophonePlace_0 : decode cX11_isMicrophonePlace 0 = .ok (.iload_n 0, 1) := by decide +kernel
theorem dX11_isMicrophonePlace_1 : decode cX11_isMicrophonePlace 1 = .ok (.sipush (-5000), 3) := by decide +kernel
theorem dX11_isMicrophonePlace_4 : decode cX11_isMicrophonePlace 4 = .ok (.sipush 5000, 3) := by decide +kernel
theorem dX11_isMicrophonePlace_7 : decode cX11_isMicrophonePlace 7 = .ok (.invokestatic 52, 3) := by decide +kernel
theorem dX11_isMicrophonePlace_10 : decode cX11_isMicrophonePlace 10 = .ok (.ifCond .eq 25, 3) := by decide +kernel
theorem dX11_isMicrophonePlace_13 : decode cX11_isMicrophonePlace 13 = .ok (.iload_n 1, 1) := by decide +kernel
theorem dX11_isMicrophonePlace_14 : decode cX11_isMicrophonePlace 14 = .ok (.bipush (-100), 2) := by decide +kernel
theorem dX11_isMicrophonePlace_16 : decode cX11_isMicrophonePlace 16 = .ok (.bipush 99, 2) := by decide +kernel
theorem dX11_isMicrophonePlace_18 : decode cX11_isMicrophonePlace 18 = .ok (.invokestatic 52, 3) := by decide +kernel
theorem dX11_isMicrophonePlace_21 : decode cX11_isMicrophonePlace 21 = .ok (.ifCond .eq 14, 3) := by decide +kernel
theorem dX11_isMicrophonePlace_24 : decode cX11_isMicrophonePlace 24 = .ok (.iload_n 2, 1) := by decide +kernel
theorem dX11_isMicrophonePlace_25 : decode cX11_isMicrophonePlace 25 = .ok (.invokestatic 81, 3) := by decide +kernel
theorem dX11_isMicrophonePlace_28 : decode cX11_isMicrophonePlace 28 = .ok (.ifCond .eq 7, 3) := by decide +kernel
theorem dX11_isMicrophonePlace_31 : decode cX11_isMicrophonePlace 31 = .ok (.iconst 1, 1) := by decide +kernel
theorem dX11_isMicrophonePlace_32 : decode cX11_isMicrophonePlace 32 = .ok (.goto 4, 3) := by decide +kernel
theorem dX11_isMicrophonePlace_35 : decode cX11_isMicrophonePlace 35 = .ok (.iconst 0, 1) := by decide +kernel
theorem dX11_isMicrophonePlace_36 : decode cX11_isMicrophonePlace 36 = .ok (.ireturn, 1) := by decide +kernel
theorem dX11_appendMicrophone_0 : decode cX11_appendMicrophone 0 = .ok (.sipush 154, 3) := by decide +kernel
theorem dX11_appendMicrophone_3 : decode cX11_appendMicrophone 3 = .ok (.iconst 4, 1) := by decide +kernel
theorem dX11_appendMicrophone_4 : decode cX11_appendMicrophone 4 = .ok (.aload_n 0, 1) := by decide +kernel
theorem dX11_appendMicrophone_5 : decode cX11_appendMicrophone 5 = .ok (.getfield 7, 3) := by decide +kernel
theorem dX11_appendMicrophone_8 : decode cX11_appendMicrophone 8 = .ok (.bipush 8, 2) := by decide +kernel
theorem dX11_appendMicrophone_10 : decode cX11_appendMicrophone 10 = .ok (.iaload, 1) := by decide +kernel
theorem dX11_appendMicrophone_11 : decode cX11_appendMicrophone 11 = .ok (.imul, 1) := by decide +kernel
theorem dX11_appendMicrophone_12 : decode cX11_appendMicrophone 12 = .ok (.iadd, 1) := by decide +kernel
theorem dX11_appendMicrophone_13 : decode cX11_appendMicrophone 13 = .ok (.istore 5, 2) := by decide +kernel
theorem dX11_appendMicrophone_15 : decode cX11_appendMicrophone 15 = .ok (.aload_n 0, 1) := by decide +kernel
theorem dX11_appendMicrophone_16 : decode cX11_appendMicrophone 16 = .ok (.getfield 7, 3) := by decide +kernel
theorem dX11_appendMicrophone_19 : decode cX11_appendMicrophone 19 = .ok (.iload 5, 2) := by decide +kernel
theorem dX11_appendMicrophone_21 : decode cX11_appendMicrophone 21 = .ok (.iconst 0, 1) := by decide +kernel
theorem dX11_appendMicrophone_22 : decode cX11_appendMicrophone 22 = .ok (.iadd, 1) := by decide +kernel
theorem dX11_appendMicrophone_23 : decode cX11_appendMicrophone 23 = .ok (.iload_n 1, 1) := by decide +kernel
theorem dX11_appendMicrophone_24 : decode cX11_appendMicrophone 24 = .ok (.iastore, 1) := by decide +kernel
theorem dX11_appendMicrophone_25 : decode cX11_appendMicrophone 25 = .ok (.aload_n 0, 1) := by decide +kernel
theorem dX11_appendMicrophone_26 : decode cX11_appendMicrophone 26 = .ok (.getfield 7, 3) := by decide +kernel
theorem dX11_appendMicrophone_29 : decode cX11_appendMicrophone 29 = .ok (.iload 5, 2) := by decide +kernel
theorem dX11_appendMicrophone_31 : decode cX11_appendMicrophone 31 = .ok (.iconst 1, 1) := by decide +kernel
theorem dX11_appendMicrophone_32 : decode cX11_appendMicrophone 32 = .ok (.iadd, 1) := by decide +kernel
theorem dX11_appendMicrophone_33 : decode cX11_appendMicrophone 33 = .ok (.iload_n 2, 1) := by decide +kernel
theorem dX11_appendMicrophone_34 : decode cX11_appendMicrophone 34 = .ok (.iastore, 1) := by decide +kernel
theorem dX11_appendMicrophone_35 : decode cX11_appendMicrophone 35 = .ok (.aload_n 0, 1) := by decide +kernel
theorem dX11_appendMicrophone_36 : decode cX11_appendMicrophone 36 = .ok (.getfield 7, 3) := by decide +kernel
theorem dX11_appendMicrophone_39 : decode cX11_appendMicrophone 39 = .ok (.iload 5, 2) := by decide +kernel
theorem dX11_appendMicrophone_41 : decode cX11_appendMicrophone 41 = .ok (.iconst 2, 1) := by decide +kernel
theorem dX11_appendMicrophone_42 : decode cX11_appendMicrophone 42 = .ok (.iadd, 1) := by decide +kernel
theorem dX11_appendMicrophone_43 : decode cX11_appendMicrophone 43 = .ok (.iload_n 3, 1) := by decide +kernel
theorem dX11_appendMicrophone_44 : decode cX11_appendMicrophone 44 = .ok (.iastore, 1) := by decide +kernel
theorem dX11_appendMicrophone_45 : decode cX11_appendMicrophone 45 = .ok (.aload_n 0, 1) := by decide +kernel
theorem dX11_appendMicrophone_46 : decode cX11_appendMicrophone 46 = .ok (.getfield 7, 3) := by decide +kernel
theorem dX11_appendMicrophone_49 : decode cX11_appendMicrophone 49 = .ok (.iload 5, 2) := by decide +kernel
theorem dX11_appendMicrophone_51 : decode cX11_appendMicrophone 51 = .ok (.iconst 3, 1) := by decide +kernel
theorem dX11_appendMicrophone_52 : decode cX11_appendMicrophone 52 = .ok (.iadd, 1) := by decide +kernel
theorem dX11_appendMicrophone_53 : decode cX11_appendMicrophone 53 = .ok (.iload 4, 2) := by decide +kernel
theorem dX11_appendMicrophone_55 : decode cX11_appendMicrophone 55 = .ok (.iastore, 1) := by decide +kernel
theorem dX11_appendMicrophone_56 : decode cX11_appendMicrophone 56 = .ok (.aload_n 0, 1) := by decide +kernel
theorem dX11_appendMicrophone_57 : decode cX11_appendMicrophone 57 = .ok (.getfield 7, 3) := by decide +kernel
theorem dX11_appendMicrophone_60 : decode cX11_appendMicrophone 60 = .ok (.bipush 8, 2) := by decide +kernel
theorem dX11_appendMicrophone_62 : decode cX11_appendMicrophone 62 = .ok (.dup2, 1) := by decide +kernel
theorem dX11_appendMicrophone_63 : decode cX11_appendMicrophone 63 = .ok (.iaload, 1) := by decide +kernel
theorem dX11_appendMicrophone_64 : decode cX11_appendMicrophone 64 = .ok (.iconst 1, 1) := by decide +kernel
theorem dX11_appendMicrophone_65 : decode cX11_appendMicrophone 65 = .ok (.iadd, 1) := by decide +kernel
theorem dX11_appendMicrophone_66 : decode cX11_appendMicrophone 66 = .ok (.iastore, 1) := by decide +kernel
theorem dX11_appendMicrophone_67 : decode cX11_appendMicrophone 67 = .ok (.aload_n 0, 1) := by decide +kernel
theorem dX11_appendMicrophone_68 : decode cX11_appendMicrophone 68 = .ok (.getfield 7, 3) := by decide +kernel
theorem dX11_appendMicrophone_71 : decode cX11_appendMicrophone 71 = .ok (.bipush 8, 2) := by decide +kernel
theorem dX11_appendMicrophone_73 : decode cX11_appendMicrophone 73 = .ok (.iaload, 1) := by decide +kernel
theorem dX11_appendMicrophone_74 : decode cX11_appendMicrophone 74 = .ok (.iconst 1, 1) := by decide +kernel
theorem dX11_appendMicrophone_75 : decode cX11_appendMicrophone 75 = .ok (.isub, 1) := by decide +kernel
theorem dX11_appendMicrophone_76 : decode cX11_appendMicrophone 76 = .ok (.ireturn, 1) := by decide +kernel
theorem dX11_addMicrophone_0 : decode cX11_addMicrophone 0 = .ok (.aload_n 0, 1) := by decide +kernel
theorem dX11_addMicrophone_1 : decode cX11_addMicrophone 1 = .ok (.iconst 0, 1) := by decide +kernel
theorem dX11_addMicrophone_2 : decode cX11_addMicrophone 2 = .ok (.putfield 49, 3) := by decide +kernel
theorem dX11_addMicrophone_5 : decode cX11_addMicrophone 5 = .ok (.iload_n 1, 1) := by decide +kernel
theorem dX11_addMicrophone_6 : decode cX11_addMicrophone 6 = .ok (.iload_n 2, 1) := by decide +kernel
theorem dX11_addMicrophone_7 : decode cX11_addMicrophone 7 = .ok (.iload_n 3, 1) := by decide +kernel
theorem dX11_addMicrophone_8 : decode cX11_addMicrophone 8 = .ok (.invokestatic 100, 3) := by decide +kernel
theorem dX11_addMicrophone_11 : decode cX11_addMicrophone 11 = .ok (.ifCond .eq 14, 3) := by decide +kernel
theorem dX11_addMicrophone_14 : decode cX11_addMicrophone 14 = .ok (.iload 4, 2) := by decide +kernel
theorem dX11_addMicrophone_16 : decode cX11_addMicrophone 16 = .ok (.iconst 0, 1) := by decide +kernel
theorem dX11_addMicrophone_17 : decode cX11_addMicrophone 17 = .ok (.bipush 9, 2) := by decide +kernel
theorem dX11_addMicrophone_19 : decode cX11_addMicrophone 19 = .ok (.invokestatic 52, 3) := by decide +kernel
theorem dX11_addMicrophone_22 : decode cX11_addMicrophone 22 = .ok (.ifCond .ne 9, 3) := by decide +kernel
theorem dX11_addMicrophone_25 : decode cX11_addMicrophone 25 = .ok (.aload_n 0, 1) := by decide +kernel
theorem dX11_addMicrophone_26 : decode cX11_addMicrophone 26 = .ok (.iconst 1, 1) := by decide +kernel
theorem dX11_addMicrophone_27 : decode cX11_addMicrophone 27 = .ok (.invokevirtual 64, 3) := by decide +kernel
theorem dX11_addMicrophone_30 : decode cX11_addMicrophone 30 = .ok (.ireturn, 1) := by decide +kernel
theorem dX11_addMicrophone_31 : decode cX11_addMicrophone 31 = .ok (.aload_n 0, 1) := by decide +kernel
theorem dX11_addMicrophone_32 : decode cX11_addMicrophone 32 = .ok (.getfield 7, 3) := by decide +kernel
theorem dX11_addMicrophone_35 : decode cX11_addMicrophone 35 = .ok (.bipush 8, 2) := by decide +kernel
theorem dX11_addMicrophone_37 : decode cX11_addMicrophone 37 = .ok (.iaload, 1) := by decide +kernel
theorem dX11_addMicrophone_38 : decode cX11_addMicrophone 38 = .ok (.bipush 8, 2) := by decide +kernel
theorem dX11_addMicrophone_40 : decode cX11_addMicrophone 40 = .ok (.if_icmp .ne 11, 3) := by decide +kernel
theorem dX11_addMicrophone_43 : decode cX11_addMicrophone 43 = .ok (.aload_n 0, 1) := by decide +kernel
theorem dX11_addMicrophone_44 : decode cX11_addMicrophone 44 = .ok (.iconst 2, 1) := by decide +kernel
theorem dX11_addMicrophone_45 : decode cX11_addMicrophone 45 = .ok (.invokevirtual 64, 3) := by decide +kernel
theorem dX11_addMicrophone_48 : decode cX11_addMicrophone 48 = .ok (.goto 12, 3) := by decide +kernel
theorem dX11_addMicrophone_51 : decode cX11_addMicrophone 51 = .ok (.aload_n 0, 1) := by decide +kernel
theorem dX11_addMicrophone_52 : decode cX11_addMicrophone 52 = .ok (.iload_n 1, 1) := by decide +kernel
theorem dX11_addMicrophone_53 : decode cX11_addMicrophone 53 = .ok (.iload_n 2, 1) := by decide +kernel
theorem dX11_addMicrophone_54 : decode cX11_addMicrophone 54 = .ok (.iload_n 3, 1) := by decide +kernel
theorem dX11_addMicrophone_55 : decode cX11_addMicrophone 55 = .ok (.iload 4, 2) := by decide +kernel
theorem dX11_addMicrophone_57 : decode cX11_addMicrophone 57 = .ok (.invokevirtual 103, 3) := by decide +kernel
theorem dX11_addMicrophone_60 : decode cX11_addMicrophone 60 = .ok (.ireturn, 1) := by decide +kernel
theorem dX11_setWeight_0 : decode cX11_setWeight 0 = .ok (.aload_n 0, 1) := by decide +kernel
theorem dX11_setWeight_1 : decode cX11_setWeight 1 = .ok (.iconst 0, 1) := by decide +kernel
theorem dX11_setWeight_2 : decode cX11_setWeight 2 = .ok (.putfield 49, 3) := by decide +kernel
theorem dX11_setWeight_5 : decode cX11_setWeight 5 = .ok (.aload_n 0, 1) := by decide +kernel
theorem dX11_setWeight_6 : decode cX11_setWeight 6 = .ok (.iload_n 1, 1) := by decide +kernel
theorem dX11_setWeight_7 : decode cX11_setWeight 7 = .ok (.invokevirtual 106, 3) := by decide +kernel
theorem dX11_setWeight_10 : decode cX11_setWeight 10 = .ok (.ifCond .ne 9, 3) := by decide +kernel
theorem dX11_setWeight_13 : decode cX11_setWeight 13 = .ok (.aload_n 0, 1) := by decide +kernel
theorem dX11_setWeight_14 : decode cX11_setWeight 14 = .ok (.iconst 1, 1) := by decide +kernel
theorem dX11_setWeight_15 : decode cX11_setWeight 15 = .ok (.invokevirtual 64, 3) := by decide +kernel
theorem dX11_setWeight_18 : decode cX11_setWeight 18 = .ok (.ireturn, 1) := by decide +kernel
theorem dX11_setWeight_19 : decode cX11_setWeight 19 = .ok (.iload_n 2, 1) := by decide +kernel
theorem dX11_setWeight_20 : decode cX11_setWeight 20 = .ok (.iconst 0, 1) := by decide +kernel
theorem dX11_setWeight_21 : decode cX11_setWeight 21 = .ok (.bipush 9, 2) := by decide +kernel
theorem dX11_setWeight_23 : decode cX11_setWeight 23 = .ok (.invokestatic 52, 3) := by decide +kernel
theorem dX11_setWeight_26 : decode cX11_setWeight 26 = .ok (.ifCond .eq 20, 3) := by decide +kernel
theorem dX11_setWeight_29 : decode cX11_setWeight 29 = .ok (.aload_n 0, 1) := by decide +kernel
theorem dX11_setWeight_30 : decode cX11_setWeight 30 = .ok (.sipush 154, 3) := by decide +kernel
theorem dX11_setWeight_33 : decode cX11_setWeight 33 = .ok (.iconst 4, 1) := by decide +kernel
theorem dX11_setWeight_34 : decode cX11_setWeight 34 = .ok (.iload_n 1, 1) := by decide +kernel
theorem dX11_setWeight_35 : decode cX11_setWeight 35 = .ok (.imul, 1) := by decide +kernel
theorem dX11_setWeight_36 : decode cX11_setWeight 36 = .ok (.iadd, 1) := by decide +kernel
theorem dX11_setWeight_37 : decode cX11_setWeight 37 = .ok (.iconst 3, 1) := by decide +kernel
theorem dX11_setWeight_38 : decode cX11_setWeight 38 = .ok (.iadd, 1) := by decide +kernel
theorem dX11_setWeight_39 : decode cX11_setWeight 39 = .ok (.iload_n 2, 1) := by decide +kernel
theorem dX11_setWeight_40 : decode cX11_setWeight 40 = .ok (.invokevirtual 60, 3) := by decide +kernel
theorem dX11_setWeight_43 : decode cX11_setWeight 43 = .ok (.goto 8, 3) := by decide +kernel
theorem dX11_setWeight_46 : decode cX11_setWeight 46 = .ok (.aload_n 0, 1) := by decide +kernel
theorem dX11_setWeight_47 : decode cX11_setWeight 47 = .ok (.iconst 2, 1) := by decide +kernel
theorem dX11_setWeight_48 : decode cX11_setWeight 48 = .ok (.invokevirtual 64, 3) := by decide +kernel
theorem dX11_setWeight_51 : decode cX11_setWeight 51 = .ok (.ireturn, 1) := by decide +kernel
theorem dX11_count_0 : decode cX11_count 0 = .ok (.aload_n 0, 1) := by decide +kernel
theorem dX11_count_1 : decode cX11_count 1 = .ok (.iconst 0, 1) := by decide +kernel
theorem dX11_count_2 : decode cX11_count 2 = .ok (.putfield 49, 3) := by decide +kernel
theorem dX11_count_5 : decode cX11_count 5 = .ok (.iload_n 1, 1) := by decide +kernel
theorem dX11_count_6 : decode cX11_count 6 = .ok (.iconst 0, 1) := by decide +kernel
theorem dX11_count_7 : decode cX11_count 7 = .ok (.iconst 3, 1) := by decide +kernel
theorem dX11_count_8 : decode cX11_count 8 = .ok (.invokestatic 52, 3) := by decide +kernel
theorem dX11_count_11 : decode cX11_count 11 = .ok (.ifCond .eq 15, 3) := by decide +kernel
theorem dX11_count_14 : decode cX11_count 14 = .ok (.aload_n 0, 1) := by decide +kernel
theorem dX11_count_15 : decode cX11_count 15 = .ok (.getfield 7, 3) := by decide +kernel
theorem dX11_count_18 : decode cX11_count 18 = .ok (.bipush 6, 2) := by decide +kernel
theorem dX11_count_20 : decode cX11_count 20 = .ok (.iload_n 1, 1) := by decide +kernel
theorem dX11_count_21 : decode cX11_count 21 = .ok (.iadd, 1) := by decide +kernel
theorem dX11_count_22 : decode cX11_count 22 = .ok (.iaload, 1) := by decide +kernel
theorem dX11_count_23 : decode cX11_count 23 = .ok (.goto 8, 3) := by decide +kernel
theorem dX11_count_26 : decode cX11_count 26 = .ok (.aload_n 0, 1) := by decide +kernel
theorem dX11_count_27 : decode cX11_count 27 = .ok (.iconst 1, 1) := by decide +kernel
theorem dX11_count_28 : decode cX11_count 28 = .ok (.invokevirtual 64, 3) := by decide +kernel
theorem dX11_count_31 : decode cX11_count 31 = .ok (.ireturn, 1) := by decide +kernel
theorem dX11_placeX_0 : decode cX11_placeX 0 = .ok (.iload_n 1, 1) := by decide +kernel
theorem dX11_placeX_1 : decode cX11_placeX 1 = .ok (.iconst (-1), 1) := by decide +kernel
theorem dX11_placeX_2 : decode cX11_placeX 2 = .ok (.if_icmp .ne 7, 3) := by decide +kernel
theorem dX11_placeX_5 : decode cX11_placeX 5 = .ok (.iload_n 2, 1) := by decide +kernel
theorem dX11_placeX_6 : decode cX11_placeX 6 = .ok (.goto 20, 3) := by decide +kernel
theorem dX11_placeX_9 : decode cX11_placeX 9 = .ok (.aload_n 0, 1) := by decide +kernel
theorem dX11_placeX_10 : decode cX11_placeX 10 = .ok (.iload_n 1, 1) := by decide +kernel
theorem dX11_placeX_11 : decode cX11_placeX 11 = .ok (.iconst 0, 1) := by decide +kernel
theorem dX11_placeX_12 : decode cX11_placeX 12 = .ok (.invokevirtual 109, 3) := by decide +kernel
theorem dX11_placeX_15 : decode cX11_placeX 15 = .ok (.aload_n 0, 1) := by decide +kernel
theorem dX11_placeX_16 : decode cX11_placeX 16 = .ok (.iload_n 1, 1) := by decide +kernel
theorem dX11_placeX_17 : decode cX11_placeX 17 = .ok (.iconst 1, 1) := by decide +kernel
theorem dX11_placeX_18 : decode cX11_placeX 18 = .ok (.invokevirtual 109, 3) := by decide +kernel
theorem dX11_placeX_21 : decode cX11_placeX 21 = .ok (.iload_n 3, 1) := by decide +kernel
theorem dX11_placeX_22 : decode cX11_placeX 22 = .ok (.imul, 1) := by decide +kernel
theorem dX11_placeX_23 : decode cX11_placeX 23 = .ok (.iadd, 1) := by decide +kernel
theorem dX11_placeX_24 : decode cX11_placeX 24 = .ok (.iload_n 2, 1) := by decide +kernel
theorem dX11_placeX_25 : decode cX11_placeX 25 = .ok (.iadd, 1) := by decide +kernel
theorem dX11_placeX_26 : decode cX11_placeX 26 = .ok (.ireturn, 1) := by decide +kernel
theorem dX11_root_0 : decode cX11_root 0 = .ok (.lconst 0, 1) := by decide +kernel
theorem dX11_root_1 : decode cX11_root 1 = .ok (.lstore_n 2, 1) := by decide +kernel
theorem dX11_root_2 : decode cX11_root 2 = .ok (.ldc2_w 112, 3) := by decide +kernel
theorem dX11_root_5 : decode cX11_root 5 = .ok (.lstore 4, 2) := by decide +kernel
theorem dX11_root_7 : decode cX11_root 7 = .ok (.lload_n 2, 1) := by decide +kernel
theorem dX11_root_8 : decode cX11_root 8 = .ok (.lload 4, 2) := by decide +kernel
theorem dX11_root_10 : decode cX11_root 10 = .ok (.lcmp, 1) := by decide +kernel
theorem dX11_root_11 : decode cX11_root 11 = .ok (.ifCond .ge 40, 3) := by decide +kernel
theorem dX11_root_14 : decode cX11_root 14 = .ok (.lload_n 2, 1) := by decide +kernel
theorem dX11_root_15 : decode cX11_root 15 = .ok (.lload 4, 2) := by decide +kernel
theorem dX11_root_17 : decode cX11_root 17 = .ok (.ladd, 1) := by decide +kernel
theorem dX11_root_18 : decode cX11_root 18 = .ok (.lconst 1, 1) := by decide +kernel
theorem dX11_root_19 : decode cX11_root 19 = .ok (.ladd, 1) := by decide +kernel
theorem dX11_root_20 : decode cX11_root 20 = .ok (.ldc2_w 114, 3) := by decide +kernel
theorem dX11_root_23 : decode cX11_root 23 = .ok (.ldiv, 1) := by decide +kernel
theorem dX11_root_24 : decode cX11_root 24 = .ok (.lstore 6, 2) := by decide +kernel
theorem dX11_root_26 : decode cX11_root 26 = .ok (.lload 6, 2) := by decide +kernel
theorem dX11_root_28 : decode cX11_root 28 = .ok (.lload 6, 2) := by decide +kernel
theorem dX11_root_30 : decode cX11_root 30 = .ok (.lmul, 1) := by decide +kernel
theorem dX11_root_31 : decode cX11_root 31 = .ok (.lload_n 0, 1) := by decide +kernel
theorem dX11_root_32 : decode cX11_root 32 = .ok (.lcmp, 1) := by decide +kernel
theorem dX11_root_33 : decode cX11_root 33 = .ok (.ifCond .gt 9, 3) := by decide +kernel
theorem dX11_root_36 : decode cX11_root 36 = .ok (.lload 6, 2) := by decide +kernel
theorem dX11_root_38 : decode cX11_root 38 = .ok (.lstore_n 2, 1) := by decide +kernel
theorem dX11_root_39 : decode cX11_root 39 = .ok (.goto 9, 3) := by decide +kernel
theorem dX11_root_42 : decode cX11_root 42 = .ok (.lload 6, 2) := by decide +kernel
theorem dX11_root_44 : decode cX11_root 44 = .ok (.lconst 1, 1) := by decide +kernel
theorem dX11_root_45 : decode cX11_root 45 = .ok (.lsub, 1) := by decide +kernel
theorem dX11_root_46 : decode cX11_root 46 = .ok (.lstore 4, 2) := by decide +kernel
theorem dX11_root_48 : decode cX11_root 48 = .ok (.goto (-41), 3) := by decide +kernel
theorem dX11_root_51 : decode cX11_root 51 = .ok (.lload_n 2, 1) := by decide +kernel
theorem dX11_root_52 : decode cX11_root 52 = .ok (.l2i, 1) := by decide +kernel
theorem dX11_root_53 : decode cX11_root 53 = .ok (.ireturn, 1) := by decide +kernel
theorem dX11_distanceTo_0 : decode cX11_distanceTo 0 = .ok (.iload_n 2, 1) := by decide +kernel
theorem dX11_distanceTo_1 : decode cX11_distanceTo 1 = .ok (.aload_n 0, 1) := by decide +kernel
theorem dX11_distanceTo_2 : decode cX11_distanceTo 2 = .ok (.iload_n 1, 1) := by decide +kernel
theorem dX11_distanceTo_3 : decode cX11_distanceTo 3 = .ok (.iconst 0, 1) := by decide +kernel
theorem dX11_distanceTo_4 : decode cX11_distanceTo 4 = .ok (.invokevirtual 116, 3) := by decide +kernel
theorem dX11_distanceTo_7 : decode cX11_distanceTo 7 = .ok (.isub, 1) := by decide +kernel
theorem dX11_distanceTo_8 : decode cX11_distanceTo 8 = .ok (.i2l, 1) := by decide +kernel
theorem dX11_distanceTo_9 : decode cX11_distanceTo 9 = .ok (.lstore 5, 2) := by decide +kernel
theorem dX11_distanceTo_11 : decode cX11_distanceTo 11 = .ok (.iload_n 3, 1) := by decide +kernel
theorem dX11_distanceTo_12 : decode cX11_distanceTo 12 = .ok (.aload_n 0, 1) := by decide +kernel
theorem dX11_distanceTo_13 : decode cX11_distanceTo 13 = .ok (.iload_n 1, 1) := by decide +kernel
theorem dX11_distanceTo_14 : decode cX11_distanceTo 14 = .ok (.iconst 1, 1) := by decide +kernel
theorem dX11_distanceTo_15 : decode cX11_distanceTo 15 = .ok (.invokevirtual 116, 3) := by decide +kernel
theorem dX11_distanceTo_18 : decode cX11_distanceTo 18 = .ok (.isub, 1) := by decide +kernel
theorem dX11_distanceTo_19 : decode cX11_distanceTo 19 = .ok (.i2l, 1) := by decide +kernel
theorem dX11_distanceTo_20 : decode cX11_distanceTo 20 = .ok (.lstore 7, 2) := by decide +kernel
theorem dX11_distanceTo_22 : decode cX11_distanceTo 22 = .ok (.iload 4, 2) := by decide +kernel
theorem dX11_distanceTo_24 : decode cX11_distanceTo 24 = .ok (.aload_n 0, 1) := by decide +kernel
theorem dX11_distanceTo_25 : decode cX11_distanceTo 25 = .ok (.iload_n 1, 1) := by decide +kernel
theorem dX11_distanceTo_26 : decode cX11_distanceTo 26 = .ok (.iconst 2, 1) := by decide +kernel
theorem dX11_distanceTo_27 : decode cX11_distanceTo 27 = .ok (.invokevirtual 116, 3) := by decide +kernel
theorem dX11_distanceTo_30 : decode cX11_distanceTo 30 = .ok (.isub, 1) := by decide +kernel
theorem dX11_distanceTo_31 : decode cX11_distanceTo 31 = .ok (.i2l, 1) := by decide +kernel
theorem dX11_distanceTo_32 : decode cX11_distanceTo 32 = .ok (.lstore 9, 2) := by decide +kernel
theorem dX11_distanceTo_34 : decode cX11_distanceTo 34 = .ok (.lload 5, 2) := by decide +kernel
theorem dX11_distanceTo_36 : decode cX11_distanceTo 36 = .ok (.lload 5, 2) := by decide +kernel
theorem dX11_distanceTo_38 : decode cX11_distanceTo 38 = .ok (.lmul, 1) := by decide +kernel
theorem dX11_distanceTo_39 : decode cX11_distanceTo 39 = .ok (.lload 7, 2) := by decide +kernel
theorem dX11_distanceTo_41 : decode cX11_distanceTo 41 = .ok (.lload 7, 2) := by decide +kernel
theorem dX11_distanceTo_43 : decode cX11_distanceTo 43 = .ok (.lmul, 1) := by decide +kernel
theorem dX11_distanceTo_44 : decode cX11_distanceTo 44 = .ok (.ladd, 1) := by decide +kernel
theorem dX11_distanceTo_45 : decode cX11_distanceTo 45 = .ok (.lload 9, 2) := by decide +kernel
theorem dX11_distanceTo_47 : decode cX11_distanceTo 47 = .ok (.lload 9, 2) := by decide +kernel
theorem dX11_distanceTo_49 : decode cX11_distanceTo 49 = .ok (.lmul, 1) := by decide +kernel
theorem dX11_distanceTo_50 : decode cX11_distanceTo 50 = .ok (.ladd, 1) := by decide +kernel
theorem dX11_distanceTo_51 : decode cX11_distanceTo 51 = .ok (.invokestatic 119, 3) := by decide +kernel
theorem dX11_distanceTo_54 : decode cX11_distanceTo 54 = .ok (.ireturn, 1) := by decide +kernel
theorem dX11_layDistances_0 : decode cX11_layDistances 0 = .ok (.iconst 0, 1) := by decide +kernel
theorem dX11_layDistances_1 : decode cX11_layDistances 1 = .ok (.istore 6, 2) := by decide +kernel
theorem dX11_layDistances_3 : decode cX11_layDistances 3 = .ok (.iload 6, 2) := by decide +kernel
theorem dX11_layDistances_5 : decode cX11_layDistances 5 = .ok (.sipush 256, 3) := by decide +kernel
theorem dX11_layDistances_8 : decode cX11_layDistances 8 = .ok (.if_icmp .ge 56, 3) := by decide +kernel
theorem dX11_layDistances_11 : decode cX11_layDistances 11 = .ok (.aload_n 0, 1) := by decide +kernel
theorem dX11_layDistances_12 : decode cX11_layDistances 12 = .ok (.iload_n 2, 1) := by decide +kernel
theorem dX11_layDistances_13 : decode cX11_layDistances 13 = .ok (.iload_n 3, 1) := by decide +kernel
theorem dX11_layDistances_14 : decode cX11_layDistances 14 = .ok (.iload 6, 2) := by decide +kernel
theorem dX11_layDistances_16 : decode cX11_layDistances 16 = .ok (.invokevirtual 123, 3) := by decide +kernel
theorem dX11_layDistances_19 : decode cX11_layDistances 19 = .ok (.istore 7, 2) := by decide +kernel
theorem dX11_layDistances_21 : decode cX11_layDistances 21 = .ok (.aload_n 0, 1) := by decide +kernel
theorem dX11_layDistances_22 : decode cX11_layDistances 22 = .ok (.getfield 23, 3) := by decide +kernel
theorem dX11_layDistances_25 : decode cX11_layDistances 25 = .ok (.iload 6, 2) := by decide +kernel
theorem dX11_layDistances_27 : decode cX11_layDistances 27 = .ok (.aload_n 0, 1) := by decide +kernel
theorem dX11_layDistances_28 : decode cX11_layDistances 28 = .ok (.iload_n 1, 1) := by decide +kernel
theorem dX11_layDistances_29 : decode cX11_layDistances 29 = .ok (.iload 7, 2) := by decide +kernel
theorem dX11_layDistances_31 : decode cX11_layDistances 31 = .ok (.iload 4, 2) := by decide +kernel
theorem dX11_layDistances_33 : decode cX11_layDistances 33 = .ok (.iload 5, 2) := by decide +kernel
theorem dX11_layDistances_35 : decode cX11_layDistances 35 = .ok (.invokevirtual 126, 3) := by decide +kernel
theorem dX11_layDistances_38 : decode cX11_layDistances 38 = .ok (.iastore, 1) := by decide +kernel
theorem dX11_layDistances_39 : decode cX11_layDistances 39 = .ok (.aload_n 0, 1) := by decide +kernel
theorem dX11_layDistances_40 : decode cX11_layDistances 40 = .ok (.getfield 26, 3) := by decide +kernel
theorem dX11_layDistances_43 : decode cX11_layDistances 43 = .ok (.iload 6, 2) := by decide +kernel
theorem dX11_layDistances_45 : decode cX11_layDistances 45 = .ok (.aload_n 0, 1) := by decide +kernel
theorem dX11_layDistances_46 : decode cX11_layDistances 46 = .ok (.iload_n 1, 1) := by decide +kernel
theorem dX11_layDistances_47 : decode cX11_layDistances 47 = .ok (.iload 7, 2) := by decide +kernel
theorem dX11_layDistances_49 : decode cX11_layDistances 49 = .ok (.iload 4, 2) := by decide +kernel
theorem dX11_layDistances_51 : decode cX11_layDistances 51 = .ok (.iload 5, 2) := by decide +kernel
theorem dX11_layDistances_53 : decode cX11_layDistances 53 = .ok (.ineg, 1) := by decide +kernel
theorem dX11_layDistances_54 : decode cX11_layDistances 54 = .ok (.invokevirtual 126, 3) := by decide +kernel
theorem dX11_layDistances_57 : decode cX11_layDistances 57 = .ok (.iastore, 1) := by decide +kernel
theorem dX11_layDistances_58 : decode cX11_layDistances 58 = .ok (.iinc 6 1, 3) := by decide +kernel
theorem dX11_layDistances_61 : decode cX11_layDistances 61 = .ok (.goto (-58), 3) := by decide +kernel
theorem dX11_layDistances_64 : decode cX11_layDistances 64 = .ok (.return_, 1) := by decide +kernel
theorem dX11_laySource_0 : decode cX11_laySource 0 = .ok (.aload_n 0, 1) := by decide +kernel
theorem dX11_laySource_1 : decode cX11_laySource 1 = .ok (.iload_n 2, 1) := by decide +kernel
theorem dX11_laySource_2 : decode cX11_laySource 2 = .ok (.iconst 0, 1) := by decide +kernel
theorem dX11_laySource_3 : decode cX11_laySource 3 = .ok (.invokevirtual 97, 3) := by decide +kernel
theorem dX11_laySource_6 : decode cX11_laySource 6 = .ok (.istore_n 3, 1) := by decide +kernel
theorem dX11_laySource_7 : decode cX11_laySource 7 = .ok (.aload_n 0, 1) := by decide +kernel
theorem dX11_laySource_8 : decode cX11_laySource 8 = .ok (.iload_n 1, 1) := by decide +kernel
theorem dX11_laySource_9 : decode cX11_laySource 9 = .ok (.iload_n 3, 1) := by decide +kernel
theorem dX11_laySource_10 : decode cX11_laySource 10 = .ok (.aload_n 0, 1) := by decide +kernel
theorem dX11_laySource_11 : decode cX11_laySource 11 = .ok (.iload_n 2, 1) := by decide +kernel
theorem dX11_laySource_12 : decode cX11_laySource 12 = .ok (.iconst 1, 1) := by decide +kernel
theorem dX11_laySource_13 : decode cX11_laySource 13 = .ok (.invokevirtual 97, 3) := by decide +kernel
theorem dX11_laySource_16 : decode cX11_laySource 16 = .ok (.aload_n 0, 1) := by decide +kernel
theorem dX11_laySource_17 : decode cX11_laySource 17 = .ok (.iload_n 3, 1) := by decide +kernel
theorem dX11_laySource_18 : decode cX11_laySource 18 = .ok (.iconst 2, 1) := by decide +kernel
theorem dX11_laySource_19 : decode cX11_laySource 19 = .ok (.invokevirtual 109, 3) := by decide +kernel
theorem dX11_laySource_22 : decode cX11_laySource 22 = .ok (.aload_n 0, 1) := by decide +kernel
theorem dX11_laySource_23 : decode cX11_laySource 23 = .ok (.iload_n 2, 1) := by decide +kernel
theorem dX11_laySource_24 : decode cX11_laySource 24 = .ok (.iconst 2, 1) := by decide +kernel
theorem dX11_laySource_25 : decode cX11_laySource 25 = .ok (.invokevirtual 97, 3) := by decide +kernel
theorem dX11_laySource_28 : decode cX11_laySource 28 = .ok (.invokevirtual 129, 3) := by decide +kernel
theorem dX11_laySource_31 : decode cX11_laySource 31 = .ok (.return_, 1) := by decide +kernel
theorem dX11_markOf_0 : decode cX11_markOf 0 = .ok (.iload_n 1, 1) := by decide +kernel
theorem dX11_markOf_1 : decode cX11_markOf 1 = .ok (.aload_n 0, 1) := by decide +kernel
theorem dX11_markOf_2 : decode cX11_markOf 2 = .ok (.getfield 7, 3) := by decide +kernel
theorem dX11_markOf_5 : decode cX11_markOf 5 = .ok (.iconst 0, 1) := by decide +kernel
theorem dX11_markOf_6 : decode cX11_markOf 6 = .ok (.iaload, 1) := by decide +kernel
theorem dX11_markOf_7 : decode cX11_markOf 7 = .ok (.imul, 1) := by decide +kernel
theorem dX11_markOf_8 : decode cX11_markOf 8 = .ok (.iload_n 2, 1) := by decide +kernel
theorem dX11_markOf_9 : decode cX11_markOf 9 = .ok (.ifCond .eq 12, 3) := by decide +kernel
theorem dX11_markOf_12 : decode cX11_markOf 12 = .ok (.aload_n 0, 1) := by decide +kernel
theorem dX11_markOf_13 : decode cX11_markOf 13 = .ok (.getfield 26, 3) := by decide +kernel
theorem dX11_markOf_16 : decode cX11_markOf 16 = .ok (.iload_n 1, 1) := by decide +kernel
theorem dX11_markOf_17 : decode cX11_markOf 17 = .ok (.iaload, 1) := by decide +kernel
theorem dX11_markOf_18 : decode cX11_markOf 18 = .ok (.goto 9, 3) := by decide +kernel
theorem dX11_markOf_21 : decode cX11_markOf 21 = .ok (.aload_n 0, 1) := by decide +kernel
theorem dX11_markOf_22 : decode cX11_markOf 22 = .ok (.getfield 23, 3) := by decide +kernel
theorem dX11_markOf_25 : decode cX11_markOf 25 = .ok (.iload_n 1, 1) := by decide +kernel
theorem dX11_markOf_26 : decode cX11_markOf 26 = .ok (.iaload, 1) := by decide +kernel
theorem dX11_markOf_27 : decode cX11_markOf 27 = .ok (.iadd, 1) := by decide +kernel
theorem dX11_markOf_28 : decode cX11_markOf 28 = .ok (.ireturn, 1) := by decide +kernel
theorem dX11_latest_0 : decode cX11_latest 0 = .ok (.iconst (-1), 1) := by decide +kernel
theorem dX11_latest_1 : decode cX11_latest 1 = .ok (.istore_n 3, 1) := by decide +kernel
theorem dX11_latest_2 : decode cX11_latest 2 = .ok (.iconst 0, 1) := by decide +kernel
theorem dX11_latest_3 : decode cX11_latest 3 = .ok (.istore 4, 2) := by decide +kernel
theorem dX11_latest_5 : decode cX11_latest 5 = .ok (.iload 4, 2) := by decide +kernel
theorem dX11_latest_7 : decode cX11_latest 7 = .ok (.sipush 256, 3) := by decide +kernel
theorem dX11_latest_10 : decode cX11_latest 10 = .ok (.if_icmp .ge 34, 3) := by decide +kernel
theorem dX11_latest_13 : decode cX11_latest 13 = .ok (.aload_n 0, 1) := by decide +kernel
theorem dX11_latest_14 : decode cX11_latest 14 = .ok (.iload 4, 2) := by decide +kernel
theorem dX11_latest_16 : decode cX11_latest 16 = .ok (.iload_n 2, 1) := by decide +kernel
theorem dX11_latest_17 : decode cX11_latest 17 = .ok (.invokevirtual 133, 3) := by decide +kernel
theorem dX11_latest_20 : decode cX11_latest 20 = .ok (.iload_n 1, 1) := by decide +kernel
theorem dX11_latest_21 : decode cX11_latest 21 = .ok (.aload_n 0, 1) := by decide +kernel
theorem dX11_latest_22 : decode cX11_latest 22 = .ok (.getfield 7, 3) := by decide +kernel
theorem dX11_latest_25 : decode cX11_latest 25 = .ok (.iconst 0, 1) := by decide +kernel
theorem dX11_latest_26 : decode cX11_latest 26 = .ok (.iaload, 1) := by decide +kernel
theorem dX11_latest_27 : decode cX11_latest 27 = .ok (.imul, 1) := by decide +kernel
theorem dX11_latest_28 : decode cX11_latest 28 = .ok (.if_icmp .gt 8, 3) := by decide +kernel
theorem dX11_latest_31 : decode cX11_latest 31 = .ok (.iload 4, 2) := by decide +kernel
theorem dX11_latest_33 : decode cX11_latest 33 = .ok (.goto 4, 3) := by decide +kernel
theorem dX11_latest_36 : decode cX11_latest 36 = .ok (.iload_n 3, 1) := by decide +kernel
theorem dX11_latest_37 : decode cX11_latest 37 = .ok (.istore_n 3, 1) := by decide +kernel
theorem dX11_latest_38 : decode cX11_latest 38 = .ok (.iinc 4 1, 3) := by decide +kernel
theorem dX11_latest_41 : decode cX11_latest 41 = .ok (.goto (-36), 3) := by decide +kernel
theorem dX11_latest_44 : decode cX11_latest 44 = .ok (.iload_n 3, 1) := by decide +kernel
theorem dX11_latest_45 : decode cX11_latest 45 = .ok (.ireturn, 1) := by decide +kernel
theorem dX11_emittedBy_0 : decode cX11_emittedBy 0 = .ok (.aload_n 0, 1) := by decide +kernel
theorem dX11_emittedBy_1 : decode cX11_emittedBy 1 = .ok (.iload_n 1, 1) := by decide +kernel
theorem dX11_emittedBy_2 : decode cX11_emittedBy 2 = .ok (.iconst 5, 1) := by decide +kernel
theorem dX11_emittedBy_3 : decode cX11_emittedBy 3 = .ok (.iload_n 2, 1) := by decide +kernel
theorem dX11_emittedBy_4 : decode cX11_emittedBy 4 = .ok (.aload_n 0, 1) := by decide +kernel
theorem dX11_emittedBy_5 : decode cX11_emittedBy 5 = .ok (.iload_n 1, 1) := by decide +kernel
theorem dX11_emittedBy_6 : decode cX11_emittedBy 6 = .ok (.iconst 4, 1) := by decide +kernel
theorem dX11_emittedBy_7 : decode cX11_emittedBy 7 = .ok (.invokevirtual 97, 3) := by decide +kernel
theorem dX11_emittedBy_10 : decode cX11_emittedBy 10 = .ok (.irem, 1) := by decide +kernel
theorem dX11_emittedBy_11 : decode cX11_emittedBy 11 = .ok (.iadd, 1) := by decide +kernel
theorem dX11_emittedBy_12 : decode cX11_emittedBy 12 = .ok (.invokevirtual 97, 3) := by decide +kernel
theorem dX11_emittedBy_15 : decode cX11_emittedBy 15 = .ok (.aload_n 0, 1) := by decide +kernel
theorem dX11_emittedBy_16 : decode cX11_emittedBy 16 = .ok (.iload_n 1, 1) := by decide +kernel
theorem dX11_emittedBy_17 : decode cX11_emittedBy 17 = .ok (.iconst 3, 1) := by decide +kernel
theorem dX11_emittedBy_18 : decode cX11_emittedBy 18 = .ok (.invokevirtual 97, 3) := by decide +kernel
theorem dX11_emittedBy_21 : decode cX11_emittedBy 21 = .ok (.imul, 1) := by decide +kernel
theorem dX11_emittedBy_22 : decode cX11_emittedBy 22 = .ok (.ireturn, 1) := by decide +kernel
theorem dX11_emitted_0 : decode cX11_emitted 0 = .ok (.aload_n 0, 1) := by decide +kernel
theorem dX11_emitted_1 : decode cX11_emitted 1 = .ok (.iconst 0, 1) := by decide +kernel
theorem dX11_emitted_2 : decode cX11_emitted 2 = .ok (.putfield 49, 3) := by decide +kernel
theorem dX11_emitted_5 : decode cX11_emitted 5 = .ok (.aload_n 0, 1) := by decide +kernel
theorem dX11_emitted_6 : decode cX11_emitted 6 = .ok (.iload_n 1, 1) := by decide +kernel
theorem dX11_emitted_7 : decode cX11_emitted 7 = .ok (.invokevirtual 94, 3) := by decide +kernel
theorem dX11_emitted_10 : decode cX11_emitted 10 = .ok (.ifCond .ne 9, 3) := by decide +kernel
theorem dX11_emitted_13 : decode cX11_emitted 13 = .ok (.aload_n 0, 1) := by decide +kernel
theorem dX11_emitted_14 : decode cX11_emitted 14 = .ok (.iconst 1, 1) := by decide +kernel
theorem dX11_emitted_15 : decode cX11_emitted 15 = .ok (.invokevirtual 64, 3) := by decide +kernel
theorem dX11_emitted_18 : decode cX11_emitted 18 = .ok (.ireturn, 1) := by decide +kernel
theorem dX11_emitted_19 : decode cX11_emitted 19 = .ok (.iload_n 2, 1) := by decide +kernel
theorem dX11_emitted_20 : decode cX11_emitted 20 = .ok (.invokestatic 56, 3) := by decide +kernel
theorem dX11_emitted_23 : decode cX11_emitted 23 = .ok (.ifCond .eq 12, 3) := by decide +kernel
theorem dX11_emitted_26 : decode cX11_emitted 26 = .ok (.aload_n 0, 1) := by decide +kernel
theorem dX11_emitted_27 : decode cX11_emitted 27 = .ok (.iload_n 1, 1) := by decide +kernel
theorem dX11_emitted_28 : decode cX11_emitted 28 = .ok (.iload_n 2, 1) := by decide +kernel
theorem dX11_emitted_29 : decode cX11_emitted 29 = .ok (.invokevirtual 137, 3) := by decide +kernel
theorem dX11_emitted_32 : decode cX11_emitted 32 = .ok (.goto 8, 3) := by decide +kernel
theorem dX11_emitted_35 : decode cX11_emitted 35 = .ok (.aload_n 0, 1) := by decide +kernel
theorem dX11_emitted_36 : decode cX11_emitted 36 = .ok (.iconst 2, 1) := by decide +kernel
theorem dX11_emitted_37 : decode cX11_emitted 37 = .ok (.invokevirtual 64, 3) := by decide +kernel
theorem dX11_emitted_40 : decode cX11_emitted 40 = .ok (.ireturn, 1) := by decide +kernel
theorem dX11_distance_0 : decode cX11_distance 0 = .ok (.aload_n 0, 1) := by decide +kernel
theorem dX11_distance_1 : decode cX11_distance 1 = .ok (.iconst 0, 1) := by decide +kernel
theorem dX11_distance_2 : decode cX11_distance 2 = .ok (.putfield 49, 3) := by decide +kernel
theorem dX11_distance_5 : decode cX11_distance 5 = .ok (.aload_n 0, 1) := by decide +kernel
theorem dX11_distance_6 : decode cX11_distance 6 = .ok (.iload_n 1, 1) := by decide +kernel
theorem dX11_distance_7 : decode cX11_distance 7 = .ok (.invokevirtual 106, 3) := by decide +kernel
theorem dX11_distance_10 : decode cX11_distance 10 = .ok (.ifCond .eq 11, 3) := by decide +kernel
theorem dX11_distance_13 : decode cX11_distance 13 = .ok (.aload_n 0, 1) := by decide +kernel
theorem dX11_distance_14 : decode cX11_distance 14 = .ok (.iload_n 2, 1) := by decide +kernel
theorem dX11_distance_15 : decode cX11_distance 15 = .ok (.invokevirtual 94, 3) := by decide +kernel
theorem dX11_distance_18 : decode cX11_distance 18 = .ok (.ifCond .ne 9, 3) := by decide +kernel
theorem dX11_distance_21 : decode cX11_distance 21 = .ok (.aload_n 0, 1) := by decide +kernel
theorem dX11_distance_22 : decode cX11_distance 22 = .ok (.iconst 1, 1) := by decide +kernel
theorem dX11_distance_23 : decode cX11_distance 23 = .ok (.invokevirtual 64, 3) := by decide +kernel
theorem dX11_distance_26 : decode cX11_distance 26 = .ok (.ireturn, 1) := by decide +kernel
theorem dX11_distance_27 : decode cX11_distance 27 = .ok (.iload_n 3, 1) := by decide +kernel
theorem dX11_distance_28 : decode cX11_distance 28 = .ok (.invokestatic 56, 3) := by decide +kernel
theorem dX11_distance_31 : decode cX11_distance 31 = .ok (.ifCond .ne 9, 3) := by decide +kernel
theorem dX11_distance_34 : decode cX11_distance 34 = .ok (.aload_n 0, 1) := by decide +kernel
theorem dX11_distance_35 : decode cX11_distance 35 = .ok (.iconst 2, 1) := by decide +kernel
theorem dX11_distance_36 : decode cX11_distance 36 = .ok (.invokevirtual 64, 3) := by decide +kernel
theorem dX11_distance_39 : decode cX11_distance 39 = .ok (.ireturn, 1) := by decide +kernel
theorem dX11_distance_40 : decode cX11_distance 40 = .ok (.aload_n 0, 1) := by decide +kernel
theorem dX11_distance_41 : decode cX11_distance 41 = .ok (.iload_n 1, 1) := by decide +kernel
theorem dX11_distance_42 : decode cX11_distance 42 = .ok (.iload_n 2, 1) := by decide +kernel
theorem dX11_distance_43 : decode cX11_distance 43 = .ok (.invokevirtual 140, 3) := by decide +kernel
theorem dX11_distance_46 : decode cX11_distance 46 = .ok (.iload 4, 2) := by decide +kernel
theorem dX11_distance_48 : decode cX11_distance 48 = .ok (.ifCond .eq 12, 3) := by decide +kernel
theorem dX11_distance_51 : decode cX11_distance 51 = .ok (.aload_n 0, 1) := by decide +kernel
theorem dX11_distance_52 : decode cX11_distance 52 = .ok (.getfield 26, 3) := by decide +kernel
theorem dX11_distance_55 : decode cX11_distance 55 = .ok (.iload_n 3, 1) := by decide +kernel
theorem dX11_distance_56 : decode cX11_distance 56 = .ok (.iaload, 1) := by decide +kernel
theorem dX11_distance_57 : decode cX11_distance 57 = .ok (.goto 9, 3) := by decide +kernel
theorem dX11_distance_60 : decode cX11_distance 60 = .ok (.aload_n 0, 1) := by decide +kernel
theorem dX11_distance_61 : decode cX11_distance 61 = .ok (.getfield 23, 3) := by decide +kernel
theorem dX11_distance_64 : decode cX11_distance 64 = .ok (.iload_n 3, 1) := by decide +kernel
theorem dX11_distance_65 : decode cX11_distance 65 = .ok (.iaload, 1) := by decide +kernel
theorem dX11_distance_66 : decode cX11_distance 66 = .ok (.ireturn, 1) := by decide +kernel
theorem dX11_emissionTime_0 : decode cX11_emissionTime 0 = .ok (.aload_n 0, 1) := by decide +kernel
theorem dX11_emissionTime_1 : decode cX11_emissionTime 1 = .ok (.iconst 0, 1) := by decide +kernel
theorem dX11_emissionTime_2 : decode cX11_emissionTime 2 = .ok (.putfield 49, 3) := by decide +kernel
theorem dX11_emissionTime_5 : decode cX11_emissionTime 5 = .ok (.aload_n 0, 1) := by decide +kernel
theorem dX11_emissionTime_6 : decode cX11_emissionTime 6 = .ok (.iload_n 1, 1) := by decide +kernel
theorem dX11_emissionTime_7 : decode cX11_emissionTime 7 = .ok (.invokevirtual 106, 3) := by decide +kernel
theorem dX11_emissionTime_10 : decode cX11_emissionTime 10 = .ok (.ifCond .eq 11, 3) := by decide +kernel
theorem dX11_emissionTime_13 : decode cX11_emissionTime 13 = .ok (.aload_n 0, 1) := by decide +kernel
theorem dX11_emissionTime_14 : decode cX11_emissionTime 14 = .ok (.iload_n 2, 1) := by decide +kernel
theorem dX11_emissionTime_15 : decode cX11_emissionTime 15 = .ok (.invokevirtual 94, 3) := by decide +kernel
theorem dX11_emissionTime_18 : decode cX11_emissionTime 18 = .ok (.ifCond .ne 9, 3) := by decide +kernel
theorem dX11_emissionTime_21 : decode cX11_emissionTime 21 = .ok (.aload_n 0, 1) := by decide +kernel
theorem dX11_emissionTime_22 : decode cX11_emissionTime 22 = .ok (.iconst 1, 1) := by decide +kernel
theorem dX11_emissionTime_23 : decode cX11_emissionTime 23 = .ok (.invokevirtual 64, 3) := by decide +kernel
theorem dX11_emissionTime_26 : decode cX11_emissionTime 26 = .ok (.ireturn, 1) := by decide +kernel
theorem dX11_emissionTime_27 : decode cX11_emissionTime 27 = .ok (.iload_n 3, 1) := by decide +kernel
theorem dX11_emissionTime_28 : decode cX11_emissionTime 28 = .ok (.invokestatic 56, 3) := by decide +kernel
theorem dX11_emissionTime_31 : decode cX11_emissionTime 31 = .ok (.ifCond .ne 9, 3) := by decide +kernel
theorem dX11_emissionTime_34 : decode cX11_emissionTime 34 = .ok (.aload_n 0, 1) := by decide +kernel
theorem dX11_emissionTime_35 : decode cX11_emissionTime 35 = .ok (.iconst 2, 1) := by decide +kernel
theorem dX11_emissionTime_36 : decode cX11_emissionTime 36 = .ok (.invokevirtual 64, 3) := by decide +kernel
theorem dX11_emissionTime_39 : decode cX11_emissionTime 39 = .ok (.ireturn, 1) := by decide +kernel
theorem dX11_emissionTime_40 : decode cX11_emissionTime 40 = .ok (.aload_n 0, 1) := by decide +kernel
theorem dX11_emissionTime_41 : decode cX11_emissionTime 41 = .ok (.iload_n 1, 1) := by decide +kernel
theorem dX11_emissionTime_42 : decode cX11_emissionTime 42 = .ok (.iload_n 2, 1) := by decide +kernel
theorem dX11_emissionTime_43 : decode cX11_emissionTime 43 = .ok (.invokevirtual 140, 3) := by decide +kernel
theorem dX11_emissionTime_46 : decode cX11_emissionTime 46 = .ok (.aload_n 0, 1) := by decide +kernel
theorem dX11_emissionTime_47 : decode cX11_emissionTime 47 = .ok (.iload_n 3, 1) := by decide +kernel
theorem dX11_emissionTime_48 : decode cX11_emissionTime 48 = .ok (.iload 4, 2) := by decide +kernel
theorem dX11_emissionTime_50 : decode cX11_emissionTime 50 = .ok (.invokevirtual 144, 3) := by decide +kernel
theorem dX11_emissionTime_53 : decode cX11_emissionTime 53 = .ok (.ireturn, 1) := by decide +kernel
theorem dX11_passTime_0 : decode cX11_passTime 0 = .ok (.aload_n 0, 1) := by decide +kernel
theorem dX11_passTime_1 : decode cX11_passTime 1 = .ok (.iconst 0, 1) := by decide +kernel
theorem dX11_passTime_2 : decode cX11_passTime 2 = .ok (.putfield 49, 3) := by decide +kernel
theorem dX11_passTime_5 : decode cX11_passTime 5 = .ok (.aload_n 0, 1) := by decide +kernel
theorem dX11_passTime_6 : decode cX11_passTime 6 = .ok (.iload_n 1, 1) := by decide +kernel
theorem dX11_passTime_7 : decode cX11_passTime 7 = .ok (.invokevirtual 75, 3) := by decide +kernel
theorem dX11_passTime_10 : decode cX11_passTime 10 = .ok (.ifCond .eq 11, 3) := by decide +kernel
theorem dX11_passTime_13 : decode cX11_passTime 13 = .ok (.aload_n 0, 1) := by decide +kernel
theorem dX11_passTime_14 : decode cX11_passTime 14 = .ok (.iload_n 2, 1) := by decide +kernel
theorem dX11_passTime_15 : decode cX11_passTime 15 = .ok (.invokevirtual 106, 3) := by decide +kernel
theorem dX11_passTime_18 : decode cX11_passTime 18 = .ok (.ifCond .ne 9, 3) := by decide +kernel
theorem dX11_passTime_21 : decode cX11_passTime 21 = .ok (.aload_n 0, 1) := by decide +kernel
theorem dX11_passTime_22 : decode cX11_passTime 22 = .ok (.iconst 1, 1) := by decide +kernel
theorem dX11_passTime_23 : decode cX11_passTime 23 = .ok (.invokevirtual 64, 3) := by decide +kernel
theorem dX11_passTime_26 : decode cX11_passTime 26 = .ok (.ireturn, 1) := by decide +kernel
theorem dX11_passTime_27 : decode cX11_passTime 27 = .ok (.iconst 0, 1) := by decide +kernel
theorem dX11_passTime_28 : decode cX11_passTime 28 = .ok (.istore_n 3, 1) := by decide +kernel
theorem dX11_passTime_29 : decode cX11_passTime 29 = .ok (.iconst 0, 1) := by decide +kernel
theorem dX11_passTime_30 : decode cX11_passTime 30 = .ok (.istore 4, 2) := by decide +kernel
theorem dX11_passTime_32 : decode cX11_passTime 32 = .ok (.iconst 0, 1) := by decide +kernel
theorem dX11_passTime_33 : decode cX11_passTime 33 = .ok (.istore 5, 2) := by decide +kernel
theorem dX11_passTime_35 : decode cX11_passTime 35 = .ok (.iload 5, 2) := by decide +kernel
theorem dX11_passTime_37 : decode cX11_passTime 37 = .ok (.sipush 256, 3) := by decide +kernel
theorem dX11_passTime_40 : decode cX11_passTime 40 = .ok (.if_icmp .ge 48, 3) := by decide +kernel
theorem dX11_passTime_43 : decode cX11_passTime 43 = .ok (.aload_n 0, 1) := by decide +kernel
theorem dX11_passTime_44 : decode cX11_passTime 44 = .ok (.iload_n 1, 1) := by decide +kernel
theorem dX11_passTime_45 : decode cX11_passTime 45 = .ok (.iconst 0, 1) := by decide +kernel
theorem dX11_passTime_46 : decode cX11_passTime 46 = .ok (.iload 5, 2) := by decide +kernel
theorem dX11_passTime_48 : decode cX11_passTime 48 = .ok (.invokevirtual 123, 3) := by decide +kernel
theorem dX11_passTime_51 : decode cX11_passTime 51 = .ok (.aload_n 0, 1) := by decide +kernel
theorem dX11_passTime_52 : decode cX11_passTime 52 = .ok (.iload_n 2, 1) := by decide +kernel
theorem dX11_passTime_53 : decode cX11_passTime 53 = .ok (.iconst 0, 1) := by decide +kernel
theorem dX11_passTime_54 : decode cX11_passTime 54 = .ok (.invokevirtual 116, 3) := by decide +kernel
theorem dX11_passTime_57 : decode cX11_passTime 57 = .ok (.isub, 1) := by decide +kernel
theorem dX11_passTime_58 : decode cX11_passTime 58 = .ok (.invokestatic 147, 3) := by decide +kernel
theorem dX11_passTime_61 : decode cX11_passTime 61 = .ok (.istore 6, 2) := by decide +kernel
theorem dX11_passTime_63 : decode cX11_passTime 63 = .ok (.iload 5, 2) := by decide +kernel
theorem dX11_passTime_65 : decode cX11_passTime 65 = .ok (.ifCond .eq 10, 3) := by decide +kernel
theorem dX11_passTime_68 : decode cX11_passTime 68 = .ok (.iload 6, 2) := by decide +kernel
theorem dX11_passTime_70 : decode cX11_passTime 70 = .ok (.iload 4, 2) := by decide +kernel
theorem dX11_passTime_72 : decode cX11_passTime 72 = .ok (.if_icmp .ge 10, 3) := by decide +kernel
theorem dX11_passTime_75 : decode cX11_passTime 75 = .ok (.iload 5, 2) := by decide +kernel
theorem dX11_passTime_77 : decode cX11_passTime 77 = .ok (.istore_n 3, 1) := by decide +kernel
theorem dX11_passTime_78 : decode cX11_passTime 78 = .ok (.iload 6, 2) := by decide +kernel
theorem dX11_passTime_80 : decode cX11_passTime 80 = .ok (.istore 4, 2) := by decide +kernel
theorem dX11_passTime_82 : decode cX11_passTime 82 = .ok (.iinc 5 1, 3) := by decide +kernel
theorem dX11_passTime_85 : decode cX11_passTime 85 = .ok (.goto (-50), 3) := by decide +kernel
theorem dX11_passTime_88 : decode cX11_passTime 88 = .ok (.iload_n 3, 1) := by decide +kernel
theorem dX11_passTime_89 : decode cX11_passTime 89 = .ok (.ireturn, 1) := by decide +kernel
theorem dX11_amountOf_0 : decode cX11_amountOf 0 = .ok (.aload_n 0, 1) := by decide +kernel
theorem dX11_amountOf_1 : decode cX11_amountOf 1 = .ok (.getfield 7, 3) := by decide +kernel
theorem dX11_amountOf_4 : decode cX11_amountOf 4 = .ok (.iconst 2, 1) := by decide +kernel
theorem dX11_amountOf_5 : decode cX11_amountOf 5 = .ok (.iaload, 1) := by decide +kernel
theorem dX11_amountOf_6 : decode cX11_amountOf 6 = .ok (.iconst 1, 1) := by decide +kernel
theorem dX11_amountOf_7 : decode cX11_amountOf 7 = .ok (.if_icmp .ne 17, 3) := by decide +kernel
theorem dX11_amountOf_10 : decode cX11_amountOf 10 = .ok (.iload_n 1, 1) := by decide +kernel
theorem dX11_amountOf_11 : decode cX11_amountOf 11 = .ok (.sipush 1000, 3) := by decide +kernel
theorem dX11_amountOf_14 : decode cX11_amountOf 14 = .ok (.imul, 1) := by decide +kernel
theorem dX11_amountOf_15 : decode cX11_amountOf 15 = .ok (.sipush 1000, 3) := by decide +kernel
theorem dX11_amountOf_18 : decode cX11_amountOf 18 = .ok (.iload_n 2, 1) := by decide +kernel
theorem dX11_amountOf_19 : decode cX11_amountOf 19 = .ok (.iadd, 1) := by decide +kernel
theorem dX11_amountOf_20 : decode cX11_amountOf 20 = .ok (.idiv, 1) := by decide +kernel
theorem dX11_amountOf_21 : decode cX11_amountOf 21 = .ok (.goto 4, 3) := by decide +kernel
theorem dX11_amountOf_24 : decode cX11_amountOf 24 = .ok (.iload_n 1, 1) := by decide +kernel
theorem dX11_amountOf_25 : decode cX11_amountOf 25 = .ok (.istore 4, 2) := by decide +kernel
theorem dX11_amountOf_27 : decode cX11_amountOf 27 = .ok (.iload_n 3, 1) := by decide +kernel
theorem dX11_amountOf_28 : decode cX11_amountOf 28 = .ok (.ifCond .eq 18, 3) := by decide +kernel
theorem dX11_amountOf_31 : decode cX11_amountOf 31 = .ok (.iload 4, 2) := by decide +kernel
theorem dX11_amountOf_33 : decode cX11_amountOf 33 = .ok (.aload_n 0, 1) := by decide +kernel
theorem dX11_amountOf_34 : decode cX11_amountOf 34 = .ok (.getfield 7, 3) := by decide +kernel
theorem dX11_amountOf_37 : decode cX11_amountOf 37 = .ok (.iconst 1, 1) := by decide +kernel
theorem dX11_amountOf_38 : decode cX11_amountOf 38 = .ok (.iaload, 1) := by decide +kernel
theorem dX11_amountOf_39 : decode cX11_amountOf 39 = .ok (.imul, 1) := by decide +kernel
theorem dX11_amountOf_40 : decode cX11_amountOf 40 = .ok (.bipush 100, 2) := by decide +kernel
theorem dX11_amountOf_42 : decode cX11_amountOf 42 = .ok (.idiv, 1) := by decide +kernel
theorem dX11_amountOf_43 : decode cX11_amountOf 43 = .ok (.goto 5, 3) := by decide +kernel
theorem dX11_amountOf_46 : decode cX11_amountOf 46 = .ok (.iload 4, 2) := by decide +kernel
theorem dX11_amountOf_48 : decode cX11_amountOf 48 = .ok (.ireturn, 1) := by decide +kernel
theorem dX11_hear_0 : decode cX11_hear 0 = .ok (.iconst (-1), 1) := by decide +kernel
theorem dX11_hear_1 : decode cX11_hear 1 = .ok (.istore 4, 2) := by decide +kernel
theorem dX11_hear_3 : decode cX11_hear 3 = .ok (.iconst 0, 1) := by decide +kernel
theorem dX11_hear_4 : decode cX11_hear 4 = .ok (.istore 5, 2) := by decide +kernel
theorem dX11_hear_6 : decode cX11_hear 6 = .ok (.iload 5, 2) := by decide +kernel
theorem dX11_hear_8 : decode cX11_hear 8 = .ok (.sipush 256, 3) := by decide +kernel
theorem dX11_hear_11 : decode cX11_hear 11 = .ok (.if_icmp .ge 107, 3) := by decide +kernel
theorem dX11_hear_14 : decode cX11_hear 14 = .ok (.iload 4, 2) := by decide +kernel
theorem dX11_hear_16 : decode cX11_hear 16 = .ok (.sipush 255, 3) := by decide +kernel
theorem dX11_hear_19 : decode cX11_hear 19 = .ok (.if_icmp .ge 30, 3) := by decide +kernel
theorem dX11_hear_22 : decode cX11_hear 22 = .ok (.aload_n 0, 1) := by decide +kernel
theorem dX11_hear_23 : decode cX11_hear 23 = .ok (.iload 4, 2) := by decide +kernel
theorem dX11_hear_25 : decode cX11_hear 25 = .ok (.iconst 1, 1) := by decide +kernel
theorem dX11_hear_26 : decode cX11_hear 26 = .ok (.iadd, 1) := by decide +kernel
theorem dX11_hear_27 : decode cX11_hear 27 = .ok (.iload_n 3, 1) := by decide +kernel
theorem dX11_hear_28 : decode cX11_hear 28 = .ok (.invokevirtual 133, 3) := by decide +kernel
theorem dX11_hear_31 : decode cX11_hear 31 = .ok (.iload 5, 2) := by decide +kernel
theorem dX11_hear_33 : decode cX11_hear 33 = .ok (.aload_n 0, 1) := by decide +kernel
theorem dX11_hear_34 : decode cX11_hear 34 = .ok (.getfield 7, 3) := by decide +kernel
theorem dX11_hear_37 : decode cX11_hear 37 = .ok (.iconst 0, 1) := by decide +kernel
theorem dX11_hear_38 : decode cX11_hear 38 = .ok (.iaload, 1) := by decide +kernel
theorem dX11_hear_39 : decode cX11_hear 39 = .ok (.imul, 1) := by decide +kernel
theorem dX11_hear_40 : decode cX11_hear 40 = .ok (.if_icmp .gt 9, 3) := by decide +kernel
theorem dX11_hear_43 : decode cX11_hear 43 = .ok (.iinc 4 1, 3) := by decide +kernel
theorem dX11_hear_46 : decode cX11_hear 46 = .ok (.goto (-32), 3) := by decide +kernel
theorem dX11_hear_49 : decode cX11_hear 49 = .ok (.iload 4, 2) := by decide +kernel
theorem dX11_hear_51 : decode cX11_hear 51 = .ok (.iconst (-1), 1) := by decide +kernel
theorem dX11_hear_52 : decode cX11_hear 52 = .ok (.if_icmp .eq 60, 3) := by decide +kernel
theorem dX11_hear_55 : decode cX11_hear 55 = .ok (.iload_n 3, 1) := by decide +kernel
theorem dX11_hear_56 : decode cX11_hear 56 = .ok (.ifCond .eq 13, 3) := by decide +kernel
theorem dX11_hear_59 : decode cX11_hear 59 = .ok (.aload_n 0, 1) := by decide +kernel
theorem dX11_hear_60 : decode cX11_hear 60 = .ok (.getfield 26, 3) := by decide +kernel
theorem dX11_hear_63 : decode cX11_hear 63 = .ok (.iload 4, 2) := by decide +kernel
theorem dX11_hear_65 : decode cX11_hear 65 = .ok (.iaload, 1) := by decide +kernel
theorem dX11_hear_66 : decode cX11_hear 66 = .ok (.goto 10, 3) := by decide +kernel
theorem dX11_hear_69 : decode cX11_hear 69 = .ok (.aload_n 0, 1) := by decide +kernel
theorem dX11_hear_70 : decode cX11_hear 70 = .ok (.getfield 23, 3) := by decide +kernel
theorem dX11_hear_73 : decode cX11_hear 73 = .ok (.iload 4, 2) := by decide +kernel
theorem dX11_hear_75 : decode cX11_hear 75 = .ok (.iaload, 1) := by decide +kernel
theorem dX11_hear_76 : decode cX11_hear 76 = .ok (.istore 6, 2) := by decide +kernel
theorem dX11_hear_78 : decode cX11_hear 78 = .ok (.aload_n 0, 1) := by decide +kernel
theorem dX11_hear_79 : decode cX11_hear 79 = .ok (.getfield 7, 3) := by decide +kernel
theorem dX11_hear_82 : decode cX11_hear 82 = .ok (.sipush 186, 3) := by decide +kernel
theorem dX11_hear_85 : decode cX11_hear 85 = .ok (.sipush 256, 3) := by decide +kernel
theorem dX11_hear_88 : decode cX11_hear 88 = .ok (.iload_n 1, 1) := by decide +kernel
theorem dX11_hear_89 : decode cX11_hear 89 = .ok (.imul, 1) := by decide +kernel
theorem dX11_hear_90 : decode cX11_hear 90 = .ok (.iadd, 1) := by decide +kernel
theorem dX11_hear_91 : decode cX11_hear 91 = .ok (.iload 5, 2) := by decide +kernel
theorem dX11_hear_93 : decode cX11_hear 93 = .ok (.iadd, 1) := by decide +kernel
theorem dX11_hear_94 : decode cX11_hear 94 = .ok (.dup2, 1) := by decide +kernel
theorem dX11_hear_95 : decode cX11_hear 95 = .ok (.iaload, 1) := by decide +kernel
theorem dX11_hear_96 : decode cX11_hear 96 = .ok (.aload_n 0, 1) := by decide +kernel
theorem dX11_hear_97 : decode cX11_hear 97 = .ok (.aload_n 0, 1) := by decide +kernel
theorem dX11_hear_98 : decode cX11_hear 98 = .ok (.iload_n 2, 1) := by decide +kernel
theorem dX11_hear_99 : decode cX11_hear 99 = .ok (.iload 4, 2) := by decide +kernel
theorem dX11_hear_101 : decode cX11_hear 101 = .ok (.invokevirtual 137, 3) := by decide +kernel
theorem dX11_hear_104 : decode cX11_hear 104 = .ok (.iload 6, 2) := by decide +kernel
theorem dX11_hear_106 : decode cX11_hear 106 = .ok (.iload_n 3, 1) := by decide +kernel
theorem dX11_hear_107 : decode cX11_hear 107 = .ok (.invokevirtual 152, 3) := by decide +kernel
theorem dX11_hear_110 : decode cX11_hear 110 = .ok (.iadd, 1) := by decide +kernel
theorem dX11_hear_111 : decode cX11_hear 111 = .ok (.iastore, 1) := by decide +kernel
theorem dX11_hear_112 : decode cX11_hear 112 = .ok (.iinc 5 1, 3) := by decide +kernel
theorem dX11_hear_115 : decode cX11_hear 115 = .ok (.goto (-109), 3) := by decide +kernel
theorem dX11_hear_118 : decode cX11_hear 118 = .ok (.return_, 1) := by decide +kernel
theorem dX11_draw_0 : decode cX11_draw 0 = .ok (.aload_n 0, 1) := by decide +kernel
theorem dX11_draw_1 : decode cX11_draw 1 = .ok (.getfield 7, 3) := by decide +kernel
theorem dX11_draw_4 : decode cX11_draw 4 = .ok (.iconst 3, 1) := by decide +kernel
theorem dX11_draw_5 : decode cX11_draw 5 = .ok (.iaload, 1) := by decide +kernel
theorem dX11_draw_6 : decode cX11_draw 6 = .ok (.i2l, 1) := by decide +kernel
theorem dX11_draw_7 : decode cX11_draw 7 = .ok (.ldc2_w 156, 3) := by decide +kernel
theorem dX11_draw_10 : decode cX11_draw 10 = .ok (.lmul, 1) := by decide +kernel
theorem dX11_draw_11 : decode cX11_draw 11 = .ok (.ldc2_w 158, 3) := by decide +kernel
theorem dX11_draw_14 : decode cX11_draw 14 = .ok (.ladd, 1) := by decide +kernel
theorem dX11_draw_15 : decode cX11_draw 15 = .ok (.ldc2_w 160, 3) := by decide +kernel
theorem dX11_draw_18 : decode cX11_draw 18 = .ok (.lrem, 1) := by decide +kernel
theorem dX11_draw_19 : decode cX11_draw 19 = .ok (.lstore_n 2, 1) := by decide +kernel
theorem dX11_draw_20 : decode cX11_draw 20 = .ok (.aload_n 0, 1) := by decide +kernel
theorem dX11_draw_21 : decode cX11_draw 21 = .ok (.getfield 7, 3) := by decide +kernel
theorem dX11_draw_24 : decode cX11_draw 24 = .ok (.iconst 3, 1) := by decide +kernel
theorem dX11_draw_25 : decode cX11_draw 25 = .ok (.lload_n 2, 1) := by decide +kernel
theorem dX11_draw_26 : decode cX11_draw 26 = .ok (.l2i, 1) := by decide +kernel
theorem dX11_draw_27 : decode cX11_draw 27 = .ok (.iastore, 1) := by decide +kernel
theorem dX11_draw_28 : decode cX11_draw 28 = .ok (.lload_n 2, 1) := by decide +kernel
theorem dX11_draw_29 : decode cX11_draw 29 = .ok (.ldc2_w 162, 3) := by decide +kernel
theorem dX11_draw_32 : decode cX11_draw 32 = .ok (.ldiv, 1) := by decide +kernel
theorem dX11_draw_33 : decode cX11_draw 33 = .ok (.iload_n 1, 1) := by decide +kernel
theorem dX11_draw_34 : decode cX11_draw 34 = .ok (.i2l, 1) := by decide +kernel
theorem dX11_draw_35 : decode cX11_draw 35 = .ok (.lrem, 1) := by decide +kernel
theorem dX11_draw_36 : decode cX11_draw 36 = .ok (.l2i, 1) := by decide +kernel
theorem dX11_draw_37 : decode cX11_draw 37 = .ok (.ireturn, 1) := by decide +kernel
theorem dX11_addNoise_0 : decode cX11_addNoise 0 = .ok (.aload_n 0, 1) := by decide +kernel
theorem dX11_addNoise_1 : decode cX11_addNoise 1 = .ok (.getfield 7, 3) := by decide +kernel
theorem dX11_addNoise_4 : decode cX11_addNoise 4 = .ok (.iconst 4, 1) := by decide +kernel
theorem dX11_addNoise_5 : decode cX11_addNoise 5 = .ok (.iaload, 1) := by decide +kernel
theorem dX11_addNoise_6 : decode cX11_addNoise 6 = .ok (.istore_n 2, 1) := by decide +kernel
theorem dX11_addNoise_7 : decode cX11_addNoise 7 = .ok (.iconst 0, 1) := by decide +kernel
theorem dX11_addNoise_8 : decode cX11_addNoise 8 = .ok (.istore_n 3, 1) := by decide +kernel
theorem dX11_addNoise_9 : decode cX11_addNoise 9 = .ok (.iload_n 3, 1) := by decide +kernel
theorem dX11_addNoise_10 : decode cX11_addNoise 10 = .ok (.sipush 256, 3) := by decide +kernel
theorem dX11_addNoise_13 : decode cX11_addNoise 13 = .ok (.if_icmp .ge 43, 3) := by decide +kernel
theorem dX11_addNoise_16 : decode cX11_addNoise 16 = .ok (.iload_n 2, 1) := by decide +kernel
theorem dX11_addNoise_17 : decode cX11_addNoise 17 = .ok (.ifCond .le 39, 3) := by decide +kernel
theorem dX11_addNoise_20 : decode cX11_addNoise 20 = .ok (.aload_n 0, 1) := by decide +kernel
theorem dX11_addNoise_21 : decode cX11_addNoise 21 = .ok (.getfield 7, 3) := by decide +kernel
theorem dX11_addNoise_24 : decode cX11_addNoise 24 = .ok (.sipush 186, 3) := by decide +kernel
theorem dX11_addNoise_27 : decode cX11_addNoise 27 = .ok (.sipush 256, 3) := by decide +kernel
theorem dX11_addNoise_30 : decode cX11_addNoise 30 = .ok (.iload_n 1, 1) := by decide +kernel
theorem dX11_addNoise_31 : decode cX11_addNoise 31 = .ok (.imul, 1) := by decide +kernel
theorem dX11_addNoise_32 : decode cX11_addNoise 32 = .ok (.iadd, 1) := by decide +kernel
theorem dX11_addNoise_33 : decode cX11_addNoise 33 = .ok (.iload_n 3, 1) := by decide +kernel
theorem dX11_addNoise_34 : decode cX11_addNoise 34 = .ok (.iadd, 1) := by decide +kernel
theorem dX11_addNoise_35 : decode cX11_addNoise 35 = .ok (.dup2, 1) := by decide +kernel
theorem dX11_addNoise_36 : decode cX11_addNoise 36 = .ok (.iaload, 1) := by decide +kernel
theorem dX11_addNoise_37 : decode cX11_addNoise 37 = .ok (.aload_n 0, 1) := by decide +kernel
theorem dX11_addNoise_38 : decode cX11_addNoise 38 = .ok (.iconst 2, 1) := by decide +kernel
theorem dX11_addNoise_39 : decode cX11_addNoise 39 = .ok (.iload_n 2, 1) := by decide +kernel
theorem dX11_addNoise_40 : decode cX11_addNoise 40 = .ok (.imul, 1) := by decide +kernel
theorem dX11_addNoise_41 : decode cX11_addNoise 41 = .ok (.iconst 1, 1) := by decide +kernel
theorem dX11_addNoise_42 : decode cX11_addNoise 42 = .ok (.iadd, 1) := by decide +kernel
theorem dX11_addNoise_43 : decode cX11_addNoise 43 = .ok (.invokevirtual 164, 3) := by decide +kernel
theorem dX11_addNoise_46 : decode cX11_addNoise 46 = .ok (.iload_n 2, 1) := by decide +kernel
theorem dX11_addNoise_47 : decode cX11_addNoise 47 = .ok (.isub, 1) := by decide +kernel
theorem dX11_addNoise_48 : decode cX11_addNoise 48 = .ok (.iadd, 1) := by decide +kernel
theorem dX11_addNoise_49 : decode cX11_addNoise 49 = .ok (.iastore, 1) := by decide +kernel
theorem dX11_addNoise_50 : decode cX11_addNoise 50 = .ok (.iinc 3 1, 3) := by decide +kernel
theorem dX11_addNoise_53 : decode cX11_addNoise 53 = .ok (.goto (-44), 3) := by decide +kernel
theorem dX11_addNoise_56 : decode cX11_addNoise 56 = .ok (.return_, 1) := by decide +kernel
theorem dX11_makeRecording_0 : decode cX11_makeRecording 0 = .ok (.aload_n 0, 1) := by decide +kernel
theorem dX11_makeRecording_1 : decode cX11_makeRecording 1 = .ok (.iconst 0, 1) := by decide +kernel
theorem dX11_makeRecording_2 : decode cX11_makeRecording 2 = .ok (.putfield 49, 3) := by decide +kernel
theorem dX11_makeRecording_5 : decode cX11_makeRecording 5 = .ok (.iconst 0, 1) := by decide +kernel
theorem dX11_makeRecording_6 : decode cX11_makeRecording 6 = .ok (.istore_n 1, 1) := by decide +kernel
theorem dX11_makeRecording_7 : decode cX11_makeRecording 7 = .ok (.iload_n 1, 1) := by decide +kernel
theorem dX11_makeRecording_8 : decode cX11_makeRecording 8 = .ok (.aload_n 0, 1) := by decide +kernel
theorem dX11_makeRecording_9 : decode cX11_makeRecording 9 = .ok (.getfield 7, 3) := by decide +kernel
theorem dX11_makeRecording_12 : decode cX11_makeRecording 12 = .ok (.bipush 8, 2) := by decide +kernel
theorem dX11_makeRecording_14 : decode cX11_makeRecording 14 = .ok (.iaload, 1) := by decide +kernel
theorem dX11_makeRecording_15 : decode cX11_makeRecording 15 = .ok (.if_icmp .ge 85, 3) := by decide +kernel
theorem dX11_makeRecording_18 : decode cX11_makeRecording 18 = .ok (.iconst 0, 1) := by decide +kernel
theorem dX11_makeRecording_19 : decode cX11_makeRecording 19 = .ok (.istore_n 2, 1) := by decide +kernel
theorem dX11_makeRecording_20 : decode cX11_makeRecording 20 = .ok (.iload_n 2, 1) := by decide +kernel
theorem dX11_makeRecording_21 : decode cX11_makeRecording 21 = .ok (.sipush 256, 3) := by decide +kernel
theorem dX11_makeRecording_24 : decode cX11_makeRecording 24 = .ok (.if_icmp .ge 26, 3) := by decide +kernel
theorem dX11_makeRecording_27 : decode cX11_makeRecording 27 = .ok (.aload_n 0, 1) := by decide +kernel
theorem dX11_makeRecording_28 : decode cX11_makeRecording 28 = .ok (.getfield 7, 3) := by decide +kernel
theorem dX11_makeRecording_31 : decode cX11_makeRecording 31 = .ok (.sipush 186, 3) := by decide +kernel
theorem dX11_makeRecording_34 : decode cX11_makeRecording 34 = .ok (.sipush 256, 3) := by decide +kernel
theorem dX11_makeRecording_37 : decode cX11_makeRecording 37 = .ok (.iload_n 1, 1) := by decide +kernel
theorem dX11_makeRecording_38 : decode cX11_makeRecording 38 = .ok (.imul, 1) := by decide +kernel
theorem dX11_makeRecording_39 : decode cX11_makeRecording 39 = .ok (.iadd, 1) := by decide +kernel
theorem dX11_makeRecording_40 : decode cX11_makeRecording 40 = .ok (.iload_n 2, 1) := by decide +kernel
theorem dX11_makeRecording_41 : decode cX11_makeRecording 41 = .ok (.iadd, 1) := by decide +kernel
theorem dX11_makeRecording_42 : decode cX11_makeRecording 42 = .ok (.iconst 0, 1) := by decide +kernel
theorem dX11_makeRecording_43 : decode cX11_makeRecording 43 = .ok (.iastore, 1) := by decide +kernel
theorem dX11_makeRecording_44 : decode cX11_makeRecording 44 = .ok (.iinc 2 1, 3) := by decide +kernel
theorem dX11_makeRecording_47 : decode cX11_makeRecording 47 = .ok (.goto (-27), 3) := by decide +kernel
theorem dX11_makeRecording_50 : decode cX11_makeRecording 50 = .ok (.iconst 0, 1) := by decide +kernel
theorem dX11_makeRecording_51 : decode cX11_makeRecording 51 = .ok (.istore_n 2, 1) := by decide +kernel
theorem dX11_makeRecording_52 : decode cX11_makeRecording 52 = .ok (.iload_n 2, 1) := by decide +kernel
theorem dX11_makeRecording_53 : decode cX11_makeRecording 53 = .ok (.aload_n 0, 1) := by decide +kernel
theorem dX11_makeRecording_54 : decode cX11_makeRecording 54 = .ok (.getfield 7, 3) := by decide +kernel
theorem dX11_makeRecording_57 : decode cX11_makeRecording 57 = .ok (.bipush 7, 2) := by decide +kernel
theorem dX11_makeRecording_59 : decode cX11_makeRecording 59 = .ok (.iaload, 1) := by decide +kernel
theorem dX11_makeRecording_60 : decode cX11_makeRecording 60 = .ok (.if_icmp .ge 29, 3) := by decide +kernel
theorem dX11_makeRecording_63 : decode cX11_makeRecording 63 = .ok (.aload_n 0, 1) := by decide +kernel
theorem dX11_makeRecording_64 : decode cX11_makeRecording 64 = .ok (.iload_n 1, 1) := by decide +kernel
theorem dX11_makeRecording_65 : decode cX11_makeRecording 65 = .ok (.iload_n 2, 1) := by decide +kernel
theorem dX11_makeRecording_66 : decode cX11_makeRecording 66 = .ok (.invokevirtual 140, 3) := by decide +kernel
theorem dX11_makeRecording_69 : decode cX11_makeRecording 69 = .ok (.aload_n 0, 1) := by decide +kernel
theorem dX11_makeRecording_70 : decode cX11_makeRecording 70 = .ok (.iload_n 1, 1) := by decide +kernel
theorem dX11_makeRecording_71 : decode cX11_makeRecording 71 = .ok (.iload_n 2, 1) := by decide +kernel
theorem dX11_makeRecording_72 : decode cX11_makeRecording 72 = .ok (.iconst 0, 1) := by decide +kernel
theorem dX11_makeRecording_73 : decode cX11_makeRecording 73 = .ok (.invokevirtual 167, 3) := by decide +kernel
theorem dX11_makeRecording_76 : decode cX11_makeRecording 76 = .ok (.aload_n 0, 1) := by decide +kernel
theorem dX11_makeRecording_77 : decode cX11_makeRecording 77 = .ok (.iload_n 1, 1) := by decide +kernel
theorem dX11_makeRecording_78 : decode cX11_makeRecording 78 = .ok (.iload_n 2, 1) := by decide +kernel
theorem dX11_makeRecording_79 : decode cX11_makeRecording 79 = .ok (.iconst 1, 1) := by decide +kernel
theorem dX11_makeRecording_80 : decode cX11_makeRecording 80 = .ok (.invokevirtual 167, 3) := by decide +kernel
theorem dX11_makeRecording_83 : decode cX11_makeRecording 83 = .ok (.iinc 2 1, 3) := by decide +kernel
theorem dX11_makeRecording_86 : decode cX11_makeRecording 86 = .ok (.goto (-34), 3) := by decide +kernel
theorem dX11_makeRecording_89 : decode cX11_makeRecording 89 = .ok (.aload_n 0, 1) := by decide +kernel
theorem dX11_makeRecording_90 : decode cX11_makeRecording 90 = .ok (.iload_n 1, 1) := by decide +kernel
theorem dX11_makeRecording_91 : decode cX11_makeRecording 91 = .ok (.invokevirtual 171, 3) := by decide +kernel
theorem dX11_makeRecording_94 : decode cX11_makeRecording 94 = .ok (.iinc 1 1, 3) := by decide +kernel
theorem dX11_makeRecording_97 : decode cX11_makeRecording 97 = .ok (.goto (-90), 3) := by decide +kernel
theorem dX11_makeRecording_100 : decode cX11_makeRecording 100 = .ok (.aload_n 0, 1) := by decide +kernel
theorem dX11_makeRecording_101 : decode cX11_makeRecording 101 = .ok (.getfield 7, 3) := by decide +kernel
theorem dX11_makeRecording_104 : decode cX11_makeRecording 104 = .ok (.bipush 9, 2) := by decide +kernel
theorem dX11_makeRecording_106 : decode cX11_makeRecording 106 = .ok (.dup2, 1) := by decide +kernel
theorem dX11_makeRecording_107 : decode cX11_makeRecording 107 = .ok (.iaload, 1) := by decide +kernel
theorem dX11_makeRecording_108 : decode cX11_makeRecording 108 = .ok (.iconst 1, 1) := by decide +kernel
theorem dX11_makeRecording_109 : decode cX11_makeRecording 109 = .ok (.iadd, 1) := by decide +kernel
theorem dX11_makeRecording_110 : decode cX11_makeRecording 110 = .ok (.iastore, 1) := by decide +kernel
theorem dX11_makeRecording_111 : decode cX11_makeRecording 111 = .ok (.aload_n 0, 1) := by decide +kernel
theorem dX11_makeRecording_112 : decode cX11_makeRecording 112 = .ok (.getfield 7, 3) := by decide +kernel
theorem dX11_makeRecording_115 : decode cX11_makeRecording 115 = .ok (.bipush 9, 2) := by decide +kernel
theorem dX11_makeRecording_117 : decode cX11_makeRecording 117 = .ok (.iaload, 1) := by decide +kernel
theorem dX11_makeRecording_118 : decode cX11_makeRecording 118 = .ok (.ireturn, 1) := by decide +kernel
theorem dX11_recorded_0 : decode cX11_recorded 0 = .ok (.iload_n 2, 1) := by decide +kernel
theorem dX11_recorded_1 : decode cX11_recorded 1 = .ok (.invokestatic 56, 3) := by decide +kernel
theorem dX11_recorded_4 : decode cX11_recorded 4 = .ok (.ifCond .eq 22, 3) := by decide +kernel
theorem dX11_recorded_7 : decode cX11_recorded 7 = .ok (.aload_n 0, 1) := by decide +kernel
theorem dX11_recorded_8 : decode cX11_recorded 8 = .ok (.getfield 7, 3) := by decide +kernel
theorem dX11_recorded_11 : decode cX11_recorded 11 = .ok (.sipush 186, 3) := by decide +kernel
theorem dX11_recorded_14 : decode cX11_recorded 14 = .ok (.sipush 256, 3) := by decide +kernel
theorem dX11_recorded_17 : decode cX11_recorded 17 = .ok (.iload_n 1, 1) := by decide +kernel
theorem dX11_recorded_18 : decode cX11_recorded 18 = .ok (.imul, 1) := by decide +kernel
theorem dX11_recorded_19 : decode cX11_recorded 19 = .ok (.iadd, 1) := by decide +kernel
theorem dX11_recorded_20 : decode cX11_recorded 20 = .ok (.iload_n 2, 1) := by decide +kernel
theorem dX11_recorded_21 : decode cX11_recorded 21 = .ok (.iadd, 1) := by decide +kernel
theorem dX11_recorded_22 : decode cX11_recorded 22 = .ok (.iaload, 1) := by decide +kernel
theorem dX11_recorded_23 : decode cX11_recorded 23 = .ok (.goto 4, 3) := by decide +kernel
theorem dX11_recorded_26 : decode cX11_recorded 26 = .ok (.iconst 0, 1) := by decide +kernel
theorem dX11_recorded_27 : decode cX11_recorded 27 = .ok (.ireturn, 1) := by decide +kernel
theorem dX11_sample_0 : decode cX11_sample 0 = .ok (.aload_n 0, 1) := by decide +kernel
theorem dX11_sample_1 : decode cX11_sample 1 = .ok (.iconst 0, 1) := by decide +kernel
theorem dX11_sample_2 : decode cX11_sample 2 = .ok (.putfield 49, 3) := by decide +kernel
theorem dX11_sample_5 : decode cX11_sample 5 = .ok (.aload_n 0, 1) := by decide +kernel
theorem dX11_sample_6 : decode cX11_sample 6 = .ok (.iload_n 1, 1) := by decide +kernel
theorem dX11_sample_7 : decode cX11_sample 7 = .ok (.invokevirtual 106, 3) := by decide +kernel
theorem dX11_sample_10 : decode cX11_sample 10 = .ok (.ifCond .ne 9, 3) := by decide +kernel
theorem dX11_sample_13 : decode cX11_sample 13 = .ok (.aload_n 0, 1) := by decide +kernel
theorem dX11_sample_14 : decode cX11_sample 14 = .ok (.iconst 1, 1) := by decide +kernel
theorem dX11_sample_15 : decode cX11_sample 15 = .ok (.invokevirtual 64, 3) := by decide +kernel
theorem dX11_sample_18 : decode cX11_sample 18 = .ok (.ireturn, 1) := by decide +kernel
theorem dX11_sample_19 : decode cX11_sample 19 = .ok (.iload_n 2, 1) := by decide +kernel
theorem dX11_sample_20 : decode cX11_sample 20 = .ok (.invokestatic 56, 3) := by decide +kernel
theorem dX11_sample_23 : decode cX11_sample 23 = .ok (.ifCond .eq 12, 3) := by decide +kernel
theorem dX11_sample_26 : decode cX11_sample 26 = .ok (.aload_n 0, 1) := by decide +kernel
theorem dX11_sample_27 : decode cX11_sample 27 = .ok (.iload_n 1, 1) := by decide +kernel
theorem dX11_sample_28 : decode cX11_sample 28 = .ok (.iload_n 2, 1) := by decide +kernel
theorem dX11_sample_29 : decode cX11_sample 29 = .ok (.invokevirtual 175, 3) := by decide +kernel
theorem dX11_sample_32 : decode cX11_sample 32 = .ok (.goto 8, 3) := by decide +kernel
theorem dX11_sample_35 : decode cX11_sample 35 = .ok (.aload_n 0, 1) := by decide +kernel
theorem dX11_sample_36 : decode cX11_sample 36 = .ok (.iconst 2, 1) := by decide +kernel
theorem dX11_sample_37 : decode cX11_sample 37 = .ok (.invokevirtual 64, 3) := by decide +kernel
theorem dX11_sample_40 : decode cX11_sample 40 = .ok (.ireturn, 1) := by decide +kernel
theorem dX11_layRecord_0 : decode cX11_layRecord 0 = .ok (.iconst 0, 1) := by decide +kernel
theorem dX11_layRecord_1 : decode cX11_layRecord 1 = .ok (.istore_n 2, 1) := by decide +kernel
theorem dX11_layRecord_2 : decode cX11_layRecord 2 = .ok (.iload_n 2, 1) := by decide +kernel
theorem dX11_layRecord_3 : decode cX11_layRecord 3 = .ok (.sipush 256, 3) := by decide +kernel
theorem dX11_layRecord_6 : decode cX11_layRecord 6 = .ok (.if_icmp .ge 21, 3) := by decide +kernel
theorem dX11_layRecord_9 : decode cX11_layRecord 9 = .ok (.aload_n 0, 1) := by decide +kernel
theorem dX11_layRecord_10 : decode cX11_layRecord 10 = .ok (.getfield 29, 3) := by decide +kernel
theorem dX11_layRecord_13 : decode cX11_layRecord 13 = .ok (.iload_n 2, 1) := by decide +kernel
theorem dX11_layRecord_14 : decode cX11_layRecord 14 = .ok (.aload_n 0, 1) := by decide +kernel
theorem dX11_layRecord_15 : decode cX11_layRecord 15 = .ok (.iload_n 1, 1) := by decide +kernel
theorem dX11_layRecord_16 : decode cX11_layRecord 16 = .ok (.iload_n 2, 1) := by decide +kernel
theorem dX11_layRecord_17 : decode cX11_layRecord 17 = .ok (.invokevirtual 175, 3) := by decide +kernel
theorem dX11_layRecord_20 : decode cX11_layRecord 20 = .ok (.iastore, 1) := by decide +kernel
theorem dX11_layRecord_21 : decode cX11_layRecord 21 = .ok (.iinc 2 1, 3) := by decide +kernel
theorem dX11_layRecord_24 : decode cX11_layRecord 24 = .ok (.goto (-22), 3) := by decide +kernel
theorem dX11_layRecord_27 : decode cX11_layRecord 27 = .ok (.return_, 1) := by decide +kernel
theorem dX11_energyOf_0 : decode cX11_energyOf 0 = .ok (.lconst 0, 1) := by decide +kernel
theorem dX11_energyOf_1 : decode cX11_energyOf 1 = .ok (.lstore_n 3, 1) := by decide +kernel
theorem dX11_energyOf_2 : decode cX11_energyOf 2 = .ok (.iload_n 1, 1) := by decide +kernel
theorem dX11_energyOf_3 : decode cX11_energyOf 3 = .ok (.istore 5, 2) := by decide +kernel
theorem dX11_energyOf_5 : decode cX11_energyOf 5 = .ok (.iload 5, 2) := by decide +kernel
theorem dX11_energyOf_7 : decode cX11_energyOf 7 = .ok (.iload_n 2, 1) := by decide +kernel
theorem dX11_energyOf_8 : decode cX11_energyOf 8 = .ok (.if_icmp .gt 29, 3) := by decide +kernel
theorem dX11_energyOf_11 : decode cX11_energyOf 11 = .ok (.lload_n 3, 1) := by decide +kernel
theorem dX11_energyOf_12 : decode cX11_energyOf 12 = .ok (.aload_n 0, 1) := by decide +kernel
theorem dX11_energyOf_13 : decode cX11_energyOf 13 = .ok (.getfield 29, 3) := by decide +kernel
theorem dX11_energyOf_16 : decode cX11_energyOf 16 = .ok (.iload 5, 2) := by decide +kernel
theorem dX11_energyOf_18 : decode cX11_energyOf 18 = .ok (.iaload, 1) := by decide +kernel
theorem dX11_energyOf_19 : decode cX11_energyOf 19 = .ok (.i2l, 1) := by decide +kernel
theorem dX11_energyOf_20 : decode cX11_energyOf 20 = .ok (.aload_n 0, 1) := by decide +kernel
theorem dX11_energyOf_21 : decode cX11_energyOf 21 = .ok (.getfield 29, 3) := by decide +kernel
theorem dX11_energyOf_24 : decode cX11_energyOf 24 = .ok (.iload 5, 2) := by decide +kernel
theorem dX11_energyOf_26 : decode cX11_energyOf 26 = .ok (.iaload, 1) := by decide +kernel
theorem dX11_energyOf_27 : decode cX11_energyOf 27 = .ok (.i2l, 1) := by decide +kernel
theorem dX11_energyOf_28 : decode cX11_energyOf 28 = .ok (.lmul, 1) := by decide +kernel
theorem dX11_energyOf_29 : decode cX11_energyOf 29 = .ok (.ladd, 1) := by decide +kernel
theorem dX11_energyOf_30 : decode cX11_energyOf 30 = .ok (.lstore_n 3, 1) := by decide +kernel
theorem dX11_energyOf_31 : decode cX11_energyOf 31 = .ok (.iinc 5 1, 3) := by decide +kernel
theorem dX11_energyOf_34 : decode cX11_energyOf 34 = .ok (.goto (-29), 3) := by decide +kernel
theorem dX11_energyOf_37 : decode cX11_energyOf 37 = .ok (.lload_n 3, 1) := by decide +kernel
theorem dX11_energyOf_38 : decode cX11_energyOf 38 = .ok (.lreturn, 1) := by decide +kernel
theorem dX11_peakOf_0 : decode cX11_peakOf 0 = .ok (.iconst 0, 1) := by decide +kernel
theorem dX11_peakOf_1 : decode cX11_peakOf 1 = .ok (.istore_n 3, 1) := by decide +kernel
theorem dX11_peakOf_2 : decode cX11_peakOf 2 = .ok (.iload_n 1, 1) := by decide +kernel
theorem dX11_peakOf_3 : decode cX11_peakOf 3 = .ok (.istore 4, 2) := by decide +kernel
theorem dX11_peakOf_5 : decode cX11_peakOf 5 = .ok (.iload 4, 2) := by decide +kernel
theorem dX11_peakOf_7 : decode cX11_peakOf 7 = .ok (.iload_n 2, 1) := by decide +kernel
theorem dX11_peakOf_8 : decode cX11_peakOf 8 = .ok (.if_icmp .gt 24, 3) := by decide +kernel
theorem dX11_peakOf_11 : decode cX11_peakOf 11 = .ok (.iload_n 3, 1) := by decide +kernel
theorem dX11_peakOf_12 : decode cX11_peakOf 12 = .ok (.aload_n 0, 1) := by decide +kernel
theorem dX11_peakOf_13 : decode cX11_peakOf 13 = .ok (.getfield 29, 3) := by decide +kernel
theorem dX11_peakOf_16 : decode cX11_peakOf 16 = .ok (.iload 4, 2) := by decide +kernel
theorem dX11_peakOf_18 : decode cX11_peakOf 18 = .ok (.iaload, 1) := by decide +kernel
theorem dX11_peakOf_19 : decode cX11_peakOf 19 = .ok (.invokestatic 147, 3) := by decide +kernel
theorem dX11_peakOf_22 : decode cX11_peakOf 22 = .ok (.invokestatic 178, 3) := by decide +kernel
theorem dX11_peakOf_25 : decode cX11_peakOf 25 = .ok (.istore_n 3, 1) := by decide +kernel
theorem dX11_peakOf_26 : decode cX11_peakOf 26 = .ok (.iinc 4 1, 3) := by decide +kernel
theorem dX11_peakOf_29 : decode cX11_peakOf 29 = .ok (.goto (-24), 3) := by decide +kernel
theorem dX11_peakOf_32 : decode cX11_peakOf 32 = .ok (.iload_n 3, 1) := by decide +kernel
theorem dX11_peakOf_33 : decode cX11_peakOf 33 = .ok (.ireturn, 1) := by decide +kernel
theorem dX11_digitsOf_0 : decode cX11_digitsOf 0 = .ok (.iconst 0, 1) := by decide +kernel
theorem dX11_digitsOf_1 : decode cX11_digitsOf 1 = .ok (.istore_n 2, 1) := by decide +kernel
theorem dX11_digitsOf_2 : decode cX11_digitsOf 2 = .ok (.lload_n 0, 1) := by decide +kernel
theorem dX11_digitsOf_3 : decode cX11_digitsOf 3 = .ok (.lstore_n 3, 1) := by decide +kernel
theorem dX11_digitsOf_4 : decode cX11_digitsOf 4 = .ok (.lload_n 3, 1) := by decide +kernel
theorem dX11_digitsOf_5 : decode cX11_digitsOf 5 = .ok (.lconst 0, 1) := by decide +kernel
theorem dX11_digitsOf_6 : decode cX11_digitsOf 6 = .ok (.lcmp, 1) := by decide +kernel
theorem dX11_digitsOf_7 : decode cX11_digitsOf 7 = .ok (.ifCond .le 15, 3) := by decide +kernel
theorem dX11_digitsOf_10 : decode cX11_digitsOf 10 = .ok (.iinc 2 1, 3) := by decide +kernel
theorem dX11_digitsOf_13 : decode cX11_digitsOf 13 = .ok (.lload_n 3, 1) := by decide +kernel
theorem dX11_digitsOf_14 : decode cX11_digitsOf 14 = .ok (.ldc2_w 114, 3) := by decide +kernel
theorem dX11_digitsOf_17 : decode cX11_digitsOf 17 = .ok (.ldiv, 1) := by decide +kernel
theorem dX11_digitsOf_18 : decode cX11_digitsOf 18 = .ok (.lstore_n 3, 1) := by decide +kernel
theorem dX11_digitsOf_19 : decode cX11_digitsOf 19 = .ok (.goto (-15), 3) := by decide +kernel
theorem dX11_digitsOf_22 : decode cX11_digitsOf 22 = .ok (.iload_n 2, 1) := by decide +kernel
theorem dX11_digitsOf_23 : decode cX11_digitsOf 23 = .ok (.ireturn, 1) := by decide +kernel
theorem dX11_signOf_0 : decode cX11_signOf 0 = .ok (.iload_n 0, 1) := by decide +kernel
theorem dX11_signOf_1 : decode cX11_signOf 1 = .ok (.ifCond .le 7, 3) := by decide +kernel
theorem dX11_signOf_4 : decode cX11_signOf 4 = .ok (.iconst 1, 1) := by decide +kernel
theorem dX11_signOf_5 : decode cX11_signOf 5 = .ok (.goto 12, 3) := by decide +kernel
theorem dX11_signOf_8 : decode cX11_signOf 8 = .ok (.iload_n 0, 1) := by decide +kernel
theorem dX11_signOf_9 : decode cX11_signOf 9 = .ok (.ifCond .ge 7, 3) := by decide +kernel
theorem dX11_signOf_12 : decode cX11_signOf 12 = .ok (.iconst (-1), 1) := by decide +kernel
theorem dX11_signOf_13 : decode cX11_signOf 13 = .ok (.goto 4, 3) := by decide +kernel
theorem dX11_signOf_16 : decode cX11_signOf 16 = .ok (.iconst 0, 1) := by decide +kernel
theorem dX11_signOf_17 : decode cX11_signOf 17 = .ok (.ireturn, 1) := by decide +kernel
theorem dX11_sumOf_0 : decode cX11_sumOf 0 = .ok (.lconst 0, 1) := by decide +kernel
theorem dX11_sumOf_1 : decode cX11_sumOf 1 = .ok (.lstore_n 3, 1) := by decide +kernel
theorem dX11_sumOf_2 : decode cX11_sumOf 2 = .ok (.iload_n 1, 1) := by decide +kernel
theorem dX11_sumOf_3 : decode cX11_sumOf 3 = .ok (.istore 5, 2) := by decide +kernel
theorem dX11_sumOf_5 : decode cX11_sumOf 5 = .ok (.iload 5, 2) := by decide +kernel
theorem dX11_sumOf_7 : decode cX11_sumOf 7 = .ok (.iload_n 2, 1) := by decide +kernel
theorem dX11_sumOf_8 : decode cX11_sumOf 8 = .ok (.if_icmp .gt 20, 3) := by decide +kernel
theorem dX11_sumOf_11 : decode cX11_sumOf 11 = .ok (.lload_n 3, 1) := by decide +kernel
theorem dX11_sumOf_12 : decode cX11_sumOf 12 = .ok (.aload_n 0, 1) := by decide +kernel
theorem dX11_sumOf_13 : decode cX11_sumOf 13 = .ok (.getfield 29, 3) := by decide +kernel
theorem dX11_sumOf_16 : decode cX11_sumOf 16 = .ok (.iload 5, 2) := by decide +kernel
theorem dX11_sumOf_18 : decode cX11_sumOf 18 = .ok (.iaload, 1) := by decide +kernel
theorem dX11_sumOf_19 : decode cX11_sumOf 19 = .ok (.i2l, 1) := by decide +kernel
theorem dX11_sumOf_20 : decode cX11_sumOf 20 = .ok (.ladd, 1) := by decide +kernel
theorem dX11_sumOf_21 : decode cX11_sumOf 21 = .ok (.lstore_n 3, 1) := by decide +kernel
theorem dX11_sumOf_22 : decode cX11_sumOf 22 = .ok (.iinc 5 1, 3) := by decide +kernel
theorem dX11_sumOf_25 : decode cX11_sumOf 25 = .ok (.goto (-20), 3) := by decide +kernel
theorem dX11_sumOf_28 : decode cX11_sumOf 28 = .ok (.lload_n 3, 1) := by decide +kernel
theorem dX11_sumOf_29 : decode cX11_sumOf 29 = .ok (.lreturn, 1) := by decide +kernel
theorem dX11_crossingsOf_0 : decode cX11_crossingsOf 0 = .ok (.iconst 0, 1) := by decide +kernel
theorem dX11_crossingsOf_1 : decode cX11_crossingsOf 1 = .ok (.istore_n 3, 1) := by decide +kernel
theorem dX11_crossingsOf_2 : decode cX11_crossingsOf 2 = .ok (.iload_n 1, 1) := by decide +kernel
theorem dX11_crossingsOf_3 : decode cX11_crossingsOf 3 = .ok (.iconst 1, 1) := by decide +kernel
theorem dX11_crossingsOf_4 : decode cX11_crossingsOf 4 = .ok (.iadd, 1) := by decide +kernel
theorem dX11_crossingsOf_5 : decode cX11_crossingsOf 5 = .ok (.istore 4, 2) := by decide +kernel
theorem dX11_crossingsOf_7 : decode cX11_crossingsOf 7 = .ok (.iload 4, 2) := by decide +kernel
theorem dX11_crossingsOf_9 : decode cX11_crossingsOf 9 = .ok (.iload_n 2, 1) := by decide +kernel
theorem dX11_crossingsOf_10 : decode cX11_crossingsOf 10 = .ok (.if_icmp .gt 42, 3) := by decide +kernel
theorem dX11_crossingsOf_13 : decode cX11_crossingsOf 13 = .ok (.iload_n 3, 1) := by decide +kernel
theorem dX11_crossingsOf_14 : decode cX11_crossingsOf 14 = .ok (.aload_n 0, 1) := by decide +kernel
theorem dX11_crossingsOf_15 : decode cX11_crossingsOf 15 = .ok (.getfield 29, 3) := by decide +kernel
theorem dX11_crossingsOf_18 : decode cX11_crossingsOf 18 = .ok (.iload 4, 2) := by decide +kernel
theorem dX11_crossingsOf_20 : decode cX11_crossingsOf 20 = .ok (.iaload, 1) := by decide +kernel
theorem dX11_crossingsOf_21 : decode cX11_crossingsOf 21 = .ok (.invokestatic 181, 3) := by decide +kernel
theorem dX11_crossingsOf_24 : decode cX11_crossingsOf 24 = .ok (.aload_n 0, 1) := by decide +kernel
theorem dX11_crossingsOf_25 : decode cX11_crossingsOf 25 = .ok (.getfield 29, 3) := by decide +kernel
theorem dX11_crossingsOf_28 : decode cX11_crossingsOf 28 = .ok (.iload 4, 2) := by decide +kernel
theorem dX11_crossingsOf_30 : decode cX11_crossingsOf 30 = .ok (.iconst 1, 1) := by decide +kernel
theorem dX11_crossingsOf_31 : decode cX11_crossingsOf 31 = .ok (.isub, 1) := by decide +kernel
theorem dX11_crossingsOf_32 : decode cX11_crossingsOf 32 = .ok (.iaload, 1) := by decide +kernel
theorem dX11_crossingsOf_33 : decode cX11_crossingsOf 33 = .ok (.invokestatic 181, 3) := by decide +kernel
theorem dX11_crossingsOf_36 : decode cX11_crossingsOf 36 = .ok (.if_icmp .ne 7, 3) := by decide +kernel
theorem dX11_crossingsOf_39 : decode cX11_crossingsOf 39 = .ok (.iconst 0, 1) := by decide +kernel
theorem dX11_crossingsOf_40 : decode cX11_crossingsOf 40 = .ok (.goto 4, 3) := by decide +kernel
theorem dX11_crossingsOf_43 : decode cX11_crossingsOf 43 = .ok (.iconst 1, 1) := by decide +kernel
theorem dX11_crossingsOf_44 : decode cX11_crossingsOf 44 = .ok (.iadd, 1) := by decide +kernel
theorem dX11_crossingsOf_45 : decode cX11_crossingsOf 45 = .ok (.istore_n 3, 1) := by decide +kernel
theorem dX11_crossingsOf_46 : decode cX11_crossingsOf 46 = .ok (.iinc 4 1, 3) := by decide +kernel
theorem dX11_crossingsOf_49 : decode cX11_crossingsOf 49 = .ok (.goto (-42), 3) := by decide +kernel
theorem dX11_crossingsOf_52 : decode cX11_crossingsOf 52 = .ok (.iload_n 3, 1) := by decide +kernel
theorem dX11_crossingsOf_53 : decode cX11_crossingsOf 53 = .ok (.ireturn, 1) := by decide +kernel
theorem dX11_measureOf_0 : decode cX11_measureOf 0 = .ok (.iload_n 1, 1) := by decide +kernel
theorem dX11_measureOf_1 : decode cX11_measureOf 1 = .ok (.tableswitch 64 0 3 #[31, 38, 46, 57], 31) := by decide +kernel
theorem dX11_measureOf_32 : decode cX11_measureOf 32 = .ok (.aload_n 0, 1) := by decide +kernel
theorem dX11_measureOf_33 : decode cX11_measureOf 33 = .ok (.iload_n 2, 1) := by decide +kernel
theorem dX11_measureOf_34 : decode cX11_measureOf 34 = .ok (.iload_n 3, 1) := by decide +kernel
theorem dX11_measureOf_35 : decode cX11_measureOf 35 = .ok (.invokevirtual 184, 3) := by decide +kernel
theorem dX11_measureOf_38 : decode cX11_measureOf 38 = .ok (.lreturn, 1) := by decide +kernel
theorem dX11_measureOf_39 : decode cX11_measureOf 39 = .ok (.aload_n 0, 1) := by decide +kernel
theorem dX11_measureOf_40 : decode cX11_measureOf 40 = .ok (.iload_n 2, 1) := by decide +kernel
theorem dX11_measureOf_41 : decode cX11_measureOf 41 = .ok (.iload_n 3, 1) := by decide +kernel
theorem dX11_measureOf_42 : decode cX11_measureOf 42 = .ok (.invokevirtual 188, 3) := by decide +kernel
theorem dX11_measureOf_45 : decode cX11_measureOf 45 = .ok (.i2l, 1) := by decide +kernel
theorem dX11_measureOf_46 : decode cX11_measureOf 46 = .ok (.lreturn, 1) := by decide +kernel
theorem dX11_measureOf_47 : decode cX11_measureOf 47 = .ok (.aload_n 0, 1) := by decide +kernel
theorem dX11_measureOf_48 : decode cX11_measureOf 48 = .ok (.iload_n 2, 1) := by decide +kernel
theorem dX11_measureOf_49 : decode cX11_measureOf 49 = .ok (.iload_n 3, 1) := by decide +kernel
theorem dX11_measureOf_50 : decode cX11_measureOf 50 = .ok (.invokevirtual 184, 3) := by decide +kernel
theorem dX11_measureOf_53 : decode cX11_measureOf 53 = .ok (.invokestatic 191, 3) := by decide +kernel
theorem dX11_measureOf_56 : decode cX11_measureOf 56 = .ok (.i2l, 1) := by decide +kernel
theorem dX11_measureOf_57 : decode cX11_measureOf 57 = .ok (.lreturn, 1) := by decide +kernel
theorem dX11_measureOf_58 : decode cX11_measureOf 58 = .ok (.aload_n 0, 1) := by decide +kernel
theorem dX11_measureOf_59 : decode cX11_measureOf 59 = .ok (.iload_n 2, 1) := by decide +kernel
theorem dX11_measureOf_60 : decode cX11_measureOf 60 = .ok (.iload_n 3, 1) := by decide +kernel
theorem dX11_measureOf_61 : decode cX11_measureOf 61 = .ok (.invokevirtual 194, 3) := by decide +kernel
theorem dX11_measureOf_64 : decode cX11_measureOf 64 = .ok (.lreturn, 1) := by decide +kernel
theorem dX11_measureOf_65 : decode cX11_measureOf 65 = .ok (.aload_n 0, 1) := by decide +kernel
theorem dX11_measureOf_66 : decode cX11_measureOf 66 = .ok (.iload_n 2, 1) := by decide +kernel
theorem dX11_measureOf_67 : decode cX11_measureOf 67 = .ok (.iload_n 3, 1) := by decide +kernel
theorem dX11_measureOf_68 : decode cX11_measureOf 68 = .ok (.invokevirtual 197, 3) := by decide +kernel
theorem dX11_measureOf_71 : decode cX11_measureOf 71 = .ok (.i2l, 1) := by decide +kernel
theorem dX11_measureOf_72 : decode cX11_measureOf 72 = .ok (.lreturn, 1) := by decide +kernel
theorem dX11_measureRecord_0 : decode cX11_measureRecord 0 = .ok (.aload_n 0, 1) := by decide +kernel
theorem dX11_measureRecord_1 : decode cX11_measureRecord 1 = .ok (.iconst 0, 1) := by decide +kernel
theorem dX11_measureRecord_2 : decode cX11_measureRecord 2 = .ok (.putfield 49, 3) := by decide +kernel
theorem dX11_measureRecord_5 : decode cX11_measureRecord 5 = .ok (.aload_n 0, 1) := by decide +kernel
theorem dX11_measureRecord_6 : decode cX11_measureRecord 6 = .ok (.iload_n 1, 1) := by decide +kernel
theorem dX11_measureRecord_7 : decode cX11_measureRecord 7 = .ok (.invokevirtual 106, 3) := by decide +kernel
theorem dX11_measureRecord_10 : decode cX11_measureRecord 10 = .ok (.ifCond .ne 10, 3) := by decide +kernel
theorem dX11_measureRecord_13 : decode cX11_measureRecord 13 = .ok (.aload_n 0, 1) := by decide +kernel
theorem dX11_measureRecord_14 : decode cX11_measureRecord 14 = .ok (.iconst 1, 1) := by decide +kernel
theorem dX11_measureRecord_15 : decode cX11_measureRecord 15 = .ok (.invokevirtual 64, 3) := by decide +kernel
theorem dX11_measureRecord_18 : decode cX11_measureRecord 18 = .ok (.i2l, 1) := by decide +kernel
theorem dX11_measureRecord_19 : decode cX11_measureRecord 19 = .ok (.lreturn, 1) := by decide +kernel
theorem dX11_measureRecord_20 : decode cX11_measureRecord 20 = .ok (.iload_n 2, 1) := by decide +kernel
theorem dX11_measureRecord_21 : decode cX11_measureRecord 21 = .ok (.iconst 0, 1) := by decide +kernel
theorem dX11_measureRecord_22 : decode cX11_measureRecord 22 = .ok (.iconst 4, 1) := by decide +kernel
theorem dX11_measureRecord_23 : decode cX11_measureRecord 23 = .ok (.invokestatic 52, 3) := by decide +kernel
theorem dX11_measureRecord_26 : decode cX11_measureRecord 26 = .ok (.ifCond .eq 12, 3) := by decide +kernel
theorem dX11_measureRecord_29 : decode cX11_measureRecord 29 = .ok (.iload_n 3, 1) := by decide +kernel
theorem dX11_measureRecord_30 : decode cX11_measureRecord 30 = .ok (.iload 4, 2) := by decide +kernel
theorem dX11_measureRecord_32 : decode cX11_measureRecord 32 = .ok (.invokestatic 200, 3) := by decide +kernel
theorem dX11_measureRecord_35 : decode cX11_measureRecord 35 = .ok (.ifCond .ne 10, 3) := by decide +kernel
theorem dX11_measureRecord_38 : decode cX11_measureRecord 38 = .ok (.aload_n 0, 1) := by decide +kernel
theorem dX11_measureRecord_39 : decode cX11_measureRecord 39 = .ok (.iconst 2, 1) := by decide +kernel
theorem dX11_measureRecord_40 : decode cX11_measureRecord 40 = .ok (.invokevirtual 64, 3) := by decide +kernel
theorem dX11_measureRecord_43 : decode cX11_measureRecord 43 = .ok (.i2l, 1) := by decide +kernel
theorem dX11_measureRecord_44 : decode cX11_measureRecord 44 = .ok (.lreturn, 1) := by decide +kernel
theorem dX11_measureRecord_45 : decode cX11_measureRecord 45 = .ok (.aload_n 0, 1) := by decide +kernel
theorem dX11_measureRecord_46 : decode cX11_measureRecord 46 = .ok (.iload_n 1, 1) := by decide +kernel
theorem dX11_measureRecord_47 : decode cX11_measureRecord 47 = .ok (.invokevirtual 204, 3) := by decide +kernel
theorem dX11_measureRecord_50 : decode cX11_measureRecord 50 = .ok (.aload_n 0, 1) := by decide +kernel
theorem dX11_measureRecord_51 : decode cX11_measureRecord 51 = .ok (.iload_n 2, 1) := by decide +kernel
theorem dX11_measureRecord_52 : decode cX11_measureRecord 52 = .ok (.iload_n 3, 1) := by decide +kernel
theorem dX11_measureRecord_53 : decode cX11_measureRecord 53 = .ok (.iload 4, 2) := by decide +kernel
theorem dX11_measureRecord_55 : decode cX11_measureRecord 55 = .ok (.invokevirtual 207, 3) := by decide +kernel
theorem dX11_measureRecord_58 : decode cX11_measureRecord 58 = .ok (.lreturn, 1) := by decide +kernel
theorem dX11_loudestMicrophone_0 : decode cX11_loudestMicrophone 0 = .ok (.aload_n 0, 1) := by decide +kernel
theorem dX11_loudestMicrophone_1 : decode cX11_loudestMicrophone 1 = .ok (.iconst 0, 1) := by decide +kernel
theorem dX11_loudestMicrophone_2 : decode cX11_loudestMicrophone 2 = .ok (.putfield 49, 3) := by decide +kernel
theorem dX11_loudestMicrophone_5 : decode cX11_loudestMicrophone 5 = .ok (.iload_n 1, 1) := by decide +kernel
theorem dX11_loudestMicrophone_6 : decode cX11_loudestMicrophone 6 = .ok (.iload_n 2, 1) := by decide +kernel
theorem dX11_loudestMicrophone_7 : decode cX11_loudestMicrophone 7 = .ok (.invokestatic 200, 3) := by decide +kernel
theorem dX11_loudestMicrophone_10 : decode cX11_loudestMicrophone 10 = .ok (.ifCond .ne 9, 3) := by decide +kernel
theorem dX11_loudestMicrophone_13 : decode cX11_loudestMicrophone 13 = .ok (.aload_n 0, 1) := by decide +kernel
theorem dX11_loudestMicrophone_14 : decode cX11_loudestMicrophone 14 = .ok (.iconst 1, 1) := by decide +kernel
theorem dX11_loudestMicrophone_15 : decode cX11_loudestMicrophone 15 = .ok (.invokevirtual 64, 3) := by decide +kernel
theorem dX11_loudestMicrophone_18 : decode cX11_loudestMicrophone 18 = .ok (.ireturn, 1) := by decide +kernel
theorem dX11_loudestMicrophone_19 : decode cX11_loudestMicrophone 19 = .ok (.iconst (-1), 1) := by decide +kernel
theorem dX11_loudestMicrophone_20 : decode cX11_loudestMicrophone 20 = .ok (.istore_n 3, 1) := by decide +kernel
theorem dX11_loudestMicrophone_21 : decode cX11_loudestMicrophone 21 = .ok (.lconst 0, 1) := by decide +kernel
theorem dX11_loudestMicrophone_22 : decode cX11_loudestMicrophone 22 = .ok (.lstore 4, 2) := by decide +kernel
theorem dX11_loudestMicrophone_24 : decode cX11_loudestMicrophone 24 = .ok (.iconst 0, 1) := by decide +kernel
theorem dX11_loudestMicrophone_25 : decode cX11_loudestMicrophone 25 = .ok (.istore 6, 2) := by decide +kernel
theorem dX11_loudestMicrophone_27 : decode cX11_loudestMicrophone 27 = .ok (.iload 6, 2) := by decide +kernel
theorem dX11_loudestMicrophone_29 : decode cX11_loudestMicrophone 29 = .ok (.aload_n 0, 1) := by decide +kernel
theorem dX11_loudestMicrophone_30 : decode cX11_loudestMicrophone 30 = .ok (.getfield 7, 3) := by decide +kernel
theorem dX11_loudestMicrophone_33 : decode cX11_loudestMicrophone 33 = .ok (.bipush 8, 2) := by decide +kernel
theorem dX11_loudestMicrophone_35 : decode cX11_loudestMicrophone 35 = .ok (.iaload, 1) := by decide +kernel
theorem dX11_loudestMicrophone_36 : decode cX11_loudestMicrophone 36 = .ok (.if_icmp .ge 43, 3) := by decide +kernel
theorem dX11_loudestMicrophone_39 : decode cX11_loudestMicrophone 39 = .ok (.aload_n 0, 1) := by decide +kernel
theorem dX11_loudestMicrophone_40 : decode cX11_loudestMicrophone 40 = .ok (.iload 6, 2) := by decide +kernel
theorem dX11_loudestMicrophone_42 : decode cX11_loudestMicrophone 42 = .ok (.invokevirtual 204, 3) := by decide +kernel
theorem dX11_loudestMicrophone_45 : decode cX11_loudestMicrophone 45 = .ok (.aload_n 0, 1) := by decide +kernel
theorem dX11_loudestMicrophone_46 : decode cX11_loudestMicrophone 46 = .ok (.iload_n 1, 1) := by decide +kernel
theorem dX11_loudestMicrophone_47 : decode cX11_loudestMicrophone 47 = .ok (.iload_n 2, 1) := by decide +kernel
theorem dX11_loudestMicrophone_48 : decode cX11_loudestMicrophone 48 = .ok (.invokevirtual 184, 3) := by decide +kernel
theorem dX11_loudestMicrophone_51 : decode cX11_loudestMicrophone 51 = .ok (.lstore 7, 2) := by decide +kernel
theorem dX11_loudestMicrophone_53 : decode cX11_loudestMicrophone 53 = .ok (.iload_n 3, 1) := by decide +kernel
theorem dX11_loudestMicrophone_54 : decode cX11_loudestMicrophone 54 = .ok (.iconst (-1), 1) := by decide +kernel
theorem dX11_loudestMicrophone_55 : decode cX11_loudestMicrophone 55 = .ok (.if_icmp .eq 11, 3) := by decide +kernel
theorem dX11_loudestMicrophone_58 : decode cX11_loudestMicrophone 58 = .ok (.lload 7, 2) := by decide +kernel
theorem dX11_loudestMicrophone_60 : decode cX11_loudestMicrophone 60 = .ok (.lload 4, 2) := by decide +kernel
theorem dX11_loudestMicrophone_62 : decode cX11_loudestMicrophone 62 = .ok (.lcmp, 1) := by decide +kernel
theorem dX11_loudestMicrophone_63 : decode cX11_loudestMicrophone 63 = .ok (.ifCond .le 10, 3) := by decide +kernel
theorem dX11_loudestMicrophone_66 : decode cX11_loudestMicrophone 66 = .ok (.iload 6, 2) := by decide +kernel
theorem dX11_loudestMicrophone_68 : decode cX11_loudestMicrophone 68 = .ok (.istore_n 3, 1) := by decide +kernel
theorem dX11_loudestMicrophone_69 : decode cX11_loudestMicrophone 69 = .ok (.lload 7, 2) := by decide +kernel
theorem dX11_loudestMicrophone_71 : decode cX11_loudestMicrophone 71 = .ok (.lstore 4, 2) := by decide +kernel
theorem dX11_loudestMicrophone_73 : decode cX11_loudestMicrophone 73 = .ok (.iinc 6 1, 3) := by decide +kernel
theorem dX11_loudestMicrophone_76 : decode cX11_loudestMicrophone 76 = .ok (.goto (-49), 3) := by decide +kernel
theorem dX11_loudestMicrophone_79 : decode cX11_loudestMicrophone 79 = .ok (.iload_n 3, 1) := by decide +kernel
theorem dX11_loudestMicrophone_80 : decode cX11_loudestMicrophone 80 = .ok (.ireturn, 1) := by decide +kernel
theorem dX11_loudestWindow_0 : decode cX11_loudestWindow 0 = .ok (.aload_n 0, 1) := by decide +kernel
theorem dX11_loudestWindow_1 : decode cX11_loudestWindow 1 = .ok (.iconst 0, 1) := by decide +kernel
theorem dX11_loudestWindow_2 : decode cX11_loudestWindow 2 = .ok (.putfield 49, 3) := by decide +kernel
theorem dX11_loudestWindow_5 : decode cX11_loudestWindow 5 = .ok (.aload_n 0, 1) := by decide +kernel
theorem dX11_loudestWindow_6 : decode cX11_loudestWindow 6 = .ok (.iload_n 1, 1) := by decide +kernel
theorem dX11_loudestWindow_7 : decode cX11_loudestWindow 7 = .ok (.invokevirtual 106, 3) := by decide +kernel
theorem dX11_loudestWindow_10 : decode cX11_loudestWindow 10 = .ok (.ifCond .ne 9, 3) := by decide +kernel
theorem dX11_loudestWindow_13 : decode cX11_loudestWindow 13 = .ok (.aload_n 0, 1) := by decide +kernel
theorem dX11_loudestWindow_14 : decode cX11_loudestWindow 14 = .ok (.iconst 1, 1) := by decide +kernel
theorem dX11_loudestWindow_15 : decode cX11_loudestWindow 15 = .ok (.invokevirtual 64, 3) := by decide +kernel
theorem dX11_loudestWindow_18 : decode cX11_loudestWindow 18 = .ok (.ireturn, 1) := by decide +kernel
theorem dX11_loudestWindow_19 : decode cX11_loudestWindow 19 = .ok (.iload_n 2, 1) := by decide +kernel
theorem dX11_loudestWindow_20 : decode cX11_loudestWindow 20 = .ok (.iconst 1, 1) := by decide +kernel
theorem dX11_loudestWindow_21 : decode cX11_loudestWindow 21 = .ok (.sipush 256, 3) := by decide +kernel
theorem dX11_loudestWindow_24 : decode cX11_loudestWindow 24 = .ok (.invokestatic 52, 3) := by decide +kernel
theorem dX11_loudestWindow_27 : decode cX11_loudestWindow 27 = .ok (.ifCond .ne 9, 3) := by decide +kernel
theorem dX11_loudestWindow_30 : decode cX11_loudestWindow 30 = .ok (.aload_n 0, 1) := by decide +kernel
theorem dX11_loudestWindow_31 : decode cX11_loudestWindow 31 = .ok (.iconst 2, 1) := by decide +kernel
theorem dX11_loudestWindow_32 : decode cX11_loudestWindow 32 = .ok (.invokevirtual 64, 3) := by decide +kernel
theorem dX11_loudestWindow_35 : decode cX11_loudestWindow 35 = .ok (.ireturn, 1) := by decide +kernel
theorem dX11_loudestWindow_36 : decode cX11_loudestWindow 36 = .ok (.aload_n 0, 1) := by decide +kernel
theorem dX11_loudestWindow_37 : decode cX11_loudestWindow 37 = .ok (.iload_n 1, 1) := by decide +kernel
theorem dX11_loudestWindow_38 : decode cX11_loudestWindow 38 = .ok (.invokevirtual 204, 3) := by decide +kernel
theorem dX11_loudestWindow_41 : decode cX11_loudestWindow 41 = .ok (.iconst 0, 1) := by decide +kernel
theorem dX11_loudestWindow_42 : decode cX11_loudestWindow 42 = .ok (.istore_n 3, 1) := by decide +kernel
theorem dX11_loudestWindow_43 : decode cX11_loudestWindow 43 = .ok (.ldc2_w 211, 3) := by decide +kernel
theorem dX11_loudestWindow_46 : decode cX11_loudestWindow 46 = .ok (.lstore 4, 2) := by decide +kernel
theorem dX11_loudestWindow_48 : decode cX11_loudestWindow 48 = .ok (.iconst 0, 1) := by decide +kernel
theorem dX11_loudestWindow_49 : decode cX11_loudestWindow 49 = .ok (.istore 6, 2) := by decide +kernel
theorem dX11_loudestWindow_51 : decode cX11_loudestWindow 51 = .ok (.iload 6, 2) := by decide +kernel
theorem dX11_loudestWindow_53 : decode cX11_loudestWindow 53 = .ok (.iload_n 2, 1) := by decide +kernel
theorem dX11_loudestWindow_54 : decode cX11_loudestWindow 54 = .ok (.iadd, 1) := by decide +kernel
theorem dX11_loudestWindow_55 : decode cX11_loudestWindow 55 = .ok (.sipush 256, 3) := by decide +kernel
theorem dX11_loudestWindow_58 : decode cX11_loudestWindow 58 = .ok (.if_icmp .gt 38, 3) := by decide +kernel
theorem dX11_loudestWindow_61 : decode cX11_loudestWindow 61 = .ok (.aload_n 0, 1) := by decide +kernel
theorem dX11_loudestWindow_62 : decode cX11_loudestWindow 62 = .ok (.iload 6, 2) := by decide +kernel
theorem dX11_loudestWindow_64 : decode cX11_loudestWindow 64 = .ok (.iload 6, 2) := by decide +kernel
theorem dX11_loudestWindow_66 : decode cX11_loudestWindow 66 = .ok (.iload_n 2, 1) := by decide +kernel
theorem dX11_loudestWindow_67 : decode cX11_loudestWindow 67 = .ok (.iadd, 1) := by decide +kernel
theorem dX11_loudestWindow_68 : decode cX11_loudestWindow 68 = .ok (.iconst 1, 1) := by decide +kernel
theorem dX11_loudestWindow_69 : decode cX11_loudestWindow 69 = .ok (.isub, 1) := by decide +kernel
theorem dX11_loudestWindow_70 : decode cX11_loudestWindow 70 = .ok (.invokevirtual 184, 3) := by decide +kernel
theorem dX11_loudestWindow_73 : decode cX11_loudestWindow 73 = .ok (.lstore 7, 2) := by decide +kernel
theorem dX11_loudestWindow_75 : decode cX11_loudestWindow 75 = .ok (.lload 7, 2) := by decide +kernel
theorem dX11_loudestWindow_77 : decode cX11_loudestWindow 77 = .ok (.lload 4, 2) := by decide +kernel
theorem dX11_loudestWindow_79 : decode cX11_loudestWindow 79 = .ok (.lcmp, 1) := by decide +kernel
theorem dX11_loudestWindow_80 : decode cX11_loudestWindow 80 = .ok (.ifCond .le 10, 3) := by decide +kernel
theorem dX11_loudestWindow_83 : decode cX11_loudestWindow 83 = .ok (.iload 6, 2) := by decide +kernel
theorem dX11_loudestWindow_85 : decode cX11_loudestWindow 85 = .ok (.istore_n 3, 1) := by decide +kernel
theorem dX11_loudestWindow_86 : decode cX11_loudestWindow 86 = .ok (.lload 7, 2) := by decide +kernel
theorem dX11_loudestWindow_88 : decode cX11_loudestWindow 88 = .ok (.lstore 4, 2) := by decide +kernel
theorem dX11_loudestWindow_90 : decode cX11_loudestWindow 90 = .ok (.iinc 6 1, 3) := by decide +kernel
theorem dX11_loudestWindow_93 : decode cX11_loudestWindow 93 = .ok (.goto (-42), 3) := by decide +kernel
theorem dX11_loudestWindow_96 : decode cX11_loudestWindow 96 = .ok (.iload_n 3, 1) := by decide +kernel
theorem dX11_loudestWindow_97 : decode cX11_loudestWindow 97 = .ok (.ireturn, 1) := by decide +kernel
theorem dX11_correlationOf_0 : decode cX11_correlationOf 0 = .ok (.lconst 0, 1) := by decide +kernel
theorem dX11_correlationOf_1 : decode cX11_correlationOf 1 = .ok (.lstore 4, 2) := by decide +kernel
theorem dX11_correlationOf_3 : decode cX11_correlationOf 3 = .ok (.iconst 0, 1) := by decide +kernel
theorem dX11_correlationOf_4 : decode cX11_correlationOf 4 = .ok (.istore 6, 2) := by decide +kernel
theorem dX11_correlationOf_6 : decode cX11_correlationOf 6 = .ok (.iload 6, 2) := by decide +kernel
theorem dX11_correlationOf_8 : decode cX11_correlationOf 8 = .ok (.sipush 256, 3) := by decide +kernel
theorem dX11_correlationOf_11 : decode cX11_correlationOf 11 = .ok (.if_icmp .ge 47, 3) := by decide +kernel
theorem dX11_correlationOf_14 : decode cX11_correlationOf 14 = .ok (.lload 4, 2) := by decide +kernel
theorem dX11_correlationOf_16 : decode cX11_correlationOf 16 = .ok (.iload 6, 2) := by decide +kernel
theorem dX11_correlationOf_18 : decode cX11_correlationOf 18 = .ok (.iload_n 3, 1) := by decide +kernel
theorem dX11_correlationOf_19 : decode cX11_correlationOf 19 = .ok (.iadd, 1) := by decide +kernel
theorem dX11_correlationOf_20 : decode cX11_correlationOf 20 = .ok (.invokestatic 56, 3) := by decide +kernel
theorem dX11_correlationOf_23 : decode cX11_correlationOf 23 = .ok (.ifCond .eq 25, 3) := by decide +kernel
theorem dX11_correlationOf_26 : decode cX11_correlationOf 26 = .ok (.aload_n 0, 1) := by decide +kernel
theorem dX11_correlationOf_27 : decode cX11_correlationOf 27 = .ok (.iload_n 1, 1) := by decide +kernel
theorem dX11_correlationOf_28 : decode cX11_correlationOf 28 = .ok (.iload 6, 2) := by decide +kernel
theorem dX11_correlationOf_30 : decode cX11_correlationOf 30 = .ok (.invokevirtual 175, 3) := by decide +kernel
theorem dX11_correlationOf_33 : decode cX11_correlationOf 33 = .ok (.i2l, 1) := by decide +kernel
theorem dX11_correlationOf_34 : decode cX11_correlationOf 34 = .ok (.aload_n 0, 1) := by decide +kernel
theorem dX11_correlationOf_35 : decode cX11_correlationOf 35 = .ok (.iload_n 2, 1) := by decide +kernel
theorem dX11_correlationOf_36 : decode cX11_correlationOf 36 = .ok (.iload 6, 2) := by decide +kernel
theorem dX11_correlationOf_38 : decode cX11_correlationOf 38 = .ok (.iload_n 3, 1) := by decide +kernel
theorem dX11_correlationOf_39 : decode cX11_correlationOf 39 = .ok (.iadd, 1) := by decide +kernel
theorem dX11_correlationOf_40 : decode cX11_correlationOf 40 = .ok (.invokevirtual 175, 3) := by decide +kernel
theorem dX11_correlationOf_43 : decode cX11_correlationOf 43 = .ok (.i2l, 1) := by decide +kernel
theorem dX11_correlationOf_44 : decode cX11_correlationOf 44 = .ok (.lmul, 1) := by decide +kernel
theorem dX11_correlationOf_45 : decode cX11_correlationOf 45 = .ok (.goto 4, 3) := by decide +kernel
theorem dX11_correlationOf_48 : decode cX11_correlationOf 48 = .ok (.lconst 0, 1) := by decide +kernel
theorem dX11_correlationOf_49 : decode cX11_correlationOf 49 = .ok (.ladd, 1) := by decide +kernel
theorem dX11_correlationOf_50 : decode cX11_correlationOf 50 = .ok (.lstore 4, 2) := by decide +kernel
theorem dX11_correlationOf_52 : decode cX11_correlationOf 52 = .ok (.iinc 6 1, 3) := by decide +kernel
theorem dX11_correlationOf_55 : decode cX11_correlationOf 55 = .ok (.goto (-49), 3) := by decide +kernel
theorem dX11_correlationOf_58 : decode cX11_correlationOf 58 = .ok (.lload 4, 2) := by decide +kernel
theorem dX11_correlationOf_60 : decode cX11_correlationOf 60 = .ok (.lreturn, 1) := by decide +kernel
theorem dX11_correlation_0 : decode cX11_correlation 0 = .ok (.aload_n 0, 1) := by decide +kernel
theorem dX11_correlation_1 : decode cX11_correlation 1 = .ok (.iconst 0, 1) := by decide +kernel
theorem dX11_correlation_2 : decode cX11_correlation 2 = .ok (.putfield 49, 3) := by decide +kernel
theorem dX11_correlation_5 : decode cX11_correlation 5 = .ok (.aload_n 0, 1) := by decide +kernel
theorem dX11_correlation_6 : decode cX11_correlation 6 = .ok (.iload_n 1, 1) := by decide +kernel
theorem dX11_correlation_7 : decode cX11_correlation 7 = .ok (.invokevirtual 106, 3) := by decide +kernel
theorem dX11_correlation_10 : decode cX11_correlation 10 = .ok (.ifCond .eq 11, 3) := by decide +kernel
theorem dX11_correlation_13 : decode cX11_correlation 13 = .ok (.aload_n 0, 1) := by decide +kernel
theorem dX11_correlation_14 : decode cX11_correlation 14 = .ok (.iload_n 2, 1) := by decide +kernel
theorem dX11_correlation_15 : decode cX11_correlation 15 = .ok (.invokevirtual 106, 3) := by decide +kernel
theorem dX11_correlation_18 : decode cX11_correlation 18 = .ok (.ifCond .ne 10, 3) := by decide +kernel
theorem dX11_correlation_21 : decode cX11_correlation 21 = .ok (.aload_n 0, 1) := by decide +kernel
theorem dX11_correlation_22 : decode cX11_correlation 22 = .ok (.iconst 1, 1) := by decide +kernel
theorem dX11_correlation_23 : decode cX11_correlation 23 = .ok (.invokevirtual 64, 3) := by decide +kernel
theorem dX11_correlation_26 : decode cX11_correlation 26 = .ok (.i2l, 1) := by decide +kernel
theorem dX11_correlation_27 : decode cX11_correlation 27 = .ok (.lreturn, 1) := by decide +kernel
theorem dX11_correlation_28 : decode cX11_correlation 28 = .ok (.iload_n 3, 1) := by decide +kernel
theorem dX11_correlation_29 : decode cX11_correlation 29 = .ok (.sipush (-255), 3) := by decide +kernel
theorem dX11_correlation_32 : decode cX11_correlation 32 = .ok (.sipush 255, 3) := by decide +kernel
theorem dX11_correlation_35 : decode cX11_correlation 35 = .ok (.invokestatic 52, 3) := by decide +kernel
theorem dX11_correlation_38 : decode cX11_correlation 38 = .ok (.ifCond .eq 13, 3) := by decide +kernel
theorem dX11_correlation_41 : decode cX11_correlation 41 = .ok (.aload_n 0, 1) := by decide +kernel
theorem dX11_correlation_42 : decode cX11_correlation 42 = .ok (.iload_n 1, 1) := by decide +kernel
theorem dX11_correlation_43 : decode cX11_correlation 43 = .ok (.iload_n 2, 1) := by decide +kernel
theorem dX11_correlation_44 : decode cX11_correlation 44 = .ok (.iload_n 3, 1) := by decide +kernel
theorem dX11_correlation_45 : decode cX11_correlation 45 = .ok (.invokevirtual 213, 3) := by decide +kernel
theorem dX11_correlation_48 : decode cX11_correlation 48 = .ok (.goto 9, 3) := by decide +kernel
theorem dX11_correlation_51 : decode cX11_correlation 51 = .ok (.aload_n 0, 1) := by decide +kernel
theorem dX11_correlation_52 : decode cX11_correlation 52 = .ok (.iconst 2, 1) := by decide +kernel
theorem dX11_correlation_53 : decode cX11_correlation 53 = .ok (.invokevirtual 64, 3) := by decide +kernel
theorem dX11_correlation_56 : decode cX11_correlation 56 = .ok (.i2l, 1) := by decide +kernel
theorem dX11_correlation_57 : decode cX11_correlation 57 = .ok (.lreturn, 1) := by decide +kernel
theorem dX11_bestLag_0 : decode cX11_bestLag 0 = .ok (.aload_n 0, 1) := by decide +kernel
theorem dX11_bestLag_1 : decode cX11_bestLag 1 = .ok (.iconst 0, 1) := by decide +kernel
theorem dX11_bestLag_2 : decode cX11_bestLag 2 = .ok (.putfield 49, 3) := by decide +kernel
theorem dX11_bestLag_5 : decode cX11_bestLag 5 = .ok (.aload_n 0, 1) := by decide +kernel
theorem dX11_bestLag_6 : decode cX11_bestLag 6 = .ok (.iload_n 1, 1) := by decide +kernel
theorem dX11_bestLag_7 : decode cX11_bestLag 7 = .ok (.invokevirtual 106, 3) := by decide +kernel
theorem dX11_bestLag_10 : decode cX11_bestLag 10 = .ok (.ifCond .eq 11, 3) := by decide +kernel
theorem dX11_bestLag_13 : decode cX11_bestLag 13 = .ok (.aload_n 0, 1) := by decide +kernel
theorem dX11_bestLag_14 : decode cX11_bestLag 14 = .ok (.iload_n 2, 1) := by decide +kernel
theorem dX11_bestLag_15 : decode cX11_bestLag 15 = .ok (.invokevirtual 106, 3) := by decide +kernel
theorem dX11_bestLag_18 : decode cX11_bestLag 18 = .ok (.ifCond .ne 9, 3) := by decide +kernel
theorem dX11_bestLag_21 : decode cX11_bestLag 21 = .ok (.aload_n 0, 1) := by decide +kernel
theorem dX11_bestLag_22 : decode cX11_bestLag 22 = .ok (.iconst 1, 1) := by decide +kernel
theorem dX11_bestLag_23 : decode cX11_bestLag 23 = .ok (.invokevirtual 64, 3) := by decide +kernel
theorem dX11_bestLag_26 : decode cX11_bestLag 26 = .ok (.ireturn, 1) := by decide +kernel
theorem dX11_bestLag_27 : decode cX11_bestLag 27 = .ok (.iload_n 3, 1) := by decide +kernel
theorem dX11_bestLag_28 : decode cX11_bestLag 28 = .ok (.invokestatic 56, 3) := by decide +kernel
theorem dX11_bestLag_31 : decode cX11_bestLag 31 = .ok (.ifCond .ne 9, 3) := by decide +kernel
theorem dX11_bestLag_34 : decode cX11_bestLag 34 = .ok (.aload_n 0, 1) := by decide +kernel
theorem dX11_bestLag_35 : decode cX11_bestLag 35 = .ok (.iconst 2, 1) := by decide +kernel
theorem dX11_bestLag_36 : decode cX11_bestLag 36 = .ok (.invokevirtual 64, 3) := by decide +kernel
theorem dX11_bestLag_39 : decode cX11_bestLag 39 = .ok (.ireturn, 1) := by decide +kernel
theorem dX11_bestLag_40 : decode cX11_bestLag 40 = .ok (.iconst 0, 1) := by decide +kernel
theorem dX11_bestLag_41 : decode cX11_bestLag 41 = .ok (.istore 4, 2) := by decide +kernel
theorem dX11_bestLag_43 : decode cX11_bestLag 43 = .ok (.aload_n 0, 1) := by decide +kernel
theorem dX11_bestLag_44 : decode cX11_bestLag 44 = .ok (.iload_n 1, 1) := by decide +kernel
theorem dX11_bestLag_45 : decode cX11_bestLag 45 = .ok (.iload_n 2, 1) := by decide +kernel
theorem dX11_bestLag_46 : decode cX11_bestLag 46 = .ok (.iconst 0, 1) := by decide +kernel
theorem dX11_bestLag_47 : decode cX11_bestLag 47 = .ok (.invokevirtual 213, 3) := by decide +kernel
theorem dX11_bestLag_50 : decode cX11_bestLag 50 = .ok (.lstore 5, 2) := by decide +kernel
theorem dX11_bestLag_52 : decode cX11_bestLag 52 = .ok (.iconst 1, 1) := by decide +kernel
theorem dX11_bestLag_53 : decode cX11_bestLag 53 = .ok (.istore 7, 2) := by decide +kernel
theorem dX11_bestLag_55 : decode cX11_bestLag 55 = .ok (.iload 7, 2) := by decide +kernel
theorem dX11_bestLag_57 : decode cX11_bestLag 57 = .ok (.iload_n 3, 1) := by decide +kernel
theorem dX11_bestLag_58 : decode cX11_bestLag 58 = .ok (.if_icmp .gt 59, 3) := by decide +kernel
theorem dX11_bestLag_61 : decode cX11_bestLag 61 = .ok (.iload 7, 2) := by decide +kernel
theorem dX11_bestLag_63 : decode cX11_bestLag 63 = .ok (.ineg, 1) := by decide +kernel
theorem dX11_bestLag_64 : decode cX11_bestLag 64 = .ok (.istore 8, 2) := by decide +kernel
theorem dX11_bestLag_66 : decode cX11_bestLag 66 = .ok (.iload 8, 2) := by decide +kernel
theorem dX11_bestLag_68 : decode cX11_bestLag 68 = .ok (.iload 7, 2) := by decide +kernel
theorem dX11_bestLag_70 : decode cX11_bestLag 70 = .ok (.if_icmp .gt 41, 3) := by decide +kernel
theorem dX11_bestLag_73 : decode cX11_bestLag 73 = .ok (.aload_n 0, 1) := by decide +kernel
theorem dX11_bestLag_74 : decode cX11_bestLag 74 = .ok (.iload_n 1, 1) := by decide +kernel
theorem dX11_bestLag_75 : decode cX11_bestLag 75 = .ok (.iload_n 2, 1) := by decide +kernel
theorem dX11_bestLag_76 : decode cX11_bestLag 76 = .ok (.iload 8, 2) := by decide +kernel
theorem dX11_bestLag_78 : decode cX11_bestLag 78 = .ok (.invokevirtual 213, 3) := by decide +kernel
theorem dX11_bestLag_81 : decode cX11_bestLag 81 = .ok (.lstore 9, 2) := by decide +kernel
theorem dX11_bestLag_83 : decode cX11_bestLag 83 = .ok (.lload 9, 2) := by decide +kernel
theorem dX11_bestLag_85 : decode cX11_bestLag 85 = .ok (.lload 5, 2) := by decide +kernel
theorem dX11_bestLag_87 : decode cX11_bestLag 87 = .ok (.lcmp, 1) := by decide +kernel
theorem dX11_bestLag_88 : decode cX11_bestLag 88 = .ok (.ifCond .le 11, 3) := by decide +kernel
theorem dX11_bestLag_91 : decode cX11_bestLag 91 = .ok (.iload 8, 2) := by decide +kernel
theorem dX11_bestLag_93 : decode cX11_bestLag 93 = .ok (.istore 4, 2) := by decide +kernel
theorem dX11_bestLag_95 : decode cX11_bestLag 95 = .ok (.lload 9, 2) := by decide +kernel
theorem dX11_bestLag_97 : decode cX11_bestLag 97 = .ok (.lstore 5, 2) := by decide +kernel
theorem dX11_bestLag_99 : decode cX11_bestLag 99 = .ok (.iload 8, 2) := by decide +kernel
theorem dX11_bestLag_101 : decode cX11_bestLag 101 = .ok (.iconst 2, 1) := by decide +kernel
theorem dX11_bestLag_102 : decode cX11_bestLag 102 = .ok (.iload 7, 2) := by decide +kernel
theorem dX11_bestLag_104 : decode cX11_bestLag 104 = .ok (.imul, 1) := by decide +kernel
theorem dX11_bestLag_105 : decode cX11_bestLag 105 = .ok (.iadd, 1) := by decide +kernel
theorem dX11_bestLag_106 : decode cX11_bestLag 106 = .ok (.istore 8, 2) := by decide +kernel
theorem dX11_bestLag_108 : decode cX11_bestLag 108 = .ok (.goto (-42), 3) := by decide +kernel
theorem dX11_bestLag_111 : decode cX11_bestLag 111 = .ok (.iinc 7 1, 3) := by decide +kernel
theorem dX11_bestLag_114 : decode cX11_bestLag 114 = .ok (.goto (-59), 3) := by decide +kernel
theorem dX11_bestLag_117 : decode cX11_bestLag 117 = .ok (.iload 4, 2) := by decide +kernel
theorem dX11_bestLag_119 : decode cX11_bestLag 119 = .ok (.ireturn, 1) := by decide +kernel
theorem dX11_setFocus_0 : decode cX11_setFocus 0 = .ok (.aload_n 0, 1) := by decide +kernel
theorem dX11_setFocus_1 : decode cX11_setFocus 1 = .ok (.getfield 7, 3) := by decide +kernel
theorem dX11_setFocus_4 : decode cX11_setFocus 4 = .ok (.bipush 10, 2) := by decide +kernel
theorem dX11_setFocus_6 : decode cX11_setFocus 6 = .ok (.iload_n 1, 1) := by decide +kernel
theorem dX11_setFocus_7 : decode cX11_setFocus 7 = .ok (.iastore, 1) := by decide +kernel
theorem dX11_setFocus_8 : decode cX11_setFocus 8 = .ok (.aload_n 0, 1) := by decide +kernel
theorem dX11_setFocus_9 : decode cX11_setFocus 9 = .ok (.getfield 7, 3) := by decide +kernel
theorem dX11_setFocus_12 : decode cX11_setFocus 12 = .ok (.bipush 11, 2) := by decide +kernel
theorem dX11_setFocus_14 : decode cX11_setFocus 14 = .ok (.iload_n 2, 1) := by decide +kernel
theorem dX11_setFocus_15 : decode cX11_setFocus 15 = .ok (.iastore, 1) := by decide +kernel
theorem dX11_setFocus_16 : decode cX11_setFocus 16 = .ok (.aload_n 0, 1) := by decide +kernel
theorem dX11_setFocus_17 : decode cX11_setFocus 17 = .ok (.getfield 7, 3) := by decide +kernel
theorem dX11_setFocus_20 : decode cX11_setFocus 20 = .ok (.bipush 12, 2) := by decide +kernel
theorem dX11_setFocus_22 : decode cX11_setFocus 22 = .ok (.iload_n 3, 1) := by decide +kernel
theorem dX11_setFocus_23 : decode cX11_setFocus 23 = .ok (.iastore, 1) := by decide +kernel
theorem dX11_setFocus_24 : decode cX11_setFocus 24 = .ok (.aload_n 0, 1) := by decide +kernel
theorem dX11_setFocus_25 : decode cX11_setFocus 25 = .ok (.getfield 7, 3) := by decide +kernel
theorem dX11_setFocus_28 : decode cX11_setFocus 28 = .ok (.bipush 13, 2) := by decide +kernel
theorem dX11_setFocus_30 : decode cX11_setFocus 30 = .ok (.iload 4, 2) := by decide +kernel
theorem dX11_setFocus_32 : decode cX11_setFocus 32 = .ok (.iastore, 1) := by decide +kernel
theorem dX11_setFocus_33 : decode cX11_setFocus 33 = .ok (.aload_n 0, 1) := by decide +kernel
theorem dX11_setFocus_34 : decode cX11_setFocus 34 = .ok (.getfield 7, 3) := by decide +kernel
theorem dX11_setFocus_37 : decode cX11_setFocus 37 = .ok (.bipush 14, 2) := by decide +kernel
theorem dX11_setFocus_39 : decode cX11_setFocus 39 = .ok (.iload 5, 2) := by decide +kernel
theorem dX11_setFocus_41 : decode cX11_setFocus 41 = .ok (.iastore, 1) := by decide +kernel
theorem dX11_setFocus_42 : decode cX11_setFocus 42 = .ok (.return_, 1) := by decide +kernel
theorem dX11_focusOnVehicle_0 : decode cX11_focusOnVehicle 0 = .ok (.aload_n 0, 1) := by decide +kernel
theorem dX11_focusOnVehicle_1 : decode cX11_focusOnVehicle 1 = .ok (.aload_n 0, 1) := by decide +kernel
theorem dX11_focusOnVehicle_2 : decode cX11_focusOnVehicle 2 = .ok (.iload_n 1, 1) := by decide +kernel
theorem dX11_focusOnVehicle_3 : decode cX11_focusOnVehicle 3 = .ok (.invokevirtual 75, 3) := by decide +kernel
theorem dX11_focusOnVehicle_6 : decode cX11_focusOnVehicle 6 = .ok (.ifCond .ne 7, 3) := by decide +kernel
theorem dX11_focusOnVehicle_9 : decode cX11_focusOnVehicle 9 = .ok (.iconst 1, 1) := by decide +kernel
theorem dX11_focusOnVehicle_10 : decode cX11_focusOnVehicle 10 = .ok (.goto 22, 3) := by decide +kernel
theorem dX11_focusOnVehicle_13 : decode cX11_focusOnVehicle 13 = .ok (.iload_n 2, 1) := by decide +kernel
theorem dX11_focusOnVehicle_14 : decode cX11_focusOnVehicle 14 = .ok (.invokestatic 78, 3) := by decide +kernel
theorem dX11_focusOnVehicle_17 : decode cX11_focusOnVehicle 17 = .ok (.ifCond .eq 10, 3) := by decide +kernel
theorem dX11_focusOnVehicle_20 : decode cX11_focusOnVehicle 20 = .ok (.iload_n 3, 1) := by decide +kernel
theorem dX11_focusOnVehicle_21 : decode cX11_focusOnVehicle 21 = .ok (.invokestatic 81, 3) := by decide +kernel
theorem dX11_focusOnVehicle_24 : decode cX11_focusOnVehicle 24 = .ok (.ifCond .ne 7, 3) := by decide +kernel
theorem dX11_focusOnVehicle_27 : decode cX11_focusOnVehicle 27 = .ok (.iconst 2, 1) := by decide +kernel
theorem dX11_focusOnVehicle_28 : decode cX11_focusOnVehicle 28 = .ok (.goto 4, 3) := by decide +kernel
theorem dX11_focusOnVehicle_31 : decode cX11_focusOnVehicle 31 = .ok (.iconst 0, 1) := by decide +kernel
theorem dX11_focusOnVehicle_32 : decode cX11_focusOnVehicle 32 = .ok (.putfield 49, 3) := by decide +kernel
theorem dX11_focusOnVehicle_35 : decode cX11_focusOnVehicle 35 = .ok (.aload_n 0, 1) := by decide +kernel
theorem dX11_focusOnVehicle_36 : decode cX11_focusOnVehicle 36 = .ok (.getfield 49, 3) := by decide +kernel
theorem dX11_focusOnVehicle_39 : decode cX11_focusOnVehicle 39 = .ok (.ifCond .ne 12, 3) := by decide +kernel
theorem dX11_focusOnVehicle_42 : decode cX11_focusOnVehicle 42 = .ok (.aload_n 0, 1) := by decide +kernel
theorem dX11_focusOnVehicle_43 : decode cX11_focusOnVehicle 43 = .ok (.iconst 0, 1) := by decide +kernel
theorem dX11_focusOnVehicle_44 : decode cX11_focusOnVehicle 44 = .ok (.iload_n 1, 1) := by decide +kernel
theorem dX11_focusOnVehicle_45 : decode cX11_focusOnVehicle 45 = .ok (.iload_n 2, 1) := by decide +kernel
theorem dX11_focusOnVehicle_46 : decode cX11_focusOnVehicle 46 = .ok (.iconst 0, 1) := by decide +kernel
theorem dX11_focusOnVehicle_47 : decode cX11_focusOnVehicle 47 = .ok (.iload_n 3, 1) := by decide +kernel
theorem dX11_focusOnVehicle_48 : decode cX11_focusOnVehicle 48 = .ok (.invokevirtual 216, 3) := by decide +kernel
theorem dX11_focusOnVehicle_51 : decode cX11_focusOnVehicle 51 = .ok (.return_, 1) := by decide +kernel
theorem dX11_focusOnPlace_0 : decode cX11_focusOnPlace 0 = .ok (.aload_n 0, 1) := by decide +kernel
theorem dX11_focusOnPlace_1 : decode cX11_focusOnPlace 1 = .ok (.iload_n 1, 1) := by decide +kernel
theorem dX11_focusOnPlace_2 : decode cX11_focusOnPlace 2 = .ok (.iconst 0, 1) := by decide +kernel
theorem dX11_focusOnPlace_3 : decode cX11_focusOnPlace 3 = .ok (.iload_n 2, 1) := by decide +kernel
theorem dX11_focusOnPlace_4 : decode cX11_focusOnPlace 4 = .ok (.invokestatic 68, 3) := by decide +kernel
theorem dX11_focusOnPlace_7 : decode cX11_focusOnPlace 7 = .ok (.ifCond .eq 14, 3) := by decide +kernel
theorem dX11_focusOnPlace_10 : decode cX11_focusOnPlace 10 = .ok (.iload_n 3, 1) := by decide +kernel
theorem dX11_focusOnPlace_11 : decode cX11_focusOnPlace 11 = .ok (.invokestatic 81, 3) := by decide +kernel
theorem dX11_focusOnPlace_14 : decode cX11_focusOnPlace 14 = .ok (.ifCond .eq 7, 3) := by decide +kernel
theorem dX11_focusOnPlace_17 : decode cX11_focusOnPlace 17 = .ok (.iconst 0, 1) := by decide +kernel
theorem dX11_focusOnPlace_18 : decode cX11_focusOnPlace 18 = .ok (.goto 4, 3) := by decide +kernel
theorem dX11_focusOnPlace_21 : decode cX11_focusOnPlace 21 = .ok (.iconst 1, 1) := by decide +kernel
theorem dX11_focusOnPlace_22 : decode cX11_focusOnPlace 22 = .ok (.putfield 49, 3) := by decide +kernel
theorem dX11_focusOnPlace_25 : decode cX11_focusOnPlace 25 = .ok (.aload_n 0, 1) := by decide +kernel
theorem dX11_focusOnPlace_26 : decode cX11_focusOnPlace 26 = .ok (.getfield 49, 3) := by decide +kernel
theorem dX11_focusOnPlace_29 : decode cX11_focusOnPlace 29 = .ok (.ifCond .ne 12, 3) := by decide +kernel
theorem dX11_focusOnPlace_32 : decode cX11_focusOnPlace 32 = .ok (.aload_n 0, 1) := by decide +kernel
theorem dX11_focusOnPlace_33 : decode cX11_focusOnPlace 33 = .ok (.iconst 1, 1) := by decide +kernel
theorem dX11_focusOnPlace_34 : decode cX11_focusOnPlace 34 = .ok (.iconst 0, 1) := by decide +kernel
theorem dX11_focusOnPlace_35 : decode cX11_focusOnPlace 35 = .ok (.iload_n 1, 1) := by decide +kernel
theorem dX11_focusOnPlace_36 : decode cX11_focusOnPlace 36 = .ok (.iload_n 2, 1) := by decide +kernel
theorem dX11_focusOnPlace_37 : decode cX11_focusOnPlace 37 = .ok (.iload_n 3, 1) := by decide +kernel
theorem dX11_focusOnPlace_38 : decode cX11_focusOnPlace 38 = .ok (.invokevirtual 216, 3) := by decide +kernel
theorem dX11_focusOnPlace_41 : decode cX11_focusOnPlace 41 = .ok (.return_, 1) := by decide +kernel
theorem dX11_focusOnDirection_0 : decode cX11_focusOnDirection 0 = .ok (.aload_n 0, 1) := by decide +kernel
theorem dX11_focusOnDirection_1 : decode cX11_focusOnDirection 1 = .ok (.iload_n 1, 1) := by decide +kernel
theorem dX11_focusOnDirection_2 : decode cX11_focusOnDirection 2 = .ok (.bipush (-100), 2) := by decide +kernel
theorem dX11_focusOnDirection_4 : decode cX11_focusOnDirection 4 = .ok (.bipush 100, 2) := by decide +kernel
theorem dX11_focusOnDirection_6 : decode cX11_focusOnDirection 6 = .ok (.invokestatic 52, 3) := by decide +kernel
theorem dX11_focusOnDirection_9 : decode cX11_focusOnDirection 9 = .ok (.ifCond .eq 7, 3) := by decide +kernel
theorem dX11_focusOnDirection_12 : decode cX11_focusOnDirection 12 = .ok (.iconst 0, 1) := by decide +kernel
theorem dX11_focusOnDirection_13 : decode cX11_focusOnDirection 13 = .ok (.goto 4, 3) := by decide +kernel
theorem dX11_focusOnDirection_16 : decode cX11_focusOnDirection 16 = .ok (.iconst 1, 1) := by decide +kernel
theorem dX11_focusOnDirection_17 : decode cX11_focusOnDirection 17 = .ok (.putfield 49, 3) := by decide +kernel
theorem dX11_focusOnDirection_20 : decode cX11_focusOnDirection 20 = .ok (.aload_n 0, 1) := by decide +kernel
theorem dX11_focusOnDirection_21 : decode cX11_focusOnDirection 21 = .ok (.getfield 49, 3) := by decide +kernel
theorem dX11_focusOnDirection_24 : decode cX11_focusOnDirection 24 = .ok (.ifCond .ne 12, 3) := by decide +kernel
theorem dX11_focusOnDirection_27 : decode cX11_focusOnDirection 27 = .ok (.aload_n 0, 1) := by decide +kernel
theorem dX11_focusOnDirection_28 : decode cX11_focusOnDirection 28 = .ok (.iconst 2, 1) := by decide +kernel
theorem dX11_focusOnDirection_29 : decode cX11_focusOnDirection 29 = .ok (.iconst 0, 1) := by decide +kernel
theorem dX11_focusOnDirection_30 : decode cX11_focusOnDirection 30 = .ok (.iload_n 1, 1) := by decide +kernel
theorem dX11_focusOnDirection_31 : decode cX11_focusOnDirection 31 = .ok (.iconst 0, 1) := by decide +kernel
theorem dX11_focusOnDirection_32 : decode cX11_focusOnDirection 32 = .ok (.iconst 0, 1) := by decide +kernel
theorem dX11_focusOnDirection_33 : decode cX11_focusOnDirection 33 = .ok (.invokevirtual 216, 3) := by decide +kernel
theorem dX11_focusOnDirection_36 : decode cX11_focusOnDirection 36 = .ok (.return_, 1) := by decide +kernel
theorem dX11_setCut_0 : decode cX11_setCut 0 = .ok (.aload_n 0, 1) := by decide +kernel
theorem dX11_setCut_1 : decode cX11_setCut 1 = .ok (.iconst 0, 1) := by decide +kernel
theorem dX11_setCut_2 : decode cX11_setCut 2 = .ok (.putfield 49, 3) := by decide +kernel
theorem dX11_setCut_5 : decode cX11_setCut 5 = .ok (.aload_n 0, 1) := by decide +kernel
theorem dX11_setCut_6 : decode cX11_setCut 6 = .ok (.iconst 5, 1) := by decide +kernel
theorem dX11_setCut_7 : decode cX11_setCut 7 = .ok (.iload_n 1, 1) := by decide +kernel
theorem dX11_setCut_8 : decode cX11_setCut 8 = .ok (.ifCond .eq 7, 3) := by decide +kernel
theorem dX11_setCut_11 : decode cX11_setCut 11 = .ok (.iconst 1, 1) := by decide +kernel
theorem dX11_setCut_12 : decode cX11_setCut 12 = .ok (.goto 4, 3) := by decide +kernel
theorem dX11_setCut_15 : decode cX11_setCut 15 = .ok (.iconst 0, 1) := by decide +kernel
theorem dX11_setCut_16 : decode cX11_setCut 16 = .ok (.invokevirtual 60, 3) := by decide +kernel
theorem dX11_setCut_19 : decode cX11_setCut 19 = .ok (.iconst 1, 1) := by decide +kernel
theorem dX11_setCut_20 : decode cX11_setCut 20 = .ok (.if_icmp .ne 7, 3) := by decide +kernel
theorem dX11_setCut_23 : decode cX11_setCut 23 = .ok (.iconst 1, 1) := by decide +kernel
theorem dX11_setCut_24 : decode cX11_setCut 24 = .ok (.goto 4, 3) := by decide +kernel
theorem dX11_setCut_27 : decode cX11_setCut 27 = .ok (.iconst 0, 1) := by decide +kernel
theorem dX11_setCut_28 : decode cX11_setCut 28 = .ok (.ireturn, 1) := by decide +kernel
theorem dX11_layFocus_0 : decode cX11_layFocus 0 = .ok (.aload_n 0, 1) := by decide +kernel
theorem dX11_layFocus_1 : decode cX11_layFocus 1 = .ok (.getfield 7, 3) := by decide +kernel
theorem dX11_layFocus_4 : decode cX11_layFocus 4 = .ok (.bipush 10, 2) := by decide +kernel
theorem dX11_layFocus_6 : decode cX11_layFocus 6 = .ok (.iaload, 1) := by decide +kernel
theorem dX11_layFocus_7 : decode cX11_layFocus 7 = .ok (.ifCond .ne 7, 3) := by decide +kernel
theorem dX11_layFocus_10 : decode cX11_layFocus 10 = .ok (.iconst 1, 1) := by decide +kernel
theorem dX11_layFocus_11 : decode cX11_layFocus 11 = .ok (.goto 4, 3) := by decide +kernel
theorem dX11_layFocus_14 : decode cX11_layFocus 14 = .ok (.iconst 0, 1) := by decide +kernel
theorem dX11_layFocus_15 : decode cX11_layFocus 15 = .ok (.istore_n 3, 1) := by decide +kernel
theorem dX11_layFocus_16 : decode cX11_layFocus 16 = .ok (.iload_n 3, 1) := by decide +kernel
theorem dX11_layFocus_17 : decode cX11_layFocus 17 = .ok (.ifCond .eq 13, 3) := by decide +kernel
theorem dX11_layFocus_20 : decode cX11_layFocus 20 = .ok (.aload_n 0, 1) := by decide +kernel
theorem dX11_layFocus_21 : decode cX11_layFocus 21 = .ok (.getfield 7, 3) := by decide +kernel
theorem dX11_layFocus_24 : decode cX11_layFocus 24 = .ok (.bipush 11, 2) := by decide +kernel
theorem dX11_layFocus_26 : decode cX11_layFocus 26 = .ok (.iaload, 1) := by decide +kernel
theorem dX11_layFocus_27 : decode cX11_layFocus 27 = .ok (.goto 4, 3) := by decide +kernel
theorem dX11_layFocus_30 : decode cX11_layFocus 30 = .ok (.iconst (-1), 1) := by decide +kernel
theorem dX11_layFocus_31 : decode cX11_layFocus 31 = .ok (.istore 4, 2) := by decide +kernel
theorem dX11_layFocus_33 : decode cX11_layFocus 33 = .ok (.iload_n 3, 1) := by decide +kernel
theorem dX11_layFocus_34 : decode cX11_layFocus 34 = .ok (.ifCond .eq 13, 3) := by decide +kernel
theorem dX11_layFocus_37 : decode cX11_layFocus 37 = .ok (.aload_n 0, 1) := by decide +kernel
theorem dX11_layFocus_38 : decode cX11_layFocus 38 = .ok (.iload 4, 2) := by decide +kernel
theorem dX11_layFocus_40 : decode cX11_layFocus 40 = .ok (.iconst 2, 1) := by decide +kernel
theorem dX11_layFocus_41 : decode cX11_layFocus 41 = .ok (.invokevirtual 109, 3) := by decide +kernel
theorem dX11_layFocus_44 : decode cX11_layFocus 44 = .ok (.goto 10, 3) := by decide +kernel
theorem dX11_layFocus_47 : decode cX11_layFocus 47 = .ok (.aload_n 0, 1) := by decide +kernel
theorem dX11_layFocus_48 : decode cX11_layFocus 48 = .ok (.getfield 7, 3) := by decide +kernel
theorem dX11_layFocus_51 : decode cX11_layFocus 51 = .ok (.bipush 13, 2) := by decide +kernel
theorem dX11_layFocus_53 : decode cX11_layFocus 53 = .ok (.iaload, 1) := by decide +kernel
theorem dX11_layFocus_54 : decode cX11_layFocus 54 = .ok (.istore 5, 2) := by decide +kernel
theorem dX11_layFocus_56 : decode cX11_layFocus 56 = .ok (.aload_n 0, 1) := by decide +kernel
theorem dX11_layFocus_57 : decode cX11_layFocus 57 = .ok (.iload_n 1, 1) := by decide +kernel
theorem dX11_layFocus_58 : decode cX11_layFocus 58 = .ok (.iload 4, 2) := by decide +kernel
theorem dX11_layFocus_60 : decode cX11_layFocus 60 = .ok (.aload_n 0, 1) := by decide +kernel
theorem dX11_layFocus_61 : decode cX11_layFocus 61 = .ok (.getfield 7, 3) := by decide +kernel
theorem dX11_layFocus_64 : decode cX11_layFocus 64 = .ok (.bipush 12, 2) := by decide +kernel
theorem dX11_layFocus_66 : decode cX11_layFocus 66 = .ok (.iaload, 1) := by decide +kernel
theorem dX11_layFocus_67 : decode cX11_layFocus 67 = .ok (.iload_n 2, 1) := by decide +kernel
theorem dX11_layFocus_68 : decode cX11_layFocus 68 = .ok (.iadd, 1) := by decide +kernel
theorem dX11_layFocus_69 : decode cX11_layFocus 69 = .ok (.iload 5, 2) := by decide +kernel
theorem dX11_layFocus_71 : decode cX11_layFocus 71 = .ok (.aload_n 0, 1) := by decide +kernel
theorem dX11_layFocus_72 : decode cX11_layFocus 72 = .ok (.getfield 7, 3) := by decide +kernel
theorem dX11_layFocus_75 : decode cX11_layFocus 75 = .ok (.bipush 14, 2) := by decide +kernel
theorem dX11_layFocus_77 : decode cX11_layFocus 77 = .ok (.iaload, 1) := by decide +kernel
theorem dX11_layFocus_78 : decode cX11_layFocus 78 = .ok (.invokevirtual 129, 3) := by decide +kernel
theorem dX11_layFocus_81 : decode cX11_layFocus 81 = .ok (.return_, 1) := by decide +kernel
theorem dX11_shiftOf_0 : decode cX11_shiftOf 0 = .ok (.aload_n 0, 1) := by decide +kernel
theorem dX11_shiftOf_1 : decode cX11_shiftOf 1 = .ok (.iload_n 1, 1) := by decide +kernel
theorem dX11_shiftOf_2 : decode cX11_shiftOf 2 = .ok (.iconst 0, 1) := by decide +kernel
theorem dX11_shiftOf_3 : decode cX11_shiftOf 3 = .ok (.invokevirtual 116, 3) := by decide +kernel
theorem dX11_shiftOf_6 : decode cX11_shiftOf 6 = .ok (.iload_n 2, 1) := by decide +kernel
theorem dX11_shiftOf_7 : decode cX11_shiftOf 7 = .ok (.imul, 1) := by decide +kernel
theorem dX11_shiftOf_8 : decode cX11_shiftOf 8 = .ok (.bipush 100, 2) := by decide +kernel
theorem dX11_shiftOf_10 : decode cX11_shiftOf 10 = .ok (.aload_n 0, 1) := by decide +kernel
theorem dX11_shiftOf_11 : decode cX11_shiftOf 11 = .ok (.getfield 7, 3) := by decide +kernel
theorem dX11_shiftOf_14 : decode cX11_shiftOf 14 = .ok (.iconst 0, 1) := by decide +kernel
theorem dX11_shiftOf_15 : decode cX11_shiftOf 15 = .ok (.iaload, 1) := by decide +kernel
theorem dX11_shiftOf_16 : decode cX11_shiftOf 16 = .ok (.imul, 1) := by decide +kernel
theorem dX11_shiftOf_17 : decode cX11_shiftOf 17 = .ok (.invokestatic 219, 3) := by decide +kernel
theorem dX11_shiftOf_20 : decode cX11_shiftOf 20 = .ok (.ireturn, 1) := by decide +kernel
theorem dX11_firstSample_0 : decode cX11_firstSample 0 = .ok (.iload_n 1, 1) := by decide +kernel
theorem dX11_firstSample_1 : decode cX11_firstSample 1 = .ok (.aload_n 0, 1) := by decide +kernel
theorem dX11_firstSample_2 : decode cX11_firstSample 2 = .ok (.getfield 7, 3) := by decide +kernel
theorem dX11_firstSample_5 : decode cX11_firstSample 5 = .ok (.iconst 0, 1) := by decide +kernel
theorem dX11_firstSample_6 : decode cX11_firstSample 6 = .ok (.iaload, 1) := by decide +kernel
theorem dX11_firstSample_7 : decode cX11_firstSample 7 = .ok (.iadd, 1) := by decide +kernel
theorem dX11_firstSample_8 : decode cX11_firstSample 8 = .ok (.iconst 1, 1) := by decide +kernel
theorem dX11_firstSample_9 : decode cX11_firstSample 9 = .ok (.isub, 1) := by decide +kernel
theorem dX11_firstSample_10 : decode cX11_firstSample 10 = .ok (.aload_n 0, 1) := by decide +kernel
theorem dX11_firstSample_11 : decode cX11_firstSample 11 = .ok (.getfield 7, 3) := by decide +kernel
theorem dX11_firstSample_14 : decode cX11_firstSample 14 = .ok (.iconst 0, 1) := by decide +kernel
theorem dX11_firstSample_15 : decode cX11_firstSample 15 = .ok (.iaload, 1) := by decide +kernel
theorem dX11_firstSample_16 : decode cX11_firstSample 16 = .ok (.idiv, 1) := by decide +kernel
theorem dX11_firstSample_17 : decode cX11_firstSample 17 = .ok (.ireturn, 1) := by decide +kernel
theorem dX11_reflectedPart_0 : decode cX11_reflectedPart 0 = .ok (.aload_n 0, 1) := by decide +kernel
theorem dX11_reflectedPart_1 : decode cX11_reflectedPart 1 = .ok (.iload_n 2, 1) := by decide +kernel
theorem dX11_reflectedPart_2 : decode cX11_reflectedPart 2 = .ok (.iconst 1, 1) := by decide +kernel
theorem dX11_reflectedPart_3 : decode cX11_reflectedPart 3 = .ok (.invokevirtual 144, 3) := by decide +kernel
theorem dX11_reflectedPart_6 : decode cX11_reflectedPart 6 = .ok (.istore_n 3, 1) := by decide +kernel
theorem dX11_reflectedPart_7 : decode cX11_reflectedPart 7 = .ok (.iload_n 3, 1) := by decide +kernel
theorem dX11_reflectedPart_8 : decode cX11_reflectedPart 8 = .ok (.iconst (-1), 1) := by decide +kernel
theorem dX11_reflectedPart_9 : decode cX11_reflectedPart 9 = .ok (.if_icmp .eq 8, 3) := by decide +kernel
theorem dX11_reflectedPart_12 : decode cX11_reflectedPart 12 = .ok (.iload_n 3, 1) := by decide +kernel
theorem dX11_reflectedPart_13 : decode cX11_reflectedPart 13 = .ok (.iload_n 1, 1) := by decide +kernel
theorem dX11_reflectedPart_14 : decode cX11_reflectedPart 14 = .ok (.if_icmp .lt 5, 3) := by decide +kernel
theorem dX11_reflectedPart_17 : decode cX11_reflectedPart 17 = .ok (.iconst 0, 1) := by decide +kernel
theorem dX11_reflectedPart_18 : decode cX11_reflectedPart 18 = .ok (.ireturn, 1) := by decide +kernel
theorem dX11_reflectedPart_19 : decode cX11_reflectedPart 19 = .ok (.aload_n 0, 1) := by decide +kernel
theorem dX11_reflectedPart_20 : decode cX11_reflectedPart 20 = .ok (.getfield 32, 3) := by decide +kernel
theorem dX11_reflectedPart_23 : decode cX11_reflectedPart 23 = .ok (.iload_n 3, 1) := by decide +kernel
theorem dX11_reflectedPart_24 : decode cX11_reflectedPart 24 = .ok (.iaload, 1) := by decide +kernel
theorem dX11_reflectedPart_25 : decode cX11_reflectedPart 25 = .ok (.i2l, 1) := by decide +kernel
theorem dX11_reflectedPart_26 : decode cX11_reflectedPart 26 = .ok (.lstore 4, 2) := by decide +kernel
theorem dX11_reflectedPart_28 : decode cX11_reflectedPart 28 = .ok (.aload_n 0, 1) := by decide +kernel
theorem dX11_reflectedPart_29 : decode cX11_reflectedPart 29 = .ok (.getfield 7, 3) := by decide +kernel
theorem dX11_reflectedPart_32 : decode cX11_reflectedPart 32 = .ok (.iconst 2, 1) := by decide +kernel
theorem dX11_reflectedPart_33 : decode cX11_reflectedPart 33 = .ok (.iaload, 1) := by decide +kernel
theorem dX11_reflectedPart_34 : decode cX11_reflectedPart 34 = .ok (.iconst 1, 1) := by decide +kernel
theorem dX11_reflectedPart_35 : decode cX11_reflectedPart 35 = .ok (.if_icmp .ne 31, 3) := by decide +kernel
theorem dX11_reflectedPart_38 : decode cX11_reflectedPart 38 = .ok (.lload 4, 2) := by decide +kernel
theorem dX11_reflectedPart_40 : decode cX11_reflectedPart 40 = .ok (.ldc2_w 222, 3) := by decide +kernel
theorem dX11_reflectedPart_43 : decode cX11_reflectedPart 43 = .ok (.aload_n 0, 1) := by decide +kernel
theorem dX11_reflectedPart_44 : decode cX11_reflectedPart 44 = .ok (.getfield 23, 3) := by decide +kernel
theorem dX11_reflectedPart_47 : decode cX11_reflectedPart 47 = .ok (.iload_n 3, 1) := by decide +kernel
theorem dX11_reflectedPart_48 : decode cX11_reflectedPart 48 = .ok (.iaload, 1) := by decide +kernel
theorem dX11_reflectedPart_49 : decode cX11_reflectedPart 49 = .ok (.i2l, 1) := by decide +kernel
theorem dX11_reflectedPart_50 : decode cX11_reflectedPart 50 = .ok (.ladd, 1) := by decide +kernel
theorem dX11_reflectedPart_51 : decode cX11_reflectedPart 51 = .ok (.lmul, 1) := by decide +kernel
theorem dX11_reflectedPart_52 : decode cX11_reflectedPart 52 = .ok (.ldc2_w 222, 3) := by decide +kernel
theorem dX11_reflectedPart_55 : decode cX11_reflectedPart 55 = .ok (.aload_n 0, 1) := by decide +kernel
theorem dX11_reflectedPart_56 : decode cX11_reflectedPart 56 = .ok (.getfield 26, 3) := by decide +kernel
theorem dX11_reflectedPart_59 : decode cX11_reflectedPart 59 = .ok (.iload_n 3, 1) := by decide +kernel
theorem dX11_reflectedPart_60 : decode cX11_reflectedPart 60 = .ok (.iaload, 1) := by decide +kernel
theorem dX11_reflectedPart_61 : decode cX11_reflectedPart 61 = .ok (.i2l, 1) := by decide +kernel
theorem dX11_reflectedPart_62 : decode cX11_reflectedPart 62 = .ok (.ladd, 1) := by decide +kernel
theorem dX11_reflectedPart_63 : decode cX11_reflectedPart 63 = .ok (.ldiv, 1) := by decide +kernel
theorem dX11_reflectedPart_64 : decode cX11_reflectedPart 64 = .ok (.lstore 4, 2) := by decide +kernel
theorem dX11_reflectedPart_66 : decode cX11_reflectedPart 66 = .ok (.lload 4, 2) := by decide +kernel
theorem dX11_reflectedPart_68 : decode cX11_reflectedPart 68 = .ok (.aload_n 0, 1) := by decide +kernel
theorem dX11_reflectedPart_69 : decode cX11_reflectedPart 69 = .ok (.getfield 7, 3) := by decide +kernel
theorem dX11_reflectedPart_72 : decode cX11_reflectedPart 72 = .ok (.iconst 1, 1) := by decide +kernel
theorem dX11_reflectedPart_73 : decode cX11_reflectedPart 73 = .ok (.iaload, 1) := by decide +kernel
theorem dX11_reflectedPart_74 : decode cX11_reflectedPart 74 = .ok (.i2l, 1) := by decide +kernel
theorem dX11_reflectedPart_75 : decode cX11_reflectedPart 75 = .ok (.lmul, 1) := by decide +kernel
theorem dX11_reflectedPart_76 : decode cX11_reflectedPart 76 = .ok (.ldc2_w 224, 3) := by decide +kernel
theorem dX11_reflectedPart_79 : decode cX11_reflectedPart 79 = .ok (.ldiv, 1) := by decide +kernel
theorem dX11_reflectedPart_80 : decode cX11_reflectedPart 80 = .ok (.l2i, 1) := by decide +kernel
theorem dX11_reflectedPart_81 : decode cX11_reflectedPart 81 = .ok (.ireturn, 1) := by decide +kernel
theorem dX11_layParts_0 : decode cX11_layParts 0 = .ok (.aload_n 0, 1) := by decide +kernel
theorem dX11_layParts_1 : decode cX11_layParts 1 = .ok (.getfield 7, 3) := by decide +kernel
theorem dX11_layParts_4 : decode cX11_layParts 4 = .ok (.bipush 10, 2) := by decide +kernel
theorem dX11_layParts_6 : decode cX11_layParts 6 = .ok (.iaload, 1) := by decide +kernel
theorem dX11_layParts_7 : decode cX11_layParts 7 = .ok (.iconst 2, 1) := by decide +kernel
theorem dX11_layParts_8 : decode cX11_layParts 8 = .ok (.if_icmp .ne 18, 3) := by decide +kernel
theorem dX11_layParts_11 : decode cX11_layParts 11 = .ok (.aload_n 0, 1) := by decide +kernel
theorem dX11_layParts_12 : decode cX11_layParts 12 = .ok (.iload_n 1, 1) := by decide +kernel
theorem dX11_layParts_13 : decode cX11_layParts 13 = .ok (.aload_n 0, 1) := by decide +kernel
theorem dX11_layParts_14 : decode cX11_layParts 14 = .ok (.getfield 7, 3) := by decide +kernel
theorem dX11_layParts_17 : decode cX11_layParts 17 = .ok (.bipush 12, 2) := by decide +kernel
theorem dX11_layParts_19 : decode cX11_layParts 19 = .ok (.iaload, 1) := by decide +kernel
theorem dX11_layParts_20 : decode cX11_layParts 20 = .ok (.iload_n 2, 1) := by decide +kernel
theorem dX11_layParts_21 : decode cX11_layParts 21 = .ok (.iadd, 1) := by decide +kernel
theorem dX11_layParts_22 : decode cX11_layParts 22 = .ok (.invokevirtual 226, 3) := by decide +kernel
theorem dX11_layParts_25 : decode cX11_layParts 25 = .ok (.return_, 1) := by decide +kernel
theorem dX11_layParts_26 : decode cX11_layParts 26 = .ok (.aload_n 0, 1) := by decide +kernel
theorem dX11_layParts_27 : decode cX11_layParts 27 = .ok (.iload_n 1, 1) := by decide +kernel
theorem dX11_layParts_28 : decode cX11_layParts 28 = .ok (.iload_n 2, 1) := by decide +kernel
theorem dX11_layParts_29 : decode cX11_layParts 29 = .ok (.invokevirtual 229, 3) := by decide +kernel
theorem dX11_layParts_32 : decode cX11_layParts 32 = .ok (.iconst 0, 1) := by decide +kernel
theorem dX11_layParts_33 : decode cX11_layParts 33 = .ok (.istore_n 3, 1) := by decide +kernel
theorem dX11_layParts_34 : decode cX11_layParts 34 = .ok (.iload_n 3, 1) := by decide +kernel
theorem dX11_layParts_35 : decode cX11_layParts 35 = .ok (.sipush 256, 3) := by decide +kernel
theorem dX11_layParts_38 : decode cX11_layParts 38 = .ok (.if_icmp .ge 68, 3) := by decide +kernel
theorem dX11_layParts_41 : decode cX11_layParts 41 = .ok (.aload_n 0, 1) := by decide +kernel
theorem dX11_layParts_42 : decode cX11_layParts 42 = .ok (.aload_n 0, 1) := by decide +kernel
theorem dX11_layParts_43 : decode cX11_layParts 43 = .ok (.iload_n 3, 1) := by decide +kernel
theorem dX11_layParts_44 : decode cX11_layParts 44 = .ok (.iconst 0, 1) := by decide +kernel
theorem dX11_layParts_45 : decode cX11_layParts 45 = .ok (.invokevirtual 133, 3) := by decide +kernel
theorem dX11_layParts_48 : decode cX11_layParts 48 = .ok (.invokevirtual 232, 3) := by decide +kernel
theorem dX11_layParts_51 : decode cX11_layParts 51 = .ok (.istore 4, 2) := by decide +kernel
theorem dX11_layParts_53 : decode cX11_layParts 53 = .ok (.aload_n 0, 1) := by decide +kernel
theorem dX11_layParts_54 : decode cX11_layParts 54 = .ok (.getfield 32, 3) := by decide +kernel
theorem dX11_layParts_57 : decode cX11_layParts 57 = .ok (.iload_n 3, 1) := by decide +kernel
theorem dX11_layParts_58 : decode cX11_layParts 58 = .ok (.aload_n 0, 1) := by decide +kernel
theorem dX11_layParts_59 : decode cX11_layParts 59 = .ok (.iload_n 1, 1) := by decide +kernel
theorem dX11_layParts_60 : decode cX11_layParts 60 = .ok (.iload 4, 2) := by decide +kernel
theorem dX11_layParts_62 : decode cX11_layParts 62 = .ok (.invokevirtual 175, 3) := by decide +kernel
theorem dX11_layParts_65 : decode cX11_layParts 65 = .ok (.iastore, 1) := by decide +kernel
theorem dX11_layParts_66 : decode cX11_layParts 66 = .ok (.aload_n 0, 1) := by decide +kernel
theorem dX11_layParts_67 : decode cX11_layParts 67 = .ok (.getfield 7, 3) := by decide +kernel
theorem dX11_layParts_70 : decode cX11_layParts 70 = .ok (.iconst 5, 1) := by decide +kernel
theorem dX11_layParts_71 : decode cX11_layParts 71 = .ok (.iaload, 1) := by decide +kernel
theorem dX11_layParts_72 : decode cX11_layParts 72 = .ok (.iconst 1, 1) := by decide +kernel
theorem dX11_layParts_73 : decode cX11_layParts 73 = .ok (.if_icmp .ne 27, 3) := by decide +kernel
theorem dX11_layParts_76 : decode cX11_layParts 76 = .ok (.iload 4, 2) := by decide +kernel
theorem dX11_layParts_78 : decode cX11_layParts 78 = .ok (.sipush 255, 3) := by decide +kernel
theorem dX11_layParts_81 : decode cX11_layParts 81 = .ok (.if_icmp .gt 19, 3) := by decide +kernel
theorem dX11_layParts_84 : decode cX11_layParts 84 = .ok (.aload_n 0, 1) := by decide +kernel
theorem dX11_layParts_85 : decode cX11_layParts 85 = .ok (.getfield 32, 3) := by decide +kernel
theorem dX11_layParts_88 : decode cX11_layParts 88 = .ok (.iload_n 3, 1) := by decide +kernel
theorem dX11_layParts_89 : decode cX11_layParts 89 = .ok (.dup2, 1) := by decide +kernel
theorem dX11_layParts_90 : decode cX11_layParts 90 = .ok (.iaload, 1) := by decide +kernel
theorem dX11_layParts_91 : decode cX11_layParts 91 = .ok (.aload_n 0, 1) := by decide +kernel
theorem dX11_layParts_92 : decode cX11_layParts 92 = .ok (.iload_n 3, 1) := by decide +kernel
theorem dX11_layParts_93 : decode cX11_layParts 93 = .ok (.iload 4, 2) := by decide +kernel
theorem dX11_layParts_95 : decode cX11_layParts 95 = .ok (.invokevirtual 235, 3) := by decide +kernel
theorem dX11_layParts_98 : decode cX11_layParts 98 = .ok (.isub, 1) := by decide +kernel
theorem dX11_layParts_99 : decode cX11_layParts 99 = .ok (.iastore, 1) := by decide +kernel
theorem dX11_layParts_100 : decode cX11_layParts 100 = .ok (.iinc 3 1, 3) := by decide +kernel
theorem dX11_layParts_103 : decode cX11_layParts 103 = .ok (.goto (-69), 3) := by decide +kernel
theorem dX11_layParts_106 : decode cX11_layParts 106 = .ok (.return_, 1) := by decide +kernel
theorem dX11_layDirectedParts_0 : decode cX11_layDirectedParts 0 = .ok (.aload_n 0, 1) := by decide +kernel
theorem dX11_layDirectedParts_1 : decode cX11_layDirectedParts 1 = .ok (.iload_n 1, 1) := by decide +kernel
theorem dX11_layDirectedParts_2 : decode cX11_layDirectedParts 2 = .ok (.iload_n 2, 1) := by decide +kernel
theorem dX11_layDirectedParts_3 : decode cX11_layDirectedParts 3 = .ok (.invokevirtual 238, 3) := by decide +kernel
theorem dX11_layDirectedParts_6 : decode cX11_layDirectedParts 6 = .ok (.istore_n 3, 1) := by decide +kernel
theorem dX11_layDirectedParts_7 : decode cX11_layDirectedParts 7 = .ok (.iconst 0, 1) := by decide +kernel
theorem dX11_layDirectedParts_8 : decode cX11_layDirectedParts 8 = .ok (.istore 4, 2) := by decide +kernel
theorem dX11_layDirectedParts_10 : decode cX11_layDirectedParts 10 = .ok (.iload 4, 2) := by decide +kernel
theorem dX11_layDirectedParts_12 : decode cX11_layDirectedParts 12 = .ok (.sipush 256, 3) := by decide +kernel
theorem dX11_layDirectedParts_15 : decode cX11_layDirectedParts 15 = .ok (.if_icmp .ge 25, 3) := by decide +kernel
theorem dX11_layDirectedParts_18 : decode cX11_layDirectedParts 18 = .ok (.aload_n 0, 1) := by decide +kernel
theorem dX11_layDirectedParts_19 : decode cX11_layDirectedParts 19 = .ok (.getfield 32, 3) := by decide +kernel
theorem dX11_layDirectedParts_22 : decode cX11_layDirectedParts 22 = .ok (.iload 4, 2) := by decide +kernel
theorem dX11_layDirectedParts_24 : decode cX11_layDirectedParts 24 = .ok (.aload_n 0, 1) := by decide +kernel
theorem dX11_layDirectedParts_25 : decode cX11_layDirectedParts 25 = .ok (.iload_n 1, 1) := by decide +kernel
theorem dX11_layDirectedParts_26 : decode cX11_layDirectedParts 26 = .ok (.iload 4, 2) := by decide +kernel
theorem dX11_layDirectedParts_28 : decode cX11_layDirectedParts 28 = .ok (.iload_n 3, 1) := by decide +kernel
theorem dX11_layDirectedParts_29 : decode cX11_layDirectedParts 29 = .ok (.iadd, 1) := by decide +kernel
theorem dX11_layDirectedParts_30 : decode cX11_layDirectedParts 30 = .ok (.invokevirtual 175, 3) := by decide +kernel
theorem dX11_layDirectedParts_33 : decode cX11_layDirectedParts 33 = .ok (.iastore, 1) := by decide +kernel
theorem dX11_layDirectedParts_34 : decode cX11_layDirectedParts 34 = .ok (.iinc 4 1, 3) := by decide +kernel
theorem dX11_layDirectedParts_37 : decode cX11_layDirectedParts 37 = .ok (.goto (-27), 3) := by decide +kernel
theorem dX11_layDirectedParts_40 : decode cX11_layDirectedParts 40 = .ok (.return_, 1) := by decide +kernel
theorem dX11_sampleNumber_0 : decode cX11_sampleNumber 0 = .ok (.aload_n 0, 1) := by decide +kernel
theorem dX11_sampleNumber_1 : decode cX11_sampleNumber 1 = .ok (.iconst 0, 1) := by decide +kernel
theorem dX11_sampleNumber_2 : decode cX11_sampleNumber 2 = .ok (.putfield 49, 3) := by decide +kernel
theorem dX11_sampleNumber_5 : decode cX11_sampleNumber 5 = .ok (.aload_n 0, 1) := by decide +kernel
theorem dX11_sampleNumber_6 : decode cX11_sampleNumber 6 = .ok (.iload_n 1, 1) := by decide +kernel
theorem dX11_sampleNumber_7 : decode cX11_sampleNumber 7 = .ok (.invokevirtual 106, 3) := by decide +kernel
theorem dX11_sampleNumber_10 : decode cX11_sampleNumber 10 = .ok (.ifCond .ne 9, 3) := by decide +kernel
theorem dX11_sampleNumber_13 : decode cX11_sampleNumber 13 = .ok (.aload_n 0, 1) := by decide +kernel
theorem dX11_sampleNumber_14 : decode cX11_sampleNumber 14 = .ok (.iconst 1, 1) := by decide +kernel
theorem dX11_sampleNumber_15 : decode cX11_sampleNumber 15 = .ok (.invokevirtual 64, 3) := by decide +kernel
theorem dX11_sampleNumber_18 : decode cX11_sampleNumber 18 = .ok (.ireturn, 1) := by decide +kernel
theorem dX11_sampleNumber_19 : decode cX11_sampleNumber 19 = .ok (.iload_n 2, 1) := by decide +kernel
theorem dX11_sampleNumber_20 : decode cX11_sampleNumber 20 = .ok (.invokestatic 56, 3) := by decide +kernel
theorem dX11_sampleNumber_23 : decode cX11_sampleNumber 23 = .ok (.ifCond .ne 9, 3) := by decide +kernel
theorem dX11_sampleNumber_26 : decode cX11_sampleNumber 26 = .ok (.aload_n 0, 1) := by decide +kernel
theorem dX11_sampleNumber_27 : decode cX11_sampleNumber 27 = .ok (.iconst 2, 1) := by decide +kernel
theorem dX11_sampleNumber_28 : decode cX11_sampleNumber 28 = .ok (.invokevirtual 64, 3) := by decide +kernel
theorem dX11_sampleNumber_31 : decode cX11_sampleNumber 31 = .ok (.ireturn, 1) := by decide +kernel
theorem dX11_sampleNumber_32 : decode cX11_sampleNumber 32 = .ok (.aload_n 0, 1) := by decide +kernel
theorem dX11_sampleNumber_33 : decode cX11_sampleNumber 33 = .ok (.getfield 7, 3) := by decide +kernel
theorem dX11_sampleNumber_36 : decode cX11_sampleNumber 36 = .ok (.bipush 10, 2) := by decide +kernel
theorem dX11_sampleNumber_38 : decode cX11_sampleNumber 38 = .ok (.iaload, 1) := by decide +kernel
theorem dX11_sampleNumber_39 : decode cX11_sampleNumber 39 = .ok (.iconst 2, 1) := by decide +kernel
theorem dX11_sampleNumber_40 : decode cX11_sampleNumber 40 = .ok (.if_icmp .ne 18, 3) := by decide +kernel
theorem dX11_sampleNumber_43 : decode cX11_sampleNumber 43 = .ok (.iload_n 2, 1) := by decide +kernel
theorem dX11_sampleNumber_44 : decode cX11_sampleNumber 44 = .ok (.aload_n 0, 1) := by decide +kernel
theorem dX11_sampleNumber_45 : decode cX11_sampleNumber 45 = .ok (.iload_n 1, 1) := by decide +kernel
theorem dX11_sampleNumber_46 : decode cX11_sampleNumber 46 = .ok (.aload_n 0, 1) := by decide +kernel
theorem dX11_sampleNumber_47 : decode cX11_sampleNumber 47 = .ok (.getfield 7, 3) := by decide +kernel
theorem dX11_sampleNumber_50 : decode cX11_sampleNumber 50 = .ok (.bipush 12, 2) := by decide +kernel
theorem dX11_sampleNumber_52 : decode cX11_sampleNumber 52 = .ok (.iaload, 1) := by decide +kernel
theorem dX11_sampleNumber_53 : decode cX11_sampleNumber 53 = .ok (.invokevirtual 238, 3) := by decide +kernel
theorem dX11_sampleNumber_56 : decode cX11_sampleNumber 56 = .ok (.iadd, 1) := by decide +kernel
theorem dX11_sampleNumber_57 : decode cX11_sampleNumber 57 = .ok (.ireturn, 1) := by decide +kernel
theorem dX11_sampleNumber_58 : decode cX11_sampleNumber 58 = .ok (.aload_n 0, 1) := by decide +kernel
theorem dX11_sampleNumber_59 : decode cX11_sampleNumber 59 = .ok (.iload_n 1, 1) := by decide +kernel
theorem dX11_sampleNumber_60 : decode cX11_sampleNumber 60 = .ok (.iconst 0, 1) := by decide +kernel
theorem dX11_sampleNumber_61 : decode cX11_sampleNumber 61 = .ok (.invokevirtual 229, 3) := by decide +kernel
theorem dX11_sampleNumber_64 : decode cX11_sampleNumber 64 = .ok (.aload_n 0, 1) := by decide +kernel
theorem dX11_sampleNumber_65 : decode cX11_sampleNumber 65 = .ok (.aload_n 0, 1) := by decide +kernel
theorem dX11_sampleNumber_66 : decode cX11_sampleNumber 66 = .ok (.iload_n 2, 1) := by decide +kernel
theorem dX11_sampleNumber_67 : decode cX11_sampleNumber 67 = .ok (.iconst 0, 1) := by decide +kernel
theorem dX11_sampleNumber_68 : decode cX11_sampleNumber 68 = .ok (.invokevirtual 133, 3) := by decide +kernel
theorem dX11_sampleNumber_71 : decode cX11_sampleNumber 71 = .ok (.invokevirtual 232, 3) := by decide +kernel
theorem dX11_sampleNumber_74 : decode cX11_sampleNumber 74 = .ok (.ireturn, 1) := by decide +kernel
theorem dX11_part_0 : decode cX11_part 0 = .ok (.aload_n 0, 1) := by decide +kernel
theorem dX11_part_1 : decode cX11_part 1 = .ok (.iconst 0, 1) := by decide +kernel
theorem dX11_part_2 : decode cX11_part 2 = .ok (.putfield 49, 3) := by decide +kernel
theorem dX11_part_5 : decode cX11_part 5 = .ok (.aload_n 0, 1) := by decide +kernel
theorem dX11_part_6 : decode cX11_part 6 = .ok (.iload_n 1, 1) := by decide +kernel
theorem dX11_part_7 : decode cX11_part 7 = .ok (.invokevirtual 106, 3) := by decide +kernel
theorem dX11_part_10 : decode cX11_part 10 = .ok (.ifCond .ne 9, 3) := by decide +kernel
theorem dX11_part_13 : decode cX11_part 13 = .ok (.aload_n 0, 1) := by decide +kernel
theorem dX11_part_14 : decode cX11_part 14 = .ok (.iconst 1, 1) := by decide +kernel
theorem dX11_part_15 : decode cX11_part 15 = .ok (.invokevirtual 64, 3) := by decide +kernel
theorem dX11_part_18 : decode cX11_part 18 = .ok (.ireturn, 1) := by decide +kernel
theorem dX11_part_19 : decode cX11_part 19 = .ok (.iload_n 2, 1) := by decide +kernel
theorem dX11_part_20 : decode cX11_part 20 = .ok (.invokestatic 56, 3) := by decide +kernel
theorem dX11_part_23 : decode cX11_part 23 = .ok (.ifCond .ne 9, 3) := by decide +kernel
theorem dX11_part_26 : decode cX11_part 26 = .ok (.aload_n 0, 1) := by decide +kernel
theorem dX11_part_27 : decode cX11_part 27 = .ok (.iconst 2, 1) := by decide +kernel
theorem dX11_part_28 : decode cX11_part 28 = .ok (.invokevirtual 64, 3) := by decide +kernel
theorem dX11_part_31 : decode cX11_part 31 = .ok (.ireturn, 1) := by decide +kernel
theorem dX11_part_32 : decode cX11_part 32 = .ok (.aload_n 0, 1) := by decide +kernel
theorem dX11_part_33 : decode cX11_part 33 = .ok (.iload_n 1, 1) := by decide +kernel
theorem dX11_part_34 : decode cX11_part 34 = .ok (.iconst 0, 1) := by decide +kernel
theorem dX11_part_35 : decode cX11_part 35 = .ok (.invokevirtual 241, 3) := by decide +kernel
theorem dX11_part_38 : decode cX11_part 38 = .ok (.aload_n 0, 1) := by decide +kernel
theorem dX11_part_39 : decode cX11_part 39 = .ok (.getfield 32, 3) := by decide +kernel
theorem dX11_part_42 : decode cX11_part 42 = .ok (.iload_n 2, 1) := by decide +kernel
theorem dX11_part_43 : decode cX11_part 43 = .ok (.iaload, 1) := by decide +kernel
theorem dX11_part_44 : decode cX11_part 44 = .ok (.ireturn, 1) := by decide +kernel
theorem dX11_addParts_0 : decode cX11_addParts 0 = .ok (.iconst 0, 1) := by decide +kernel
theorem dX11_addParts_1 : decode cX11_addParts 1 = .ok (.istore_n 2, 1) := by decide +kernel
theorem dX11_addParts_2 : decode cX11_addParts 2 = .ok (.iload_n 2, 1) := by decide +kernel
theorem dX11_addParts_3 : decode cX11_addParts 3 = .ok (.sipush 256, 3) := by decide +kernel
theorem dX11_addParts_6 : decode cX11_addParts 6 = .ok (.if_icmp .ge 31, 3) := by decide +kernel
theorem dX11_addParts_9 : decode cX11_addParts 9 = .ok (.aload_n 0, 1) := by decide +kernel
theorem dX11_addParts_10 : decode cX11_addParts 10 = .ok (.getfield 29, 3) := by decide +kernel
theorem dX11_addParts_13 : decode cX11_addParts 13 = .ok (.iload_n 2, 1) := by decide +kernel
theorem dX11_addParts_14 : decode cX11_addParts 14 = .ok (.dup2, 1) := by decide +kernel
theorem dX11_addParts_15 : decode cX11_addParts 15 = .ok (.iaload, 1) := by decide +kernel
theorem dX11_addParts_16 : decode cX11_addParts 16 = .ok (.aload_n 0, 1) := by decide +kernel
theorem dX11_addParts_17 : decode cX11_addParts 17 = .ok (.iload_n 1, 1) := by decide +kernel
theorem dX11_addParts_18 : decode cX11_addParts 18 = .ok (.iconst 3, 1) := by decide +kernel
theorem dX11_addParts_19 : decode cX11_addParts 19 = .ok (.invokevirtual 116, 3) := by decide +kernel
theorem dX11_addParts_22 : decode cX11_addParts 22 = .ok (.aload_n 0, 1) := by decide +kernel
theorem dX11_addParts_23 : decode cX11_addParts 23 = .ok (.getfield 32, 3) := by decide +kernel
theorem dX11_addParts_26 : decode cX11_addParts 26 = .ok (.iload_n 2, 1) := by decide +kernel
theorem dX11_addParts_27 : decode cX11_addParts 27 = .ok (.iaload, 1) := by decide +kernel
theorem dX11_addParts_28 : decode cX11_addParts 28 = .ok (.imul, 1) := by decide +kernel
theorem dX11_addParts_29 : decode cX11_addParts 29 = .ok (.iadd, 1) := by decide +kernel
theorem dX11_addParts_30 : decode cX11_addParts 30 = .ok (.iastore, 1) := by decide +kernel
theorem dX11_addParts_31 : decode cX11_addParts 31 = .ok (.iinc 2 1, 3) := by decide +kernel
theorem dX11_addParts_34 : decode cX11_addParts 34 = .ok (.goto (-32), 3) := by decide +kernel
theorem dX11_addParts_37 : decode cX11_addParts 37 = .ok (.return_, 1) := by decide +kernel
theorem dX11_clearSignal_0 : decode cX11_clearSignal 0 = .ok (.iconst 0, 1) := by decide +kernel
theorem dX11_clearSignal_1 : decode cX11_clearSignal 1 = .ok (.istore_n 1, 1) := by decide +kernel
theorem dX11_clearSignal_2 : decode cX11_clearSignal 2 = .ok (.iload_n 1, 1) := by decide +kernel
theorem dX11_clearSignal_3 : decode cX11_clearSignal 3 = .ok (.sipush 256, 3) := by decide +kernel
theorem dX11_clearSignal_6 : decode cX11_clearSignal 6 = .ok (.if_icmp .ge 16, 3) := by decide +kernel
theorem dX11_clearSignal_9 : decode cX11_clearSignal 9 = .ok (.aload_n 0, 1) := by decide +kernel
theorem dX11_clearSignal_10 : decode cX11_clearSignal 10 = .ok (.getfield 29, 3) := by decide +kernel
theorem dX11_clearSignal_13 : decode cX11_clearSignal 13 = .ok (.iload_n 1, 1) := by decide +kernel
theorem dX11_clearSignal_14 : decode cX11_clearSignal 14 = .ok (.iconst 0, 1) := by decide +kernel
theorem dX11_clearSignal_15 : decode cX11_clearSignal 15 = .ok (.iastore, 1) := by decide +kernel
theorem dX11_clearSignal_16 : decode cX11_clearSignal 16 = .ok (.iinc 1 1, 3) := by decide +kernel
theorem dX11_clearSignal_19 : decode cX11_clearSignal 19 = .ok (.goto (-17), 3) := by decide +kernel
theorem dX11_clearSignal_22 : decode cX11_clearSignal 22 = .ok (.return_, 1) := by decide +kernel
theorem dX11_layBeam_0 : decode cX11_layBeam 0 = .ok (.aload_n 0, 1) := by decide +kernel
theorem dX11_layBeam_1 : decode cX11_layBeam 1 = .ok (.invokevirtual 244, 3) := by decide +kernel
theorem dX11_layBeam_4 : decode cX11_layBeam 4 = .ok (.iconst 0, 1) := by decide +kernel
theorem dX11_layBeam_5 : decode cX11_layBeam 5 = .ok (.istore_n 2, 1) := by decide +kernel
theorem dX11_layBeam_6 : decode cX11_layBeam 6 = .ok (.iload_n 2, 1) := by decide +kernel
theorem dX11_layBeam_7 : decode cX11_layBeam 7 = .ok (.aload_n 0, 1) := by decide +kernel
theorem dX11_layBeam_8 : decode cX11_layBeam 8 = .ok (.getfield 7, 3) := by decide +kernel
theorem dX11_layBeam_11 : decode cX11_layBeam 11 = .ok (.bipush 8, 2) := by decide +kernel
theorem dX11_layBeam_13 : decode cX11_layBeam 13 = .ok (.iaload, 1) := by decide +kernel
theorem dX11_layBeam_14 : decode cX11_layBeam 14 = .ok (.if_icmp .ge 20, 3) := by decide +kernel
theorem dX11_layBeam_17 : decode cX11_layBeam 17 = .ok (.aload_n 0, 1) := by decide +kernel
theorem dX11_layBeam_18 : decode cX11_layBeam 18 = .ok (.iload_n 2, 1) := by decide +kernel
theorem dX11_layBeam_19 : decode cX11_layBeam 19 = .ok (.iload_n 1, 1) := by decide +kernel
theorem dX11_layBeam_20 : decode cX11_layBeam 20 = .ok (.invokevirtual 241, 3) := by decide +kernel
theorem dX11_layBeam_23 : decode cX11_layBeam 23 = .ok (.aload_n 0, 1) := by decide +kernel
theorem dX11_layBeam_24 : decode cX11_layBeam 24 = .ok (.iload_n 2, 1) := by decide +kernel
theorem dX11_layBeam_25 : decode cX11_layBeam 25 = .ok (.invokevirtual 247, 3) := by decide +kernel
theorem dX11_layBeam_28 : decode cX11_layBeam 28 = .ok (.iinc 2 1, 3) := by decide +kernel
theorem dX11_layBeam_31 : decode cX11_layBeam 31 = .ok (.goto (-25), 3) := by decide +kernel
theorem dX11_layBeam_34 : decode cX11_layBeam 34 = .ok (.return_, 1) := by decide +kernel
theorem dX11_layDirectedBeam_0 : decode cX11_layDirectedBeam 0 = .ok (.aload_n 0, 1) := by decide +kernel
theorem dX11_layDirectedBeam_1 : decode cX11_layDirectedBeam 1 = .ok (.invokevirtual 244, 3) := by decide +kernel
theorem dX11_layDirectedBeam_4 : decode cX11_layDirectedBeam 4 = .ok (.iconst 0, 1) := by decide +kernel
theorem dX11_layDirectedBeam_5 : decode cX11_layDirectedBeam 5 = .ok (.istore_n 2, 1) := by decide +kernel
theorem dX11_layDirectedBeam_6 : decode cX11_layDirectedBeam 6 = .ok (.iload_n 2, 1) := by decide +kernel
theorem dX11_layDirectedBeam_7 : decode cX11_layDirectedBeam 7 = .ok (.aload_n 0, 1) := by decide +kernel
theorem dX11_layDirectedBeam_8 : decode cX11_layDirectedBeam 8 = .ok (.getfield 7, 3) := by decide +kernel
theorem dX11_layDirectedBeam_11 : decode cX11_layDirectedBeam 11 = .ok (.bipush 8, 2) := by decide +kernel
theorem dX11_layDirectedBeam_13 : decode cX11_layDirectedBeam 13 = .ok (.iaload, 1) := by decide +kernel
theorem dX11_layDirectedBeam_14 : decode cX11_layDirectedBeam 14 = .ok (.if_icmp .ge 20, 3) := by decide +kernel
theorem dX11_layDirectedBeam_17 : decode cX11_layDirectedBeam 17 = .ok (.aload_n 0, 1) := by decide +kernel
theorem dX11_layDirectedBeam_18 : decode cX11_layDirectedBeam 18 = .ok (.iload_n 2, 1) := by decide +kernel
theorem dX11_layDirectedBeam_19 : decode cX11_layDirectedBeam 19 = .ok (.iload_n 1, 1) := by decide +kernel
theorem dX11_layDirectedBeam_20 : decode cX11_layDirectedBeam 20 = .ok (.invokevirtual 226, 3) := by decide +kernel
theorem dX11_layDirectedBeam_23 : decode cX11_layDirectedBeam 23 = .ok (.aload_n 0, 1) := by decide +kernel
theorem dX11_layDirectedBeam_24 : decode cX11_layDirectedBeam 24 = .ok (.iload_n 2, 1) := by decide +kernel
theorem dX11_layDirectedBeam_25 : decode cX11_layDirectedBeam 25 = .ok (.invokevirtual 247, 3) := by decide +kernel
theorem dX11_layDirectedBeam_28 : decode cX11_layDirectedBeam 28 = .ok (.iinc 2 1, 3) := by decide +kernel
theorem dX11_layDirectedBeam_31 : decode cX11_layDirectedBeam 31 = .ok (.goto (-25), 3) := by decide +kernel
theorem dX11_layDirectedBeam_34 : decode cX11_layDirectedBeam 34 = .ok (.return_, 1) := by decide +kernel
theorem dX11_beam_0 : decode cX11_beam 0 = .ok (.aload_n 0, 1) := by decide +kernel
theorem dX11_beam_1 : decode cX11_beam 1 = .ok (.iconst 0, 1) := by decide +kernel
theorem dX11_beam_2 : decode cX11_beam 2 = .ok (.putfield 49, 3) := by decide +kernel
theorem dX11_beam_5 : decode cX11_beam 5 = .ok (.iload_n 1, 1) := by decide +kernel
theorem dX11_beam_6 : decode cX11_beam 6 = .ok (.invokestatic 56, 3) := by decide +kernel
theorem dX11_beam_9 : decode cX11_beam 9 = .ok (.ifCond .ne 9, 3) := by decide +kernel
theorem dX11_beam_12 : decode cX11_beam 12 = .ok (.aload_n 0, 1) := by decide +kernel
theorem dX11_beam_13 : decode cX11_beam 13 = .ok (.iconst 1, 1) := by decide +kernel
theorem dX11_beam_14 : decode cX11_beam 14 = .ok (.invokevirtual 64, 3) := by decide +kernel
theorem dX11_beam_17 : decode cX11_beam 17 = .ok (.ireturn, 1) := by decide +kernel
theorem dX11_beam_18 : decode cX11_beam 18 = .ok (.aload_n 0, 1) := by decide +kernel
theorem dX11_beam_19 : decode cX11_beam 19 = .ok (.iconst 0, 1) := by decide +kernel
theorem dX11_beam_20 : decode cX11_beam 20 = .ok (.invokevirtual 250, 3) := by decide +kernel
theorem dX11_beam_23 : decode cX11_beam 23 = .ok (.aload_n 0, 1) := by decide +kernel
theorem dX11_beam_24 : decode cX11_beam 24 = .ok (.getfield 29, 3) := by decide +kernel
theorem dX11_beam_27 : decode cX11_beam 27 = .ok (.iload_n 1, 1) := by decide +kernel
theorem dX11_beam_28 : decode cX11_beam 28 = .ok (.iaload, 1) := by decide +kernel
theorem dX11_beam_29 : decode cX11_beam 29 = .ok (.ireturn, 1) := by decide +kernel
theorem dX11_measureBeam_0 : decode cX11_measureBeam 0 = .ok (.aload_n 0, 1) := by decide +kernel
theorem dX11_measureBeam_1 : decode cX11_measureBeam 1 = .ok (.iconst 0, 1) := by decide +kernel
theorem dX11_measureBeam_2 : decode cX11_measureBeam 2 = .ok (.putfield 49, 3) := by decide +kernel
theorem dX11_measureBeam_5 : decode cX11_measureBeam 5 = .ok (.iload_n 1, 1) := by decide +kernel
theorem dX11_measureBeam_6 : decode cX11_measureBeam 6 = .ok (.iconst 0, 1) := by decide +kernel
theorem dX11_measureBeam_7 : decode cX11_measureBeam 7 = .ok (.iconst 4, 1) := by decide +kernel
theorem dX11_measureBeam_8 : decode cX11_measureBeam 8 = .ok (.invokestatic 52, 3) := by decide +kernel
theorem dX11_measureBeam_11 : decode cX11_measureBeam 11 = .ok (.ifCond .eq 11, 3) := by decide +kernel
theorem dX11_measureBeam_14 : decode cX11_measureBeam 14 = .ok (.iload_n 2, 1) := by decide +kernel
theorem dX11_measureBeam_15 : decode cX11_measureBeam 15 = .ok (.iload_n 3, 1) := by decide +kernel
theorem dX11_measureBeam_16 : decode cX11_measureBeam 16 = .ok (.invokestatic 200, 3) := by decide +kernel
theorem dX11_measureBeam_19 : decode cX11_measureBeam 19 = .ok (.ifCond .ne 10, 3) := by decide +kernel
theorem dX11_measureBeam_22 : decode cX11_measureBeam 22 = .ok (.aload_n 0, 1) := by decide +kernel
theorem dX11_measureBeam_23 : decode cX11_measureBeam 23 = .ok (.iconst 1, 1) := by decide +kernel
theorem dX11_measureBeam_24 : decode cX11_measureBeam 24 = .ok (.invokevirtual 64, 3) := by decide +kernel
theorem dX11_measureBeam_27 : decode cX11_measureBeam 27 = .ok (.i2l, 1) := by decide +kernel
theorem dX11_measureBeam_28 : decode cX11_measureBeam 28 = .ok (.lreturn, 1) := by decide +kernel
theorem dX11_measureBeam_29 : decode cX11_measureBeam 29 = .ok (.aload_n 0, 1) := by decide +kernel
theorem dX11_measureBeam_30 : decode cX11_measureBeam 30 = .ok (.iconst 0, 1) := by decide +kernel
theorem dX11_measureBeam_31 : decode cX11_measureBeam 31 = .ok (.invokevirtual 250, 3) := by decide +kernel
theorem dX11_measureBeam_34 : decode cX11_measureBeam 34 = .ok (.aload_n 0, 1) := by decide +kernel
theorem dX11_measureBeam_35 : decode cX11_measureBeam 35 = .ok (.iload_n 1, 1) := by decide +kernel
theorem dX11_measureBeam_36 : decode cX11_measureBeam 36 = .ok (.iload_n 2, 1) := by decide +kernel
theorem dX11_measureBeam_37 : decode cX11_measureBeam 37 = .ok (.iload_n 3, 1) := by decide +kernel
theorem dX11_measureBeam_38 : decode cX11_measureBeam 38 = .ok (.invokevirtual 207, 3) := by decide +kernel
theorem dX11_measureBeam_41 : decode cX11_measureBeam 41 = .ok (.lreturn, 1) := by decide +kernel
theorem dX11_powerOf_0 : decode cX11_powerOf 0 = .ok (.iconst 0, 1) := by decide +kernel
theorem dX11_powerOf_1 : decode cX11_powerOf 1 = .ok (.istore 4, 2) := by decide +kernel
theorem dX11_powerOf_3 : decode cX11_powerOf 3 = .ok (.iload 4, 2) := by decide +kernel
theorem dX11_powerOf_5 : decode cX11_powerOf 5 = .ok (.iload_n 1, 1) := by decide +kernel
theorem dX11_powerOf_6 : decode cX11_powerOf 6 = .ok (.if_icmp .ge 17, 3) := by decide +kernel
theorem dX11_powerOf_9 : decode cX11_powerOf 9 = .ok (.aload_n 0, 1) := by decide +kernel
theorem dX11_powerOf_10 : decode cX11_powerOf 10 = .ok (.getfield 35, 3) := by decide +kernel
theorem dX11_powerOf_13 : decode cX11_powerOf 13 = .ok (.iload 4, 2) := by decide +kernel
theorem dX11_powerOf_15 : decode cX11_powerOf 15 = .ok (.lconst 0, 1) := by decide +kernel
theorem dX11_powerOf_16 : decode cX11_powerOf 16 = .ok (.lastore, 1) := by decide +kernel
theorem dX11_powerOf_17 : decode cX11_powerOf 17 = .ok (.iinc 4 1, 3) := by decide +kernel
theorem dX11_powerOf_20 : decode cX11_powerOf 20 = .ok (.goto (-17), 3) := by decide +kernel
theorem dX11_powerOf_23 : decode cX11_powerOf 23 = .ok (.iload_n 2, 1) := by decide +kernel
theorem dX11_powerOf_24 : decode cX11_powerOf 24 = .ok (.istore 4, 2) := by decide +kernel
theorem dX11_powerOf_26 : decode cX11_powerOf 26 = .ok (.iload 4, 2) := by decide +kernel
theorem dX11_powerOf_28 : decode cX11_powerOf 28 = .ok (.iload_n 3, 1) := by decide +kernel
theorem dX11_powerOf_29 : decode cX11_powerOf 29 = .ok (.if_icmp .gt 31, 3) := by decide +kernel
theorem dX11_powerOf_32 : decode cX11_powerOf 32 = .ok (.aload_n 0, 1) := by decide +kernel
theorem dX11_powerOf_33 : decode cX11_powerOf 33 = .ok (.getfield 35, 3) := by decide +kernel
theorem dX11_powerOf_36 : decode cX11_powerOf 36 = .ok (.iload 4, 2) := by decide +kernel
theorem dX11_powerOf_38 : decode cX11_powerOf 38 = .ok (.iload_n 2, 1) := by decide +kernel
theorem dX11_powerOf_39 : decode cX11_powerOf 39 = .ok (.isub, 1) := by decide +kernel
theorem dX11_powerOf_40 : decode cX11_powerOf 40 = .ok (.iload_n 1, 1) := by decide +kernel
theorem dX11_powerOf_41 : decode cX11_powerOf 41 = .ok (.irem, 1) := by decide +kernel
theorem dX11_powerOf_42 : decode cX11_powerOf 42 = .ok (.dup2, 1) := by decide +kernel
theorem dX11_powerOf_43 : decode cX11_powerOf 43 = .ok (.laload, 1) := by decide +kernel
theorem dX11_powerOf_44 : decode cX11_powerOf 44 = .ok (.aload_n 0, 1) := by decide +kernel
theorem dX11_powerOf_45 : decode cX11_powerOf 45 = .ok (.getfield 29, 3) := by decide +kernel
theorem dX11_powerOf_48 : decode cX11_powerOf 48 = .ok (.iload 4, 2) := by decide +kernel
theorem dX11_powerOf_50 : decode cX11_powerOf 50 = .ok (.iaload, 1) := by decide +kernel
theorem dX11_powerOf_51 : decode cX11_powerOf 51 = .ok (.i2l, 1) := by decide +kernel
theorem dX11_powerOf_52 : decode cX11_powerOf 52 = .ok (.ladd, 1) := by decide +kernel
theorem dX11_powerOf_53 : decode cX11_powerOf 53 = .ok (.lastore, 1) := by decide +kernel
theorem dX11_powerOf_54 : decode cX11_powerOf 54 = .ok (.iinc 4 1, 3) := by decide +kernel
theorem dX11_powerOf_57 : decode cX11_powerOf 57 = .ok (.goto (-31), 3) := by decide +kernel
theorem dX11_powerOf_60 : decode cX11_powerOf 60 = .ok (.lconst 0, 1) := by decide +kernel
theorem dX11_powerOf_61 : decode cX11_powerOf 61 = .ok (.lstore 4, 2) := by decide +kernel
theorem dX11_powerOf_63 : decode cX11_powerOf 63 = .ok (.iconst 0, 1) := by decide +kernel
theorem dX11_powerOf_64 : decode cX11_powerOf 64 = .ok (.istore 6, 2) := by decide +kernel
theorem dX11_powerOf_66 : decode cX11_powerOf 66 = .ok (.iload 6, 2) := by decide +kernel
theorem dX11_powerOf_68 : decode cX11_powerOf 68 = .ok (.iload_n 1, 1) := by decide +kernel
theorem dX11_powerOf_69 : decode cX11_powerOf 69 = .ok (.if_icmp .ge 29, 3) := by decide +kernel
theorem dX11_powerOf_72 : decode cX11_powerOf 72 = .ok (.lload 4, 2) := by decide +kernel
theorem dX11_powerOf_74 : decode cX11_powerOf 74 = .ok (.aload_n 0, 1) := by decide +kernel
theorem dX11_powerOf_75 : decode cX11_powerOf 75 = .ok (.getfield 35, 3) := by decide +kernel
theorem dX11_powerOf_78 : decode cX11_powerOf 78 = .ok (.iload 6, 2) := by decide +kernel
theorem dX11_powerOf_80 : decode cX11_powerOf 80 = .ok (.laload, 1) := by decide +kernel
theorem dX11_powerOf_81 : decode cX11_powerOf 81 = .ok (.aload_n 0, 1) := by decide +kernel
theorem dX11_powerOf_82 : decode cX11_powerOf 82 = .ok (.getfield 35, 3) := by decide +kernel
theorem dX11_powerOf_85 : decode cX11_powerOf 85 = .ok (.iload 6, 2) := by decide +kernel
theorem dX11_powerOf_87 : decode cX11_powerOf 87 = .ok (.laload, 1) := by decide +kernel
theorem dX11_powerOf_88 : decode cX11_powerOf 88 = .ok (.lmul, 1) := by decide +kernel
theorem dX11_powerOf_89 : decode cX11_powerOf 89 = .ok (.ladd, 1) := by decide +kernel
theorem dX11_powerOf_90 : decode cX11_powerOf 90 = .ok (.lstore 4, 2) := by decide +kernel
theorem dX11_powerOf_92 : decode cX11_powerOf 92 = .ok (.iinc 6 1, 3) := by decide +kernel
theorem dX11_powerOf_95 : decode cX11_powerOf 95 = .ok (.goto (-29), 3) := by decide +kernel
theorem dX11_powerOf_98 : decode cX11_powerOf 98 = .ok (.lload 4, 2) := by decide +kernel
theorem dX11_powerOf_100 : decode cX11_powerOf 100 = .ok (.lreturn, 1) := by decide +kernel
theorem dX11_strengthOf_0 : decode cX11_strengthOf 0 = .ok (.aload_n 0, 1) := by decide +kernel
theorem dX11_strengthOf_1 : decode cX11_strengthOf 1 = .ok (.iload_n 1, 1) := by decide +kernel
theorem dX11_strengthOf_2 : decode cX11_strengthOf 2 = .ok (.iload_n 2, 1) := by decide +kernel
theorem dX11_strengthOf_3 : decode cX11_strengthOf 3 = .ok (.iload_n 3, 1) := by decide +kernel
theorem dX11_strengthOf_4 : decode cX11_strengthOf 4 = .ok (.invokevirtual 253, 3) := by decide +kernel
theorem dX11_strengthOf_7 : decode cX11_strengthOf 7 = .ok (.iload_n 1, 1) := by decide +kernel
theorem dX11_strengthOf_8 : decode cX11_strengthOf 8 = .ok (.i2l, 1) := by decide +kernel
theorem dX11_strengthOf_9 : decode cX11_strengthOf 9 = .ok (.lmul, 1) := by decide +kernel
theorem dX11_strengthOf_10 : decode cX11_strengthOf 10 = .ok (.iload_n 3, 1) := by decide +kernel
theorem dX11_strengthOf_11 : decode cX11_strengthOf 11 = .ok (.iload_n 2, 1) := by decide +kernel
theorem dX11_strengthOf_12 : decode cX11_strengthOf 12 = .ok (.isub, 1) := by decide +kernel
theorem dX11_strengthOf_13 : decode cX11_strengthOf 13 = .ok (.iconst 1, 1) := by decide +kernel
theorem dX11_strengthOf_14 : decode cX11_strengthOf 14 = .ok (.iadd, 1) := by decide +kernel
theorem dX11_strengthOf_15 : decode cX11_strengthOf 15 = .ok (.i2l, 1) := by decide +kernel
theorem dX11_strengthOf_16 : decode cX11_strengthOf 16 = .ok (.ldiv, 1) := by decide +kernel
theorem dX11_strengthOf_17 : decode cX11_strengthOf 17 = .ok (.lreturn, 1) := by decide +kernel
theorem dX11_isPeriod_0 : decode cX11_isPeriod 0 = .ok (.iload_n 0, 1) := by decide +kernel
theorem dX11_isPeriod_1 : decode cX11_isPeriod 1 = .ok (.iconst 1, 1) := by decide +kernel
theorem dX11_isPeriod_2 : decode cX11_isPeriod 2 = .ok (.bipush 64, 2) := by decide +kernel
theorem dX11_isPeriod_4 : decode cX11_isPeriod 4 = .ok (.invokestatic 52, 3) := by decide +kernel
theorem dX11_isPeriod_7 : decode cX11_isPeriod 7 = .ok (.ireturn, 1) := by decide +kernel
theorem dX11_periodPower_0 : decode cX11_periodPower 0 = .ok (.aload_n 0, 1) := by decide +kernel
theorem dX11_periodPower_1 : decode cX11_periodPower 1 = .ok (.iconst 0, 1) := by decide +kernel
theorem dX11_periodPower_2 : decode cX11_periodPower 2 = .ok (.putfield 49, 3) := by decide +kernel
theorem dX11_periodPower_5 : decode cX11_periodPower 5 = .ok (.iload_n 1, 1) := by decide +kernel
theorem dX11_periodPower_6 : decode cX11_periodPower 6 = .ok (.invokestatic 256, 3) := by decide +kernel
theorem dX11_periodPower_9 : decode cX11_periodPower 9 = .ok (.ifCond .eq 11, 3) := by decide +kernel
theorem dX11_periodPower_12 : decode cX11_periodPower 12 = .ok (.iload_n 2, 1) := by decide +kernel
theorem dX11_periodPower_13 : decode cX11_periodPower 13 = .ok (.iload_n 3, 1) := by decide +kernel
theorem dX11_periodPower_14 : decode cX11_periodPower 14 = .ok (.invokestatic 200, 3) := by decide +kernel
theorem dX11_periodPower_17 : decode cX11_periodPower 17 = .ok (.ifCond .ne 10, 3) := by decide +kernel
theorem dX11_periodPower_20 : decode cX11_periodPower 20 = .ok (.aload_n 0, 1) := by decide +kernel
theorem dX11_periodPower_21 : decode cX11_periodPower 21 = .ok (.iconst 1, 1) := by decide +kernel
theorem dX11_periodPower_22 : decode cX11_periodPower 22 = .ok (.invokevirtual 64, 3) := by decide +kernel
theorem dX11_periodPower_25 : decode cX11_periodPower 25 = .ok (.i2l, 1) := by decide +kernel
theorem dX11_periodPower_26 : decode cX11_periodPower 26 = .ok (.lreturn, 1) := by decide +kernel
theorem dX11_periodPower_27 : decode cX11_periodPower 27 = .ok (.aload_n 0, 1) := by decide +kernel
theorem dX11_periodPower_28 : decode cX11_periodPower 28 = .ok (.iconst 0, 1) := by decide +kernel
theorem dX11_periodPower_29 : decode cX11_periodPower 29 = .ok (.invokevirtual 250, 3) := by decide +kernel
theorem dX11_periodPower_32 : decode cX11_periodPower 32 = .ok (.aload_n 0, 1) := by decide +kernel
theorem dX11_periodPower_33 : decode cX11_periodPower 33 = .ok (.iload_n 1, 1) := by decide +kernel
theorem dX11_periodPower_34 : decode cX11_periodPower 34 = .ok (.iload_n 2, 1) := by decide +kernel
theorem dX11_periodPower_35 : decode cX11_periodPower 35 = .ok (.iload_n 3, 1) := by decide +kernel
theorem dX11_periodPower_36 : decode cX11_periodPower 36 = .ok (.invokevirtual 253, 3) := by decide +kernel
theorem dX11_periodPower_39 : decode cX11_periodPower 39 = .ok (.lreturn, 1) := by decide +kernel
theorem dX11_bestPeriod_0 : decode cX11_bestPeriod 0 = .ok (.aload_n 0, 1) := by decide +kernel
theorem dX11_bestPeriod_1 : decode cX11_bestPeriod 1 = .ok (.iconst 0, 1) := by decide +kernel
theorem dX11_bestPeriod_2 : decode cX11_bestPeriod 2 = .ok (.putfield 49, 3) := by decide +kernel
theorem dX11_bestPeriod_5 : decode cX11_bestPeriod 5 = .ok (.iload_n 1, 1) := by decide +kernel
theorem dX11_bestPeriod_6 : decode cX11_bestPeriod 6 = .ok (.invokestatic 256, 3) := by decide +kernel
theorem dX11_bestPeriod_9 : decode cX11_bestPeriod 9 = .ok (.ifCond .eq 11, 3) := by decide +kernel
theorem dX11_bestPeriod_12 : decode cX11_bestPeriod 12 = .ok (.iload_n 2, 1) := by decide +kernel
theorem dX11_bestPeriod_13 : decode cX11_bestPeriod 13 = .ok (.iload_n 3, 1) := by decide +kernel
theorem dX11_bestPeriod_14 : decode cX11_bestPeriod 14 = .ok (.invokestatic 200, 3) := by decide +kernel
theorem dX11_bestPeriod_17 : decode cX11_bestPeriod 17 = .ok (.ifCond .ne 9, 3) := by decide +kernel
theorem dX11_bestPeriod_20 : decode cX11_bestPeriod 20 = .ok (.aload_n 0, 1) := by decide +kernel
theorem dX11_bestPeriod_21 : decode cX11_bestPeriod 21 = .ok (.iconst 1, 1) := by decide +kernel
theorem dX11_bestPeriod_22 : decode cX11_bestPeriod 22 = .ok (.invokevirtual 64, 3) := by decide +kernel
theorem dX11_bestPeriod_25 : decode cX11_bestPeriod 25 = .ok (.ireturn, 1) := by decide +kernel
theorem dX11_bestPeriod_26 : decode cX11_bestPeriod 26 = .ok (.aload_n 0, 1) := by decide +kernel
theorem dX11_bestPeriod_27 : decode cX11_bestPeriod 27 = .ok (.iconst 0, 1) := by decide +kernel
theorem dX11_bestPeriod_28 : decode cX11_bestPeriod 28 = .ok (.invokevirtual 250, 3) := by decide +kernel
theorem dX11_bestPeriod_31 : decode cX11_bestPeriod 31 = .ok (.iconst 1, 1) := by decide +kernel
theorem dX11_bestPeriod_32 : decode cX11_bestPeriod 32 = .ok (.istore 4, 2) := by decide +kernel
theorem dX11_bestPeriod_34 : decode cX11_bestPeriod 34 = .ok (.iconst 2, 1) := by decide +kernel
theorem dX11_bestPeriod_35 : decode cX11_bestPeriod 35 = .ok (.istore 5, 2) := by decide +kernel
theorem dX11_bestPeriod_37 : decode cX11_bestPeriod 37 = .ok (.iload 5, 2) := by decide +kernel
theorem dX11_bestPeriod_39 : decode cX11_bestPeriod 39 = .ok (.iload_n 1, 1) := by decide +kernel
theorem dX11_bestPeriod_40 : decode cX11_bestPeriod 40 = .ok (.if_icmp .gt 38, 3) := by decide +kernel
theorem dX11_bestPeriod_43 : decode cX11_bestPeriod 43 = .ok (.aload_n 0, 1) := by decide +kernel
theorem dX11_bestPeriod_44 : decode cX11_bestPeriod 44 = .ok (.iload 5, 2) := by decide +kernel
theorem dX11_bestPeriod_46 : decode cX11_bestPeriod 46 = .ok (.iload_n 2, 1) := by decide +kernel
theorem dX11_bestPeriod_47 : decode cX11_bestPeriod 47 = .ok (.iload_n 3, 1) := by decide +kernel
theorem dX11_bestPeriod_48 : decode cX11_bestPeriod 48 = .ok (.invokevirtual 259, 3) := by decide +kernel
theorem dX11_bestPeriod_51 : decode cX11_bestPeriod 51 = .ok (.aload_n 0, 1) := by decide +kernel
theorem dX11_bestPeriod_52 : decode cX11_bestPeriod 52 = .ok (.iload 4, 2) := by decide +kernel
theorem dX11_bestPeriod_54 : decode cX11_bestPeriod 54 = .ok (.iload_n 2, 1) := by decide +kernel
theorem dX11_bestPeriod_55 : decode cX11_bestPeriod 55 = .ok (.iload_n 3, 1) := by decide +kernel
theorem dX11_bestPeriod_56 : decode cX11_bestPeriod 56 = .ok (.invokevirtual 259, 3) := by decide +kernel
theorem dX11_bestPeriod_59 : decode cX11_bestPeriod 59 = .ok (.lcmp, 1) := by decide +kernel
theorem dX11_bestPeriod_60 : decode cX11_bestPeriod 60 = .ok (.ifCond .le 8, 3) := by decide +kernel
theorem dX11_bestPeriod_63 : decode cX11_bestPeriod 63 = .ok (.iload 5, 2) := by decide +kernel
theorem dX11_bestPeriod_65 : decode cX11_bestPeriod 65 = .ok (.goto 5, 3) := by decide +kernel
theorem dX11_bestPeriod_68 : decode cX11_bestPeriod 68 = .ok (.iload 4, 2) := by decide +kernel
theorem dX11_bestPeriod_70 : decode cX11_bestPeriod 70 = .ok (.istore 4, 2) := by decide +kernel
theorem dX11_bestPeriod_72 : decode cX11_bestPeriod 72 = .ok (.iinc 5 1, 3) := by decide +kernel
theorem dX11_bestPeriod_75 : decode cX11_bestPeriod 75 = .ok (.goto (-38), 3) := by decide +kernel
theorem dX11_bestPeriod_78 : decode cX11_bestPeriod 78 = .ok (.iload 4, 2) := by decide +kernel
theorem dX11_bestPeriod_80 : decode cX11_bestPeriod 80 = .ok (.ireturn, 1) := by decide +kernel
theorem dX11_energyWith_0 : decode cX11_energyWith 0 = .ok (.aload_n 0, 1) := by decide +kernel
theorem dX11_energyWith_1 : decode cX11_energyWith 1 = .ok (.iload_n 1, 1) := by decide +kernel
theorem dX11_energyWith_2 : decode cX11_energyWith 2 = .ok (.invokevirtual 250, 3) := by decide +kernel
theorem dX11_energyWith_5 : decode cX11_energyWith 5 = .ok (.aload_n 0, 1) := by decide +kernel
theorem dX11_energyWith_6 : decode cX11_energyWith 6 = .ok (.iload_n 2, 1) := by decide +kernel
theorem dX11_energyWith_7 : decode cX11_energyWith 7 = .ok (.iload_n 3, 1) := by decide +kernel
theorem dX11_energyWith_8 : decode cX11_energyWith 8 = .ok (.invokevirtual 184, 3) := by decide +kernel
theorem dX11_energyWith_11 : decode cX11_energyWith 11 = .ok (.lreturn, 1) := by decide +kernel
theorem dX11_energyBeside_0 : decode cX11_energyBeside 0 = .ok (.aload_n 0, 1) := by decide +kernel
theorem dX11_energyBeside_1 : decode cX11_energyBeside 1 = .ok (.iconst 0, 1) := by decide +kernel
theorem dX11_energyBeside_2 : decode cX11_energyBeside 2 = .ok (.putfield 49, 3) := by decide +kernel
theorem dX11_energyBeside_5 : decode cX11_energyBeside 5 = .ok (.iload_n 1, 1) := by decide +kernel
theorem dX11_energyBeside_6 : decode cX11_energyBeside 6 = .ok (.sipush (-2000), 3) := by decide +kernel
theorem dX11_energyBeside_9 : decode cX11_energyBeside 9 = .ok (.sipush 2000, 3) := by decide +kernel
theorem dX11_energyBeside_12 : decode cX11_energyBeside 12 = .ok (.invokestatic 52, 3) := by decide +kernel
theorem dX11_energyBeside_15 : decode cX11_energyBeside 15 = .ok (.ifCond .eq 11, 3) := by decide +kernel
theorem dX11_energyBeside_18 : decode cX11_energyBeside 18 = .ok (.iload_n 2, 1) := by decide +kernel
theorem dX11_energyBeside_19 : decode cX11_energyBeside 19 = .ok (.iload_n 3, 1) := by decide +kernel
theorem dX11_energyBeside_20 : decode cX11_energyBeside 20 = .ok (.invokestatic 200, 3) := by decide +kernel
theorem dX11_energyBeside_23 : decode cX11_energyBeside 23 = .ok (.ifCond .ne 10, 3) := by decide +kernel
theorem dX11_energyBeside_26 : decode cX11_energyBeside 26 = .ok (.aload_n 0, 1) := by decide +kernel
theorem dX11_energyBeside_27 : decode cX11_energyBeside 27 = .ok (.iconst 1, 1) := by decide +kernel
theorem dX11_energyBeside_28 : decode cX11_energyBeside 28 = .ok (.invokevirtual 64, 3) := by decide +kernel
theorem dX11_energyBeside_31 : decode cX11_energyBeside 31 = .ok (.i2l, 1) := by decide +kernel
theorem dX11_energyBeside_32 : decode cX11_energyBeside 32 = .ok (.lreturn, 1) := by decide +kernel
theorem dX11_energyBeside_33 : decode cX11_energyBeside 33 = .ok (.aload_n 0, 1) := by decide +kernel
theorem dX11_energyBeside_34 : decode cX11_energyBeside 34 = .ok (.iload_n 1, 1) := by decide +kernel
theorem dX11_energyBeside_35 : decode cX11_energyBeside 35 = .ok (.iload_n 2, 1) := by decide +kernel
theorem dX11_energyBeside_36 : decode cX11_energyBeside 36 = .ok (.iload_n 3, 1) := by decide +kernel
theorem dX11_energyBeside_37 : decode cX11_energyBeside 37 = .ok (.invokevirtual 262, 3) := by decide +kernel
theorem dX11_energyBeside_40 : decode cX11_energyBeside 40 = .ok (.lreturn, 1) := by decide +kernel
theorem dX11_scan_0 : decode cX11_scan 0 = .ok (.aload_n 0, 1) := by decide +kernel
theorem dX11_scan_1 : decode cX11_scan 1 = .ok (.iconst 0, 1) := by decide +kernel
theorem dX11_scan_2 : decode cX11_scan 2 = .ok (.putfield 49, 3) := by decide +kernel
theorem dX11_scan_5 : decode cX11_scan 5 = .ok (.iload_n 1, 1) := by decide +kernel
theorem dX11_scan_6 : decode cX11_scan 6 = .ok (.iconst 1, 1) := by decide +kernel
theorem dX11_scan_7 : decode cX11_scan 7 = .ok (.bipush 100, 2) := by decide +kernel
theorem dX11_scan_9 : decode cX11_scan 9 = .ok (.invokestatic 52, 3) := by decide +kernel
theorem dX11_scan_12 : decode cX11_scan 12 = .ok (.ifCond .eq 22, 3) := by decide +kernel
theorem dX11_scan_15 : decode cX11_scan 15 = .ok (.iload_n 2, 1) := by decide +kernel
theorem dX11_scan_16 : decode cX11_scan 16 = .ok (.iconst 0, 1) := by decide +kernel
theorem dX11_scan_17 : decode cX11_scan 17 = .ok (.bipush 20, 2) := by decide +kernel
theorem dX11_scan_19 : decode cX11_scan 19 = .ok (.invokestatic 52, 3) := by decide +kernel
theorem dX11_scan_22 : decode cX11_scan 22 = .ok (.ifCond .eq 12, 3) := by decide +kernel
theorem dX11_scan_25 : decode cX11_scan 25 = .ok (.iload_n 3, 1) := by decide +kernel
theorem dX11_scan_26 : decode cX11_scan 26 = .ok (.iload 4, 2) := by decide +kernel
theorem dX11_scan_28 : decode cX11_scan 28 = .ok (.invokestatic 200, 3) := by decide +kernel
theorem dX11_scan_31 : decode cX11_scan 31 = .ok (.ifCond .ne 9, 3) := by decide +kernel
theorem dX11_scan_34 : decode cX11_scan 34 = .ok (.aload_n 0, 1) := by decide +kernel
theorem dX11_scan_35 : decode cX11_scan 35 = .ok (.iconst 1, 1) := by decide +kernel
theorem dX11_scan_36 : decode cX11_scan 36 = .ok (.invokevirtual 64, 3) := by decide +kernel
theorem dX11_scan_39 : decode cX11_scan 39 = .ok (.ireturn, 1) := by decide +kernel
theorem dX11_scan_40 : decode cX11_scan 40 = .ok (.iconst 0, 1) := by decide +kernel
theorem dX11_scan_41 : decode cX11_scan 41 = .ok (.istore 5, 2) := by decide +kernel
theorem dX11_scan_43 : decode cX11_scan 43 = .ok (.aload_n 0, 1) := by decide +kernel
theorem dX11_scan_44 : decode cX11_scan 44 = .ok (.iconst 0, 1) := by decide +kernel
theorem dX11_scan_45 : decode cX11_scan 45 = .ok (.iload_n 3, 1) := by decide +kernel
theorem dX11_scan_46 : decode cX11_scan 46 = .ok (.iload 4, 2) := by decide +kernel
theorem dX11_scan_48 : decode cX11_scan 48 = .ok (.invokevirtual 262, 3) := by decide +kernel
theorem dX11_scan_51 : decode cX11_scan 51 = .ok (.lstore 6, 2) := by decide +kernel
theorem dX11_scan_53 : decode cX11_scan 53 = .ok (.iconst 1, 1) := by decide +kernel
theorem dX11_scan_54 : decode cX11_scan 54 = .ok (.istore 8, 2) := by decide +kernel
theorem dX11_scan_56 : decode cX11_scan 56 = .ok (.iload 8, 2) := by decide +kernel
theorem dX11_scan_58 : decode cX11_scan 58 = .ok (.iload_n 2, 1) := by decide +kernel
theorem dX11_scan_59 : decode cX11_scan 59 = .ok (.if_icmp .gt 62, 3) := by decide +kernel
theorem dX11_scan_62 : decode cX11_scan 62 = .ok (.iload 8, 2) := by decide +kernel
theorem dX11_scan_64 : decode cX11_scan 64 = .ok (.ineg, 1) := by decide +kernel
theorem dX11_scan_65 : decode cX11_scan 65 = .ok (.istore 9, 2) := by decide +kernel
theorem dX11_scan_67 : decode cX11_scan 67 = .ok (.iload 9, 2) := by decide +kernel
theorem dX11_scan_69 : decode cX11_scan 69 = .ok (.iload 8, 2) := by decide +kernel
theorem dX11_scan_71 : decode cX11_scan 71 = .ok (.if_icmp .gt 44, 3) := by decide +kernel
theorem dX11_scan_74 : decode cX11_scan 74 = .ok (.aload_n 0, 1) := by decide +kernel
theorem dX11_scan_75 : decode cX11_scan 75 = .ok (.iload 9, 2) := by decide +kernel
theorem dX11_scan_77 : decode cX11_scan 77 = .ok (.iload_n 1, 1) := by decide +kernel
theorem dX11_scan_78 : decode cX11_scan 78 = .ok (.imul, 1) := by decide +kernel
theorem dX11_scan_79 : decode cX11_scan 79 = .ok (.iload_n 3, 1) := by decide +kernel
theorem dX11_scan_80 : decode cX11_scan 80 = .ok (.iload 4, 2) := by decide +kernel
theorem dX11_scan_82 : decode cX11_scan 82 = .ok (.invokevirtual 262, 3) := by decide +kernel
theorem dX11_scan_85 : decode cX11_scan 85 = .ok (.lstore 10, 2) := by decide +kernel
theorem dX11_scan_87 : decode cX11_scan 87 = .ok (.lload 10, 2) := by decide +kernel
theorem dX11_scan_89 : decode cX11_scan 89 = .ok (.lload 6, 2) := by decide +kernel
theorem dX11_scan_91 : decode cX11_scan 91 = .ok (.lcmp, 1) := by decide +kernel
theorem dX11_scan_92 : decode cX11_scan 92 = .ok (.ifCond .le 11, 3) := by decide +kernel
theorem dX11_scan_95 : decode cX11_scan 95 = .ok (.iload 9, 2) := by decide +kernel
theorem dX11_scan_97 : decode cX11_scan 97 = .ok (.istore 5, 2) := by decide +kernel
theorem dX11_scan_99 : decode cX11_scan 99 = .ok (.lload 10, 2) := by decide +kernel
theorem dX11_scan_101 : decode cX11_scan 101 = .ok (.lstore 6, 2) := by decide +kernel
theorem dX11_scan_103 : decode cX11_scan 103 = .ok (.iload 9, 2) := by decide +kernel
theorem dX11_scan_105 : decode cX11_scan 105 = .ok (.iconst 2, 1) := by decide +kernel
theorem dX11_scan_106 : decode cX11_scan 106 = .ok (.iload 8, 2) := by decide +kernel
theorem dX11_scan_108 : decode cX11_scan 108 = .ok (.imul, 1) := by decide +kernel
theorem dX11_scan_109 : decode cX11_scan 109 = .ok (.iadd, 1) := by decide +kernel
theorem dX11_scan_110 : decode cX11_scan 110 = .ok (.istore 9, 2) := by decide +kernel
theorem dX11_scan_112 : decode cX11_scan 112 = .ok (.goto (-45), 3) := by decide +kernel
theorem dX11_scan_115 : decode cX11_scan 115 = .ok (.iinc 8 1, 3) := by decide +kernel
theorem dX11_scan_118 : decode cX11_scan 118 = .ok (.goto (-62), 3) := by decide +kernel
theorem dX11_scan_121 : decode cX11_scan 121 = .ok (.iload 5, 2) := by decide +kernel
theorem dX11_scan_123 : decode cX11_scan 123 = .ok (.ireturn, 1) := by decide +kernel
theorem dX11_bestDirection_0 : decode cX11_bestDirection 0 = .ok (.aload_n 0, 1) := by decide +kernel
theorem dX11_bestDirection_1 : decode cX11_bestDirection 1 = .ok (.iconst 0, 1) := by decide +kernel
theorem dX11_bestDirection_2 : decode cX11_bestDirection 2 = .ok (.putfield 49, 3) := by decide +kernel
theorem dX11_bestDirection_5 : decode cX11_bestDirection 5 = .ok (.iload_n 1, 1) := by decide +kernel
theorem dX11_bestDirection_6 : decode cX11_bestDirection 6 = .ok (.iconst 1, 1) := by decide +kernel
theorem dX11_bestDirection_7 : decode cX11_bestDirection 7 = .ok (.bipush 100, 2) := by decide +kernel
theorem dX11_bestDirection_9 : decode cX11_bestDirection 9 = .ok (.invokestatic 52, 3) := by decide +kernel
theorem dX11_bestDirection_12 : decode cX11_bestDirection 12 = .ok (.ifCond .eq 11, 3) := by decide +kernel
theorem dX11_bestDirection_15 : decode cX11_bestDirection 15 = .ok (.iload_n 2, 1) := by decide +kernel
theorem dX11_bestDirection_16 : decode cX11_bestDirection 16 = .ok (.iload_n 3, 1) := by decide +kernel
theorem dX11_bestDirection_17 : decode cX11_bestDirection 17 = .ok (.invokestatic 200, 3) := by decide +kernel
theorem dX11_bestDirection_20 : decode cX11_bestDirection 20 = .ok (.ifCond .ne 9, 3) := by decide +kernel
theorem dX11_bestDirection_23 : decode cX11_bestDirection 23 = .ok (.aload_n 0, 1) := by decide +kernel
theorem dX11_bestDirection_24 : decode cX11_bestDirection 24 = .ok (.iconst 1, 1) := by decide +kernel
theorem dX11_bestDirection_25 : decode cX11_bestDirection 25 = .ok (.invokevirtual 64, 3) := by decide +kernel
theorem dX11_bestDirection_28 : decode cX11_bestDirection 28 = .ok (.ireturn, 1) := by decide +kernel
theorem dX11_bestDirection_29 : decode cX11_bestDirection 29 = .ok (.iconst 0, 1) := by decide +kernel
theorem dX11_bestDirection_30 : decode cX11_bestDirection 30 = .ok (.istore 4, 2) := by decide +kernel
theorem dX11_bestDirection_32 : decode cX11_bestDirection 32 = .ok (.ldc2_w 211, 3) := by decide +kernel
theorem dX11_bestDirection_35 : decode cX11_bestDirection 35 = .ok (.lstore 5, 2) := by decide +kernel
theorem dX11_bestDirection_37 : decode cX11_bestDirection 37 = .ok (.bipush (-100), 2) := by decide +kernel
theorem dX11_bestDirection_39 : decode cX11_bestDirection 39 = .ok (.istore 7, 2) := by decide +kernel
theorem dX11_bestDirection_41 : decode cX11_bestDirection 41 = .ok (.iload 7, 2) := by decide +kernel
theorem dX11_bestDirection_43 : decode cX11_bestDirection 43 = .ok (.bipush 100, 2) := by decide +kernel
theorem dX11_bestDirection_45 : decode cX11_bestDirection 45 = .ok (.if_icmp .gt 42, 3) := by decide +kernel
theorem dX11_bestDirection_48 : decode cX11_bestDirection 48 = .ok (.aload_n 0, 1) := by decide +kernel
theorem dX11_bestDirection_49 : decode cX11_bestDirection 49 = .ok (.iload 7, 2) := by decide +kernel
theorem dX11_bestDirection_51 : decode cX11_bestDirection 51 = .ok (.invokevirtual 265, 3) := by decide +kernel
theorem dX11_bestDirection_54 : decode cX11_bestDirection 54 = .ok (.aload_n 0, 1) := by decide +kernel
theorem dX11_bestDirection_55 : decode cX11_bestDirection 55 = .ok (.iload_n 2, 1) := by decide +kernel
theorem dX11_bestDirection_56 : decode cX11_bestDirection 56 = .ok (.iload_n 3, 1) := by decide +kernel
theorem dX11_bestDirection_57 : decode cX11_bestDirection 57 = .ok (.invokevirtual 184, 3) := by decide +kernel
theorem dX11_bestDirection_60 : decode cX11_bestDirection 60 = .ok (.lstore 8, 2) := by decide +kernel
theorem dX11_bestDirection_62 : decode cX11_bestDirection 62 = .ok (.lload 8, 2) := by decide +kernel
theorem dX11_bestDirection_64 : decode cX11_bestDirection 64 = .ok (.lload 5, 2) := by decide +kernel
theorem dX11_bestDirection_66 : decode cX11_bestDirection 66 = .ok (.lcmp, 1) := by decide +kernel
theorem dX11_bestDirection_67 : decode cX11_bestDirection 67 = .ok (.ifCond .le 11, 3) := by decide +kernel
theorem dX11_bestDirection_70 : decode cX11_bestDirection 70 = .ok (.iload 7, 2) := by decide +kernel
theorem dX11_bestDirection_72 : decode cX11_bestDirection 72 = .ok (.istore 4, 2) := by decide +kernel
theorem dX11_bestDirection_74 : decode cX11_bestDirection 74 = .ok (.lload 8, 2) := by decide +kernel
theorem dX11_bestDirection_76 : decode cX11_bestDirection 76 = .ok (.lstore 5, 2) := by decide +kernel
theorem dX11_bestDirection_78 : decode cX11_bestDirection 78 = .ok (.iload 7, 2) := by decide +kernel
theorem dX11_bestDirection_80 : decode cX11_bestDirection 80 = .ok (.iload_n 1, 1) := by decide +kernel
theorem dX11_bestDirection_81 : decode cX11_bestDirection 81 = .ok (.iadd, 1) := by decide +kernel
theorem dX11_bestDirection_82 : decode cX11_bestDirection 82 = .ok (.istore 7, 2) := by decide +kernel
theorem dX11_bestDirection_84 : decode cX11_bestDirection 84 = .ok (.goto (-43), 3) := by decide +kernel
theorem dX11_bestDirection_87 : decode cX11_bestDirection 87 = .ok (.iload 4, 2) := by decide +kernel
theorem dX11_bestDirection_89 : decode cX11_bestDirection 89 = .ok (.ireturn, 1) := by decide +kernel
theorem dX11_spectrum_0 : decode cX11_spectrum 0 = .ok (.aload_n 0, 1) := by decide +kernel
theorem dX11_spectrum_1 : decode cX11_spectrum 1 = .ok (.iconst 0, 1) := by decide +kernel
theorem dX11_spectrum_2 : decode cX11_spectrum 2 = .ok (.putfield 49, 3) := by decide +kernel
theorem dX11_spectrum_5 : decode cX11_spectrum 5 = .ok (.iload_n 1, 1) := by decide +kernel
theorem dX11_spectrum_6 : decode cX11_spectrum 6 = .ok (.bipush (-100), 2) := by decide +kernel
theorem dX11_spectrum_8 : decode cX11_spectrum 8 = .ok (.bipush 100, 2) := by decide +kernel
theorem dX11_spectrum_10 : decode cX11_spectrum 10 = .ok (.invokestatic 52, 3) := by decide +kernel
theorem dX11_spectrum_13 : decode cX11_spectrum 13 = .ok (.ifCond .eq 19, 3) := by decide +kernel
theorem dX11_spectrum_16 : decode cX11_spectrum 16 = .ok (.iload_n 2, 1) := by decide +kernel
theorem dX11_spectrum_17 : decode cX11_spectrum 17 = .ok (.invokestatic 256, 3) := by decide +kernel
theorem dX11_spectrum_20 : decode cX11_spectrum 20 = .ok (.ifCond .eq 12, 3) := by decide +kernel
theorem dX11_spectrum_23 : decode cX11_spectrum 23 = .ok (.iload_n 3, 1) := by decide +kernel
theorem dX11_spectrum_24 : decode cX11_spectrum 24 = .ok (.iload 4, 2) := by decide +kernel
theorem dX11_spectrum_26 : decode cX11_spectrum 26 = .ok (.invokestatic 200, 3) := by decide +kernel
theorem dX11_spectrum_29 : decode cX11_spectrum 29 = .ok (.ifCond .ne 10, 3) := by decide +kernel
theorem dX11_spectrum_32 : decode cX11_spectrum 32 = .ok (.aload_n 0, 1) := by decide +kernel
theorem dX11_spectrum_33 : decode cX11_spectrum 33 = .ok (.iconst 1, 1) := by decide +kernel
theorem dX11_spectrum_34 : decode cX11_spectrum 34 = .ok (.invokevirtual 64, 3) := by decide +kernel
theorem dX11_spectrum_37 : decode cX11_spectrum 37 = .ok (.i2l, 1) := by decide +kernel
theorem dX11_spectrum_38 : decode cX11_spectrum 38 = .ok (.lreturn, 1) := by decide +kernel
theorem dX11_spectrum_39 : decode cX11_spectrum 39 = .ok (.aload_n 0, 1) := by decide +kernel
theorem dX11_spectrum_40 : decode cX11_spectrum 40 = .ok (.iload_n 1, 1) := by decide +kernel
theorem dX11_spectrum_41 : decode cX11_spectrum 41 = .ok (.invokevirtual 265, 3) := by decide +kernel
theorem dX11_spectrum_44 : decode cX11_spectrum 44 = .ok (.aload_n 0, 1) := by decide +kernel
theorem dX11_spectrum_45 : decode cX11_spectrum 45 = .ok (.iload_n 2, 1) := by decide +kernel
theorem dX11_spectrum_46 : decode cX11_spectrum 46 = .ok (.iload_n 3, 1) := by decide +kernel
theorem dX11_spectrum_47 : decode cX11_spectrum 47 = .ok (.iload 4, 2) := by decide +kernel
theorem dX11_spectrum_49 : decode cX11_spectrum 49 = .ok (.invokevirtual 259, 3) := by decide +kernel
theorem dX11_spectrum_52 : decode cX11_spectrum 52 = .ok (.lreturn, 1) := by decide +kernel
theorem dX11_meanOf_0 : decode cX11_meanOf 0 = .ok (.aload_n 0, 1) := by decide +kernel
theorem dX11_meanOf_1 : decode cX11_meanOf 1 = .ok (.iload_n 1, 1) := by decide +kernel
theorem dX11_meanOf_2 : decode cX11_meanOf 2 = .ok (.iload_n 2, 1) := by decide +kernel
theorem dX11_meanOf_3 : decode cX11_meanOf 3 = .ok (.invokevirtual 184, 3) := by decide +kernel
theorem dX11_meanOf_6 : decode cX11_meanOf 6 = .ok (.l2d, 1) := by decide +kernel
theorem dX11_meanOf_7 : decode cX11_meanOf 7 = .ok (.iload_n 2, 1) := by decide +kernel
theorem dX11_meanOf_8 : decode cX11_meanOf 8 = .ok (.iload_n 1, 1) := by decide +kernel
theorem dX11_meanOf_9 : decode cX11_meanOf 9 = .ok (.isub, 1) := by decide +kernel
theorem dX11_meanOf_10 : decode cX11_meanOf 10 = .ok (.iconst 1, 1) := by decide +kernel
theorem dX11_meanOf_11 : decode cX11_meanOf 11 = .ok (.iadd, 1) := by decide +kernel
theorem dX11_meanOf_12 : decode cX11_meanOf 12 = .ok (.i2d, 1) := by decide +kernel
theorem dX11_meanOf_13 : decode cX11_meanOf 13 = .ok (.ddiv, 1) := by decide +kernel
theorem dX11_meanOf_14 : decode cX11_meanOf 14 = .ok (.dreturn, 1) := by decide +kernel
theorem dX11_meanPower_0 : decode cX11_meanPower 0 = .ok (.aload_n 0, 1) := by decide +kernel
theorem dX11_meanPower_1 : decode cX11_meanPower 1 = .ok (.iconst 0, 1) := by decide +kernel
theorem dX11_meanPower_2 : decode cX11_meanPower 2 = .ok (.putfield 49, 3) := by decide +kernel
theorem dX11_meanPower_5 : decode cX11_meanPower 5 = .ok (.iload_n 1, 1) := by decide +kernel
theorem dX11_meanPower_6 : decode cX11_meanPower 6 = .ok (.iload_n 2, 1) := by decide +kernel
theorem dX11_meanPower_7 : decode cX11_meanPower 7 = .ok (.invokestatic 200, 3) := by decide +kernel
theorem dX11_meanPower_10 : decode cX11_meanPower 10 = .ok (.ifCond .ne 10, 3) := by decide +kernel
theorem dX11_meanPower_13 : decode cX11_meanPower 13 = .ok (.aload_n 0, 1) := by decide +kernel
theorem dX11_meanPower_14 : decode cX11_meanPower 14 = .ok (.iconst 1, 1) := by decide +kernel
theorem dX11_meanPower_15 : decode cX11_meanPower 15 = .ok (.putfield 49, 3) := by decide +kernel
theorem dX11_meanPower_18 : decode cX11_meanPower 18 = .ok (.dconst 0, 1) := by decide +kernel
theorem dX11_meanPower_19 : decode cX11_meanPower 19 = .ok (.dreturn, 1) := by decide +kernel
theorem dX11_meanPower_20 : decode cX11_meanPower 20 = .ok (.aload_n 0, 1) := by decide +kernel
theorem dX11_meanPower_21 : decode cX11_meanPower 21 = .ok (.iconst 0, 1) := by decide +kernel
theorem dX11_meanPower_22 : decode cX11_meanPower 22 = .ok (.invokevirtual 250, 3) := by decide +kernel
theorem dX11_meanPower_25 : decode cX11_meanPower 25 = .ok (.aload_n 0, 1) := by decide +kernel
theorem dX11_meanPower_26 : decode cX11_meanPower 26 = .ok (.iload_n 1, 1) := by decide +kernel
theorem dX11_meanPower_27 : decode cX11_meanPower 27 = .ok (.iload_n 2, 1) := by decide +kernel
theorem dX11_meanPower_28 : decode cX11_meanPower 28 = .ok (.invokevirtual 268, 3) := by decide +kernel
theorem dX11_meanPower_31 : decode cX11_meanPower 31 = .ok (.dreturn, 1) := by decide +kernel
theorem dX11_crest_0 : decode cX11_crest 0 = .ok (.aload_n 0, 1) := by decide +kernel
theorem dX11_crest_1 : decode cX11_crest 1 = .ok (.iconst 0, 1) := by decide +kernel
theorem dX11_crest_2 : decode cX11_crest 2 = .ok (.putfield 49, 3) := by decide +kernel
theorem dX11_crest_5 : decode cX11_crest 5 = .ok (.iload_n 1, 1) := by decide +kernel
theorem dX11_crest_6 : decode cX11_crest 6 = .ok (.iload_n 2, 1) := by decide +kernel
theorem dX11_crest_7 : decode cX11_crest 7 = .ok (.invokestatic 200, 3) := by decide +kernel
theorem dX11_crest_10 : decode cX11_crest 10 = .ok (.ifCond .ne 10, 3) := by decide +kernel
theorem dX11_crest_13 : decode cX11_crest 13 = .ok (.aload_n 0, 1) := by decide +kernel
theorem dX11_crest_14 : decode cX11_crest 14 = .ok (.iconst 1, 1) := by decide +kernel
theorem dX11_crest_15 : decode cX11_crest 15 = .ok (.putfield 49, 3) := by decide +kernel
theorem dX11_crest_18 : decode cX11_crest 18 = .ok (.fconst 0, 1) := by decide +kernel
theorem dX11_crest_19 : decode cX11_crest 19 = .ok (.freturn, 1) := by decide +kernel
theorem dX11_crest_20 : decode cX11_crest 20 = .ok (.aload_n 0, 1) := by decide +kernel
theorem dX11_crest_21 : decode cX11_crest 21 = .ok (.iconst 0, 1) := by decide +kernel
theorem dX11_crest_22 : decode cX11_crest 22 = .ok (.invokevirtual 250, 3) := by decide +kernel
theorem dX11_crest_25 : decode cX11_crest 25 = .ok (.aload_n 0, 1) := by decide +kernel
theorem dX11_crest_26 : decode cX11_crest 26 = .ok (.iload_n 1, 1) := by decide +kernel
theorem dX11_crest_27 : decode cX11_crest 27 = .ok (.iload_n 2, 1) := by decide +kernel
theorem dX11_crest_28 : decode cX11_crest 28 = .ok (.invokevirtual 188, 3) := by decide +kernel
theorem dX11_crest_31 : decode cX11_crest 31 = .ok (.i2d, 1) := by decide +kernel
theorem dX11_crest_32 : decode cX11_crest 32 = .ok (.dstore_n 3, 1) := by decide +kernel
theorem dX11_crest_33 : decode cX11_crest 33 = .ok (.aload_n 0, 1) := by decide +kernel
theorem dX11_crest_34 : decode cX11_crest 34 = .ok (.iload_n 1, 1) := by decide +kernel
theorem dX11_crest_35 : decode cX11_crest 35 = .ok (.iload_n 2, 1) := by decide +kernel
theorem dX11_crest_36 : decode cX11_crest 36 = .ok (.invokevirtual 184, 3) := by decide +kernel
theorem dX11_crest_39 : decode cX11_crest 39 = .ok (.lconst 0, 1) := by decide +kernel
theorem dX11_crest_40 : decode cX11_crest 40 = .ok (.lcmp, 1) := by decide +kernel
theorem dX11_crest_41 : decode cX11_crest 41 = .ok (.ifCond .ne 7, 3) := by decide +kernel
theorem dX11_crest_44 : decode cX11_crest 44 = .ok (.fconst 0, 1) := by decide +kernel
theorem dX11_crest_45 : decode cX11_crest 45 = .ok (.goto 14, 3) := by decide +kernel
theorem dX11_crest_48 : decode cX11_crest 48 = .ok (.dload_n 3, 1) := by decide +kernel
theorem dX11_crest_49 : decode cX11_crest 49 = .ok (.dload_n 3, 1) := by decide +kernel
theorem dX11_crest_50 : decode cX11_crest 50 = .ok (.dmul, 1) := by decide +kernel
theorem dX11_crest_51 : decode cX11_crest 51 = .ok (.aload_n 0, 1) := by decide +kernel
theorem dX11_crest_52 : decode cX11_crest 52 = .ok (.iload_n 1, 1) := by decide +kernel
theorem dX11_crest_53 : decode cX11_crest 53 = .ok (.iload_n 2, 1) := by decide +kernel
theorem dX11_crest_54 : decode cX11_crest 54 = .ok (.invokevirtual 268, 3) := by decide +kernel
theorem dX11_crest_57 : decode cX11_crest 57 = .ok (.ddiv, 1) := by decide +kernel
theorem dX11_crest_58 : decode cX11_crest 58 = .ok (.d2f, 1) := by decide +kernel
theorem dX11_crest_59 : decode cX11_crest 59 = .ok (.freturn, 1) := by decide +kernel
theorem dX11_appendText_0 : decode cX11_appendText 0 = .ok (.aload_n 0, 1) := by decide +kernel
theorem dX11_appendText_1 : decode cX11_appendText 1 = .ok (.iconst 0, 1) := by decide +kernel
theorem dX11_appendText_2 : decode cX11_appendText 2 = .ok (.putfield 49, 3) := by decide +kernel
theorem dX11_appendText_5 : decode cX11_appendText 5 = .ok (.aload_n 0, 1) := by decide +kernel
theorem dX11_appendText_6 : decode cX11_appendText 6 = .ok (.getfield 272, 3) := by decide +kernel
theorem dX11_appendText_9 : decode cX11_appendText 9 = .ok (.iconst 4, 1) := by decide +kernel
theorem dX11_appendText_10 : decode cX11_appendText 10 = .ok (.iadd, 1) := by decide +kernel
theorem dX11_appendText_11 : decode cX11_appendText 11 = .ok (.sipush 500, 3) := by decide +kernel
theorem dX11_appendText_14 : decode cX11_appendText 14 = .ok (.if_icmp .le 9, 3) := by decide +kernel
theorem dX11_appendText_17 : decode cX11_appendText 17 = .ok (.aload_n 0, 1) := by decide +kernel
theorem dX11_appendText_18 : decode cX11_appendText 18 = .ok (.iconst 1, 1) := by decide +kernel
theorem dX11_appendText_19 : decode cX11_appendText 19 = .ok (.invokevirtual 64, 3) := by decide +kernel
theorem dX11_appendText_22 : decode cX11_appendText 22 = .ok (.ireturn, 1) := by decide +kernel
theorem dX11_appendText_23 : decode cX11_appendText 23 = .ok (.bipush 24, 2) := by decide +kernel
theorem dX11_appendText_25 : decode cX11_appendText 25 = .ok (.istore_n 2, 1) := by decide +kernel
theorem dX11_appendText_26 : decode cX11_appendText 26 = .ok (.iload_n 2, 1) := by decide +kernel
theorem dX11_appendText_27 : decode cX11_appendText 27 = .ok (.ifCond .lt 35, 3) := by decide +kernel
theorem dX11_appendText_30 : decode cX11_appendText 30 = .ok (.aload_n 0, 1) := by decide +kernel
theorem dX11_appendText_31 : decode cX11_appendText 31 = .ok (.getfield 39, 3) := by decide +kernel
theorem dX11_appendText_34 : decode cX11_appendText 34 = .ok (.aload_n 0, 1) := by decide +kernel
theorem dX11_appendText_35 : decode cX11_appendText 35 = .ok (.getfield 272, 3) := by decide +kernel
theorem dX11_appendText_38 : decode cX11_appendText 38 = .ok (.iload_n 1, 1) := by decide +kernel
theorem dX11_appendText_39 : decode cX11_appendText 39 = .ok (.iload_n 2, 1) := by decide +kernel
theorem dX11_appendText_40 : decode cX11_appendText 40 = .ok (.ishr, 1) := by decide +kernel
theorem dX11_appendText_41 : decode cX11_appendText 41 = .ok (.sipush 255, 3) := by decide +kernel
theorem dX11_appendText_44 : decode cX11_appendText 44 = .ok (.iand, 1) := by decide +kernel
theorem dX11_appendText_45 : decode cX11_appendText 45 = .ok (.iastore, 1) := by decide +kernel
theorem dX11_appendText_46 : decode cX11_appendText 46 = .ok (.aload_n 0, 1) := by decide +kernel
theorem dX11_appendText_47 : decode cX11_appendText 47 = .ok (.dup, 1) := by decide +kernel
theorem dX11_appendText_48 : decode cX11_appendText 48 = .ok (.getfield 272, 3) := by decide +kernel
theorem dX11_appendText_51 : decode cX11_appendText 51 = .ok (.iconst 1, 1) := by decide +kernel
theorem dX11_appendText_52 : decode cX11_appendText 52 = .ok (.iadd, 1) := by decide +kernel
theorem dX11_appendText_53 : decode cX11_appendText 53 = .ok (.putfield 272, 3) := by decide +kernel
theorem dX11_appendText_56 : decode cX11_appendText 56 = .ok (.iinc 2 (-8), 3) := by decide +kernel
theorem dX11_appendText_59 : decode cX11_appendText 59 = .ok (.goto (-33), 3) := by decide +kernel
theorem dX11_appendText_62 : decode cX11_appendText 62 = .ok (.aload_n 0, 1) := by decide +kernel
theorem dX11_appendText_63 : decode cX11_appendText 63 = .ok (.getfield 272, 3) := by decide +kernel
theorem dX11_appendText_66 : decode cX11_appendText 66 = .ok (.ireturn, 1) := by decide +kernel
theorem dX11_truncateText_0 : decode cX11_truncateText 0 = .ok (.aload_n 0, 1) := by decide +kernel
theorem dX11_truncateText_1 : decode cX11_truncateText 1 = .ok (.iconst 0, 1) := by decide +kernel
theorem dX11_truncateText_2 : decode cX11_truncateText 2 = .ok (.putfield 49, 3) := by decide +kernel
theorem dX11_truncateText_5 : decode cX11_truncateText 5 = .ok (.iload_n 1, 1) := by decide +kernel
theorem dX11_truncateText_6 : decode cX11_truncateText 6 = .ok (.iconst 0, 1) := by decide +kernel
theorem dX11_truncateText_7 : decode cX11_truncateText 7 = .ok (.aload_n 0, 1) := by decide +kernel
theorem dX11_truncateText_8 : decode cX11_truncateText 8 = .ok (.getfield 272, 3) := by decide +kernel
theorem dX11_truncateText_11 : decode cX11_truncateText 11 = .ok (.invokestatic 52, 3) := by decide +kernel
theorem dX11_truncateText_14 : decode cX11_truncateText 14 = .ok (.ifCond .ne 9, 3) := by decide +kernel
theorem dX11_truncateText_17 : decode cX11_truncateText 17 = .ok (.aload_n 0, 1) := by decide +kernel
theorem dX11_truncateText_18 : decode cX11_truncateText 18 = .ok (.iconst 1, 1) := by decide +kernel
theorem dX11_truncateText_19 : decode cX11_truncateText 19 = .ok (.invokevirtual 64, 3) := by decide +kernel
theorem dX11_truncateText_22 : decode cX11_truncateText 22 = .ok (.ireturn, 1) := by decide +kernel
theorem dX11_truncateText_23 : decode cX11_truncateText 23 = .ok (.aload_n 0, 1) := by decide +kernel
theorem dX11_truncateText_24 : decode cX11_truncateText 24 = .ok (.iload_n 1, 1) := by decide +kernel
theorem dX11_truncateText_25 : decode cX11_truncateText 25 = .ok (.putfield 272, 3) := by decide +kernel
theorem dX11_truncateText_28 : decode cX11_truncateText 28 = .ok (.aload_n 0, 1) := by decide +kernel
theorem dX11_truncateText_29 : decode cX11_truncateText 29 = .ok (.getfield 272, 3) := by decide +kernel
theorem dX11_truncateText_32 : decode cX11_truncateText 32 = .ok (.ireturn, 1) := by decide +kernel
theorem dX11_byteAt_0 : decode cX11_byteAt 0 = .ok (.iload_n 1, 1) := by decide +kernel
theorem dX11_byteAt_1 : decode cX11_byteAt 1 = .ok (.aload_n 0, 1) := by decide +kernel
theorem dX11_byteAt_2 : decode cX11_byteAt 2 = .ok (.getfield 272, 3) := by decide +kernel
theorem dX11_byteAt_5 : decode cX11_byteAt 5 = .ok (.if_icmp .ge 12, 3) := by decide +kernel
theorem dX11_byteAt_8 : decode cX11_byteAt 8 = .ok (.aload_n 0, 1) := by decide +kernel
theorem dX11_byteAt_9 : decode cX11_byteAt 9 = .ok (.getfield 39, 3) := by decide +kernel
theorem dX11_byteAt_12 : decode cX11_byteAt 12 = .ok (.iload_n 1, 1) := by decide +kernel
theorem dX11_byteAt_13 : decode cX11_byteAt 13 = .ok (.iaload, 1) := by decide +kernel
theorem dX11_byteAt_14 : decode cX11_byteAt 14 = .ok (.goto 4, 3) := by decide +kernel
theorem dX11_byteAt_17 : decode cX11_byteAt 17 = .ok (.iconst (-1), 1) := by decide +kernel
theorem dX11_byteAt_18 : decode cX11_byteAt 18 = .ok (.ireturn, 1) := by decide +kernel
theorem dX11_isLetter_0 : decode cX11_isLetter 0 = .ok (.iload_n 0, 1) := by decide +kernel
theorem dX11_isLetter_1 : decode cX11_isLetter 1 = .ok (.bipush 97, 2) := by decide +kernel
theorem dX11_isLetter_3 : decode cX11_isLetter 3 = .ok (.bipush 122, 2) := by decide +kernel
theorem dX11_isLetter_5 : decode cX11_isLetter 5 = .ok (.invokestatic 52, 3) := by decide +kernel
theorem dX11_isLetter_8 : decode cX11_isLetter 8 = .ok (.ireturn, 1) := by decide +kernel
theorem dX11_isDigit_0 : decode cX11_isDigit 0 = .ok (.iload_n 0, 1) := by decide +kernel
theorem dX11_isDigit_1 : decode cX11_isDigit 1 = .ok (.bipush 48, 2) := by decide +kernel
theorem dX11_isDigit_3 : decode cX11_isDigit 3 = .ok (.bipush 57, 2) := by decide +kernel
theorem dX11_isDigit_5 : decode cX11_isDigit 5 = .ok (.invokestatic 52, 3) := by decide +kernel
theorem dX11_isDigit_8 : decode cX11_isDigit 8 = .ok (.ireturn, 1) := by decide +kernel
theorem dX11_nextToken_0 : decode cX11_nextToken 0 = .ok (.aload_n 0, 1) := by decide +kernel
theorem dX11_nextToken_1 : decode cX11_nextToken 1 = .ok (.aload_n 0, 1) := by decide +kernel
theorem dX11_nextToken_2 : decode cX11_nextToken 2 = .ok (.getfield 275, 3) := by decide +kernel
theorem dX11_nextToken_5 : decode cX11_nextToken 5 = .ok (.invokevirtual 278, 3) := by decide +kernel
theorem dX11_nextToken_8 : decode cX11_nextToken 8 = .ok (.bipush 32, 2) := by decide +kernel
theorem dX11_nextToken_10 : decode cX11_nextToken 10 = .ok (.if_icmp .eq 16, 3) := by decide +kernel
theorem dX11_nextToken_13 : decode cX11_nextToken 13 = .ok (.aload_n 0, 1) := by decide +kernel
theorem dX11_nextToken_14 : decode cX11_nextToken 14 = .ok (.aload_n 0, 1) := by decide +kernel
theorem dX11_nextToken_15 : decode cX11_nextToken 15 = .ok (.getfield 275, 3) := by decide +kernel
theorem dX11_nextToken_18 : decode cX11_nextToken 18 = .ok (.invokevirtual 278, 3) := by decide +kernel
theorem dX11_nextToken_21 : decode cX11_nextToken 21 = .ok (.bipush 10, 2) := by decide +kernel
theorem dX11_nextToken_23 : decode cX11_nextToken 23 = .ok (.if_icmp .ne 16, 3) := by decide +kernel
theorem dX11_nextToken_26 : decode cX11_nextToken 26 = .ok (.aload_n 0, 1) := by decide +kernel
theorem dX11_nextToken_27 : decode cX11_nextToken 27 = .ok (.dup, 1) := by decide +kernel
theorem dX11_nextToken_28 : decode cX11_nextToken 28 = .ok (.getfield 275, 3) := by decide +kernel
theorem dX11_nextToken_31 : decode cX11_nextToken 31 = .ok (.iconst 1, 1) := by decide +kernel
theorem dX11_nextToken_32 : decode cX11_nextToken 32 = .ok (.iadd, 1) := by decide +kernel
theorem dX11_nextToken_33 : decode cX11_nextToken 33 = .ok (.putfield 275, 3) := by decide +kernel
theorem dX11_nextToken_36 : decode cX11_nextToken 36 = .ok (.goto (-36), 3) := by decide +kernel
theorem dX11_nextToken_39 : decode cX11_nextToken 39 = .ok (.aload_n 0, 1) := by decide +kernel
theorem dX11_nextToken_40 : decode cX11_nextToken 40 = .ok (.aload_n 0, 1) := by decide +kernel
theorem dX11_nextToken_41 : decode cX11_nextToken 41 = .ok (.getfield 275, 3) := by decide +kernel
theorem dX11_nextToken_44 : decode cX11_nextToken 44 = .ok (.putfield 281, 3) := by decide +kernel
theorem dX11_nextToken_47 : decode cX11_nextToken 47 = .ok (.aload_n 0, 1) := by decide +kernel
theorem dX11_nextToken_48 : decode cX11_nextToken 48 = .ok (.iconst 0, 1) := by decide +kernel
theorem dX11_nextToken_49 : decode cX11_nextToken 49 = .ok (.putfield 284, 3) := by decide +kernel
theorem dX11_nextToken_52 : decode cX11_nextToken 52 = .ok (.aload_n 0, 1) := by decide +kernel
theorem dX11_nextToken_53 : decode cX11_nextToken 53 = .ok (.lconst 0, 1) := by decide +kernel
theorem dX11_nextToken_54 : decode cX11_nextToken 54 = .ok (.putfield 287, 3) := by decide +kernel
theorem dX11_nextToken_57 : decode cX11_nextToken 57 = .ok (.aload_n 0, 1) := by decide +kernel
theorem dX11_nextToken_58 : decode cX11_nextToken 58 = .ok (.iconst 0, 1) := by decide +kernel
theorem dX11_nextToken_59 : decode cX11_nextToken 59 = .ok (.putfield 291, 3) := by decide +kernel
theorem dX11_nextToken_62 : decode cX11_nextToken 62 = .ok (.aload_n 0, 1) := by decide +kernel
theorem dX11_nextToken_63 : decode cX11_nextToken 63 = .ok (.aload_n 0, 1) := by decide +kernel
theorem dX11_nextToken_64 : decode cX11_nextToken 64 = .ok (.getfield 275, 3) := by decide +kernel
theorem dX11_nextToken_67 : decode cX11_nextToken 67 = .ok (.invokevirtual 278, 3) := by decide +kernel
theorem dX11_nextToken_70 : decode cX11_nextToken 70 = .ok (.istore_n 1, 1) := by decide +kernel
theorem dX11_nextToken_71 : decode cX11_nextToken 71 = .ok (.iload_n 1, 1) := by decide +kernel
theorem dX11_nextToken_72 : decode cX11_nextToken 72 = .ok (.iconst (-1), 1) := by decide +kernel
theorem dX11_nextToken_73 : decode cX11_nextToken 73 = .ok (.if_icmp .ne 11, 3) := by decide +kernel
theorem dX11_nextToken_76 : decode cX11_nextToken 76 = .ok (.aload_n 0, 1) := by decide +kernel
theorem dX11_nextToken_77 : decode cX11_nextToken 77 = .ok (.iconst 0, 1) := by decide +kernel
theorem dX11_nextToken_78 : decode cX11_nextToken 78 = .ok (.putfield 294, 3) := by decide +kernel
theorem dX11_nextToken_81 : decode cX11_nextToken 81 = .ok (.goto 208, 3) := by decide +kernel
theorem dX11_nextToken_84 : decode cX11_nextToken 84 = .ok (.iload_n 1, 1) := by decide +kernel
theorem dX11_nextToken_85 : decode cX11_nextToken 85 = .ok (.invokestatic 297, 3) := by decide +kernel
theorem dX11_nextToken_88 : decode cX11_nextToken 88 = .ok (.ifCond .eq 87, 3) := by decide +kernel
theorem dX11_nextToken_91 : decode cX11_nextToken 91 = .ok (.aload_n 0, 1) := by decide +kernel
theorem dX11_nextToken_92 : decode cX11_nextToken 92 = .ok (.iconst 2, 1) := by decide +kernel
theorem dX11_nextToken_93 : decode cX11_nextToken 93 = .ok (.putfield 294, 3) := by decide +kernel
theorem dX11_nextToken_96 : decode cX11_nextToken 96 = .ok (.aload_n 0, 1) := by decide +kernel
theorem dX11_nextToken_97 : decode cX11_nextToken 97 = .ok (.aload_n 0, 1) := by decide +kernel
theorem dX11_nextToken_98 : decode cX11_nextToken 98 = .ok (.getfield 275, 3) := by decide +kernel
theorem dX11_nextToken_101 : decode cX11_nextToken 101 = .ok (.invokevirtual 278, 3) := by decide +kernel
theorem dX11_nextToken_104 : decode cX11_nextToken 104 = .ok (.invokestatic 297, 3) := by decide +kernel
theorem dX11_nextToken_107 : decode cX11_nextToken 107 = .ok (.ifCond .eq 182, 3) := by decide +kernel
theorem dX11_nextToken_110 : decode cX11_nextToken 110 = .ok (.aload_n 0, 1) := by decide +kernel
theorem dX11_nextToken_111 : decode cX11_nextToken 111 = .ok (.aload_n 0, 1) := by decide +kernel
theorem dX11_nextToken_112 : decode cX11_nextToken 112 = .ok (.getfield 284, 3) := by decide +kernel
theorem dX11_nextToken_115 : decode cX11_nextToken 115 = .ok (.bipush 10, 2) := by decide +kernel
theorem dX11_nextToken_117 : decode cX11_nextToken 117 = .ok (.if_icmp .ge 28, 3) := by decide +kernel
theorem dX11_nextToken_120 : decode cX11_nextToken 120 = .ok (.ldc2_w 300, 3) := by decide +kernel
theorem dX11_nextToken_123 : decode cX11_nextToken 123 = .ok (.aload_n 0, 1) := by decide +kernel
theorem dX11_nextToken_124 : decode cX11_nextToken 124 = .ok (.getfield 287, 3) := by decide +kernel
theorem dX11_nextToken_127 : decode cX11_nextToken 127 = .ok (.lmul, 1) := by decide +kernel
theorem dX11_nextToken_128 : decode cX11_nextToken 128 = .ok (.aload_n 0, 1) := by decide +kernel
theorem dX11_nextToken_129 : decode cX11_nextToken 129 = .ok (.aload_n 0, 1) := by decide +kernel
theorem dX11_nextToken_130 : decode cX11_nextToken 130 = .ok (.getfield 275, 3) := by decide +kernel
theorem dX11_nextToken_133 : decode cX11_nextToken 133 = .ok (.invokevirtual 278, 3) := by decide +kernel
theorem dX11_nextToken_136 : decode cX11_nextToken 136 = .ok (.i2l, 1) := by decide +kernel
theorem dX11_nextToken_137 : decode cX11_nextToken 137 = .ok (.ladd, 1) := by decide +kernel
theorem dX11_nextToken_138 : decode cX11_nextToken 138 = .ok (.ldc2_w 302, 3) := by decide +kernel
theorem dX11_nextToken_141 : decode cX11_nextToken 141 = .ok (.lsub, 1) := by decide +kernel
theorem dX11_nextToken_142 : decode cX11_nextToken 142 = .ok (.goto 7, 3) := by decide +kernel
theorem dX11_nextToken_145 : decode cX11_nextToken 145 = .ok (.aload_n 0, 1) := by decide +kernel
theorem dX11_nextToken_146 : decode cX11_nextToken 146 = .ok (.getfield 287, 3) := by decide +kernel
theorem dX11_nextToken_149 : decode cX11_nextToken 149 = .ok (.putfield 287, 3) := by decide +kernel
theorem dX11_nextToken_152 : decode cX11_nextToken 152 = .ok (.aload_n 0, 1) := by decide +kernel
theorem dX11_nextToken_153 : decode cX11_nextToken 153 = .ok (.dup, 1) := by decide +kernel
theorem dX11_nextToken_154 : decode cX11_nextToken 154 = .ok (.getfield 284, 3) := by decide +kernel
theorem dX11_nextToken_157 : decode cX11_nextToken 157 = .ok (.iconst 1, 1) := by decide +kernel
theorem dX11_nextToken_158 : decode cX11_nextToken 158 = .ok (.iadd, 1) := by decide +kernel
theorem dX11_nextToken_159 : decode cX11_nextToken 159 = .ok (.putfield 284, 3) := by decide +kernel
theorem dX11_nextToken_162 : decode cX11_nextToken 162 = .ok (.aload_n 0, 1) := by decide +kernel
theorem dX11_nextToken_163 : decode cX11_nextToken 163 = .ok (.dup, 1) := by decide +kernel
theorem dX11_nextToken_164 : decode cX11_nextToken 164 = .ok (.getfield 275, 3) := by decide +kernel
theorem dX11_nextToken_167 : decode cX11_nextToken 167 = .ok (.iconst 1, 1) := by decide +kernel
theorem dX11_nextToken_168 : decode cX11_nextToken 168 = .ok (.iadd, 1) := by decide +kernel
theorem dX11_nextToken_169 : decode cX11_nextToken 169 = .ok (.putfield 275, 3) := by decide +kernel
theorem dX11_nextToken_172 : decode cX11_nextToken 172 = .ok (.goto (-76), 3) := by decide +kernel
theorem dX11_nextToken_175 : decode cX11_nextToken 175 = .ok (.iload_n 1, 1) := by decide +kernel
theorem dX11_nextToken_176 : decode cX11_nextToken 176 = .ok (.invokestatic 304, 3) := by decide +kernel
theorem dX11_nextToken_179 : decode cX11_nextToken 179 = .ok (.ifCond .eq 75, 3) := by decide +kernel
theorem dX11_nextToken_182 : decode cX11_nextToken 182 = .ok (.aload_n 0, 1) := by decide +kernel
theorem dX11_nextToken_183 : decode cX11_nextToken 183 = .ok (.iconst 3, 1) := by decide +kernel
theorem dX11_nextToken_184 : decode cX11_nextToken 184 = .ok (.putfield 294, 3) := by decide +kernel
theorem dX11_nextToken_187 : decode cX11_nextToken 187 = .ok (.aload_n 0, 1) := by decide +kernel
theorem dX11_nextToken_188 : decode cX11_nextToken 188 = .ok (.aload_n 0, 1) := by decide +kernel
theorem dX11_nextToken_189 : decode cX11_nextToken 189 = .ok (.getfield 275, 3) := by decide +kernel
theorem dX11_nextToken_192 : decode cX11_nextToken 192 = .ok (.invokevirtual 278, 3) := by decide +kernel
theorem dX11_nextToken_195 : decode cX11_nextToken 195 = .ok (.invokestatic 304, 3) := by decide +kernel
theorem dX11_nextToken_198 : decode cX11_nextToken 198 = .ok (.ifCond .eq 91, 3) := by decide +kernel
theorem dX11_nextToken_201 : decode cX11_nextToken 201 = .ok (.aload_n 0, 1) := by decide +kernel
theorem dX11_nextToken_202 : decode cX11_nextToken 202 = .ok (.aload_n 0, 1) := by decide +kernel
theorem dX11_nextToken_203 : decode cX11_nextToken 203 = .ok (.getfield 291, 3) := by decide +kernel
theorem dX11_nextToken_206 : decode cX11_nextToken 206 = .ok (.sipush 20000, 3) := by decide +kernel
theorem dX11_nextToken_209 : decode cX11_nextToken 209 = .ok (.if_icmp .le 10, 3) := by decide +kernel
theorem dX11_nextToken_212 : decode cX11_nextToken 212 = .ok (.aload_n 0, 1) := by decide +kernel
theorem dX11_nextToken_213 : decode cX11_nextToken 213 = .ok (.getfield 291, 3) := by decide +kernel
theorem dX11_nextToken_216 : decode cX11_nextToken 216 = .ok (.goto 22, 3) := by decide +kernel
theorem dX11_nextToken_219 : decode cX11_nextToken 219 = .ok (.bipush 10, 2) := by decide +kernel
theorem dX11_nextToken_221 : decode cX11_nextToken 221 = .ok (.aload_n 0, 1) := by decide +kernel
theorem dX11_nextToken_222 : decode cX11_nextToken 222 = .ok (.getfield 291, 3) := by decide +kernel
theorem dX11_nextToken_225 : decode cX11_nextToken 225 = .ok (.imul, 1) := by decide +kernel
theorem dX11_nextToken_226 : decode cX11_nextToken 226 = .ok (.aload_n 0, 1) := by decide +kernel
theorem dX11_nextToken_227 : decode cX11_nextToken 227 = .ok (.aload_n 0, 1) := by decide +kernel
theorem dX11_nextToken_228 : decode cX11_nextToken 228 = .ok (.getfield 275, 3) := by decide +kernel
theorem dX11_nextToken_231 : decode cX11_nextToken 231 = .ok (.invokevirtual 278, 3) := by decide +kernel
theorem dX11_nextToken_234 : decode cX11_nextToken 234 = .ok (.iadd, 1) := by decide +kernel
theorem dX11_nextToken_235 : decode cX11_nextToken 235 = .ok (.bipush 48, 2) := by decide +kernel
theorem dX11_nextToken_237 : decode cX11_nextToken 237 = .ok (.isub, 1) := by decide +kernel
theorem dX11_nextToken_238 : decode cX11_nextToken 238 = .ok (.putfield 291, 3) := by decide +kernel
theorem dX11_nextToken_241 : decode cX11_nextToken 241 = .ok (.aload_n 0, 1) := by decide +kernel
theorem dX11_nextToken_242 : decode cX11_nextToken 242 = .ok (.dup, 1) := by decide +kernel
theorem dX11_nextToken_243 : decode cX11_nextToken 243 = .ok (.getfield 275, 3) := by decide +kernel
theorem dX11_nextToken_246 : decode cX11_nextToken 246 = .ok (.iconst 1, 1) := by decide +kernel
theorem dX11_nextToken_247 : decode cX11_nextToken 247 = .ok (.iadd, 1) := by decide +kernel
theorem dX11_nextToken_248 : decode cX11_nextToken 248 = .ok (.putfield 275, 3) := by decide +kernel
theorem dX11_nextToken_251 : decode cX11_nextToken 251 = .ok (.goto (-64), 3) := by decide +kernel
theorem dX11_nextToken_254 : decode cX11_nextToken 254 = .ok (.aload_n 0, 1) := by decide +kernel
theorem dX11_nextToken_255 : decode cX11_nextToken 255 = .ok (.iload_n 1, 1) := by decide +kernel
theorem dX11_nextToken_256 : decode cX11_nextToken 256 = .ok (.bipush 59, 2) := by decide +kernel
theorem dX11_nextToken_258 : decode cX11_nextToken 258 = .ok (.if_icmp .ne 7, 3) := by decide +kernel
theorem dX11_nextToken_261 : decode cX11_nextToken 261 = .ok (.iconst 4, 1) := by decide +kernel
theorem dX11_nextToken_262 : decode cX11_nextToken 262 = .ok (.goto 14, 3) := by decide +kernel
theorem dX11_nextToken_265 : decode cX11_nextToken 265 = .ok (.iload_n 1, 1) := by decide +kernel
theorem dX11_nextToken_266 : decode cX11_nextToken 266 = .ok (.bipush 45, 2) := by decide +kernel
theorem dX11_nextToken_268 : decode cX11_nextToken 268 = .ok (.if_icmp .ne 7, 3) := by decide +kernel
theorem dX11_nextToken_271 : decode cX11_nextToken 271 = .ok (.iconst 5, 1) := by decide +kernel
theorem dX11_nextToken_272 : decode cX11_nextToken 272 = .ok (.goto 4, 3) := by decide +kernel
theorem dX11_nextToken_275 : decode cX11_nextToken 275 = .ok (.iconst 1, 1) := by decide +kernel
theorem dX11_nextToken_276 : decode cX11_nextToken 276 = .ok (.putfield 294, 3) := by decide +kernel
theorem dX11_nextToken_279 : decode cX11_nextToken 279 = .ok (.aload_n 0, 1) := by decide +kernel
theorem dX11_nextToken_280 : decode cX11_nextToken 280 = .ok (.dup, 1) := by decide +kernel
theorem dX11_nextToken_281 : decode cX11_nextToken 281 = .ok (.getfield 275, 3) := by decide +kernel
theorem dX11_nextToken_284 : decode cX11_nextToken 284 = .ok (.iconst 1, 1) := by decide +kernel
theorem dX11_nextToken_285 : decode cX11_nextToken 285 = .ok (.iadd, 1) := by decide +kernel
theorem dX11_nextToken_286 : decode cX11_nextToken 286 = .ok (.putfield 275, 3) := by decide +kernel
theorem dX11_nextToken_289 : decode cX11_nextToken 289 = .ok (.return_, 1) := by decide +kernel
theorem dX11_isWord_0 : decode cX11_isWord 0 = .ok (.aload_n 0, 1) := by decide +kernel
theorem dX11_isWord_1 : decode cX11_isWord 1 = .ok (.getfield 294, 3) := by decide +kernel
theorem dX11_isWord_4 : decode cX11_isWord 4 = .ok (.iconst 2, 1) := by decide +kernel
theorem dX11_isWord_5 : decode cX11_isWord 5 = .ok (.if_icmp .ne 14, 3) := by decide +kernel
theorem dX11_isWord_8 : decode cX11_isWord 8 = .ok (.aload_n 0, 1) := by decide +kernel
theorem dX11_isWord_9 : decode cX11_isWord 9 = .ok (.getfield 284, 3) := by decide +kernel
theorem dX11_isWord_12 : decode cX11_isWord 12 = .ok (.aload_n 1, 1) := by decide +kernel
theorem dX11_isWord_13 : decode cX11_isWord 13 = .ok (.invokevirtual 307, 3) := by decide +kernel
theorem dX11_isWord_16 : decode cX11_isWord 16 = .ok (.if_icmp .eq 5, 3) := by decide +kernel
theorem dX11_isWord_19 : decode cX11_isWord 19 = .ok (.iconst 0, 1) := by decide +kernel
theorem dX11_isWord_20 : decode cX11_isWord 20 = .ok (.ireturn, 1) := by decide +kernel
theorem dX11_isWord_21 : decode cX11_isWord 21 = .ok (.lconst 0, 1) := by decide +kernel
theorem dX11_isWord_22 : decode cX11_isWord 22 = .ok (.lstore_n 2, 1) := by decide +kernel
theorem dX11_isWord_23 : decode cX11_isWord 23 = .ok (.iconst 0, 1) := by decide +kernel
theorem dX11_isWord_24 : decode cX11_isWord 24 = .ok (.istore 4, 2) := by decide +kernel
theorem dX11_isWord_26 : decode cX11_isWord 26 = .ok (.iload 4, 2) := by decide +kernel
theorem dX11_isWord_28 : decode cX11_isWord 28 = .ok (.aload_n 1, 1) := by decide +kernel
theorem dX11_isWord_29 : decode cX11_isWord 29 = .ok (.invokevirtual 307, 3) := by decide +kernel
theorem dX11_isWord_32 : decode cX11_isWord 32 = .ok (.if_icmp .ge 27, 3) := by decide +kernel
theorem dX11_isWord_35 : decode cX11_isWord 35 = .ok (.ldc2_w 300, 3) := by decide +kernel
theorem dX11_isWord_38 : decode cX11_isWord 38 = .ok (.lload_n 2, 1) := by decide +kernel
theorem dX11_isWord_39 : decode cX11_isWord 39 = .ok (.lmul, 1) := by decide +kernel
theorem dX11_isWord_40 : decode cX11_isWord 40 = .ok (.aload_n 1, 1) := by decide +kernel
theorem dX11_isWord_41 : decode cX11_isWord 41 = .ok (.iload 4, 2) := by decide +kernel
theorem dX11_isWord_43 : decode cX11_isWord 43 = .ok (.invokevirtual 313, 3) := by decide +kernel
theorem dX11_isWord_46 : decode cX11_isWord 46 = .ok (.i2l, 1) := by decide +kernel
theorem dX11_isWord_47 : decode cX11_isWord 47 = .ok (.ladd, 1) := by decide +kernel
theorem dX11_isWord_48 : decode cX11_isWord 48 = .ok (.ldc2_w 302, 3) := by decide +kernel
theorem dX11_isWord_51 : decode cX11_isWord 51 = .ok (.lsub, 1) := by decide +kernel
theorem dX11_isWord_52 : decode cX11_isWord 52 = .ok (.lstore_n 2, 1) := by decide +kernel
theorem dX11_isWord_53 : decode cX11_isWord 53 = .ok (.iinc 4 1, 3) := by decide +kernel
theorem dX11_isWord_56 : decode cX11_isWord 56 = .ok (.goto (-30), 3) := by decide +kernel
theorem dX11_isWord_59 : decode cX11_isWord 59 = .ok (.aload_n 0, 1) := by decide +kernel
theorem dX11_isWord_60 : decode cX11_isWord 60 = .ok (.getfield 287, 3) := by decide +kernel
theorem dX11_isWord_63 : decode cX11_isWord 63 = .ok (.lload_n 2, 1) := by decide +kernel
theorem dX11_isWord_64 : decode cX11_isWord 64 = .ok (.lcmp, 1) := by decide +kernel
theorem dX11_isWord_65 : decode cX11_isWord 65 = .ok (.ifCond .ne 7, 3) := by decide +kernel
theorem dX11_isWord_68 : decode cX11_isWord 68 = .ok (.iconst 1, 1) := by decide +kernel
theorem dX11_isWord_69 : decode cX11_isWord 69 = .ok (.goto 4, 3) := by decide +kernel
theorem dX11_isWord_72 : decode cX11_isWord 72 = .ok (.iconst 0, 1) := by decide +kernel
theorem dX11_isWord_73 : decode cX11_isWord 73 = .ok (.ireturn, 1) := by decide +kernel
theorem dX11_require_0 : decode cX11_require 0 = .ok (.iload_n 1, 1) := by decide +kernel
theorem dX11_require_1 : decode cX11_require 1 = .ok (.ifCond .ne 23, 3) := by decide +kernel
theorem dX11_require_4 : decode cX11_require 4 = .ok (.aload_n 0, 1) := by decide +kernel
theorem dX11_require_5 : decode cX11_require 5 = .ok (.getfield 317, 3) := by decide +kernel
theorem dX11_require_8 : decode cX11_require 8 = .ok (.ifCond .ne 16, 3) := by decide +kernel
theorem dX11_require_11 : decode cX11_require 11 = .ok (.aload_n 0, 1) := by decide +kernel
theorem dX11_require_12 : decode cX11_require 12 = .ok (.iload_n 2, 1) := by decide +kernel
theorem dX11_require_13 : decode cX11_require 13 = .ok (.putfield 317, 3) := by decide +kernel
theorem dX11_require_16 : decode cX11_require 16 = .ok (.aload_n 0, 1) := by decide +kernel
theorem dX11_require_17 : decode cX11_require 17 = .ok (.aload_n 0, 1) := by decide +kernel
theorem dX11_require_18 : decode cX11_require 18 = .ok (.getfield 281, 3) := by decide +kernel
theorem dX11_require_21 : decode cX11_require 21 = .ok (.putfield 42, 3) := by decide +kernel
theorem dX11_require_24 : decode cX11_require 24 = .ok (.return_, 1) := by decide +kernel
theorem dX11_advance_0 : decode cX11_advance 0 = .ok (.aload_n 0, 1) := by decide +kernel
theorem dX11_advance_1 : decode cX11_advance 1 = .ok (.getfield 317, 3) := by decide +kernel
theorem dX11_advance_4 : decode cX11_advance 4 = .ok (.ifCond .ne 7, 3) := by decide +kernel
theorem dX11_advance_7 : decode cX11_advance 7 = .ok (.aload_n 0, 1) := by decide +kernel
theorem dX11_advance_8 : decode cX11_advance 8 = .ok (.invokevirtual 320, 3) := by decide +kernel
theorem dX11_advance_11 : decode cX11_advance 11 = .ok (.return_, 1) := by decide +kernel
theorem dX11_parseNumber_0 : decode cX11_parseNumber 0 = .ok (.aload_n 0, 1) := by decide +kernel
theorem dX11_parseNumber_1 : decode cX11_parseNumber 1 = .ok (.aload_n 0, 1) := by decide +kernel
theorem dX11_parseNumber_2 : decode cX11_parseNumber 2 = .ok (.getfield 294, 3) := by decide +kernel
theorem dX11_parseNumber_5 : decode cX11_parseNumber 5 = .ok (.iconst 3, 1) := by decide +kernel
theorem dX11_parseNumber_6 : decode cX11_parseNumber 6 = .ok (.if_icmp .ne 7, 3) := by decide +kernel
theorem dX11_parseNumber_9 : decode cX11_parseNumber 9 = .ok (.iconst 1, 1) := by decide +kernel
theorem dX11_parseNumber_10 : decode cX11_parseNumber 10 = .ok (.goto 4, 3) := by decide +kernel
theorem dX11_parseNumber_13 : decode cX11_parseNumber 13 = .ok (.iconst 0, 1) := by decide +kernel
theorem dX11_parseNumber_14 : decode cX11_parseNumber 14 = .ok (.iconst 1, 1) := by decide +kernel
theorem dX11_parseNumber_15 : decode cX11_parseNumber 15 = .ok (.invokevirtual 323, 3) := by decide +kernel
theorem dX11_parseNumber_18 : decode cX11_parseNumber 18 = .ok (.aload_n 0, 1) := by decide +kernel
theorem dX11_parseNumber_19 : decode cX11_parseNumber 19 = .ok (.aload_n 0, 1) := by decide +kernel
theorem dX11_parseNumber_20 : decode cX11_parseNumber 20 = .ok (.getfield 291, 3) := by decide +kernel
theorem dX11_parseNumber_23 : decode cX11_parseNumber 23 = .ok (.iload_n 1, 1) := by decide +kernel
theorem dX11_parseNumber_24 : decode cX11_parseNumber 24 = .ok (.iload_n 2, 1) := by decide +kernel
theorem dX11_parseNumber_25 : decode cX11_parseNumber 25 = .ok (.invokestatic 52, 3) := by decide +kernel
theorem dX11_parseNumber_28 : decode cX11_parseNumber 28 = .ok (.iconst 2, 1) := by decide +kernel
theorem dX11_parseNumber_29 : decode cX11_parseNumber 29 = .ok (.invokevirtual 323, 3) := by decide +kernel
theorem dX11_parseNumber_32 : decode cX11_parseNumber 32 = .ok (.aload_n 0, 1) := by decide +kernel
theorem dX11_parseNumber_33 : decode cX11_parseNumber 33 = .ok (.getfield 291, 3) := by decide +kernel
theorem dX11_parseNumber_36 : decode cX11_parseNumber 36 = .ok (.istore_n 3, 1) := by decide +kernel
theorem dX11_parseNumber_37 : decode cX11_parseNumber 37 = .ok (.aload_n 0, 1) := by decide +kernel
theorem dX11_parseNumber_38 : decode cX11_parseNumber 38 = .ok (.invokevirtual 327, 3) := by decide +kernel
theorem dX11_parseNumber_41 : decode cX11_parseNumber 41 = .ok (.iload_n 3, 1) := by decide +kernel
theorem dX11_parseNumber_42 : decode cX11_parseNumber 42 = .ok (.ireturn, 1) := by decide +kernel
theorem dX11_parseInteger_0 : decode cX11_parseInteger 0 = .ok (.aload_n 0, 1) := by decide +kernel
theorem dX11_parseInteger_1 : decode cX11_parseInteger 1 = .ok (.getfield 294, 3) := by decide +kernel
theorem dX11_parseInteger_4 : decode cX11_parseInteger 4 = .ok (.iconst 5, 1) := by decide +kernel
theorem dX11_parseInteger_5 : decode cX11_parseInteger 5 = .ok (.if_icmp .eq 10, 3) := by decide +kernel
theorem dX11_parseInteger_8 : decode cX11_parseInteger 8 = .ok (.aload_n 0, 1) := by decide +kernel
theorem dX11_parseInteger_9 : decode cX11_parseInteger 9 = .ok (.iload_n 1, 1) := by decide +kernel
theorem dX11_parseInteger_10 : decode cX11_parseInteger 10 = .ok (.iload_n 2, 1) := by decide +kernel
theorem dX11_parseInteger_11 : decode cX11_parseInteger 11 = .ok (.invokevirtual 330, 3) := by decide +kernel
theorem dX11_parseInteger_14 : decode cX11_parseInteger 14 = .ok (.ireturn, 1) := by decide +kernel
theorem dX11_parseInteger_15 : decode cX11_parseInteger 15 = .ok (.aload_n 0, 1) := by decide +kernel
theorem dX11_parseInteger_16 : decode cX11_parseInteger 16 = .ok (.invokevirtual 327, 3) := by decide +kernel
theorem dX11_parseInteger_19 : decode cX11_parseInteger 19 = .ok (.aload_n 0, 1) := by decide +kernel
theorem dX11_parseInteger_20 : decode cX11_parseInteger 20 = .ok (.aload_n 0, 1) := by decide +kernel
theorem dX11_parseInteger_21 : decode cX11_parseInteger 21 = .ok (.getfield 294, 3) := by decide +kernel
theorem dX11_parseInteger_24 : decode cX11_parseInteger 24 = .ok (.iconst 3, 1) := by decide +kernel
theorem dX11_parseInteger_25 : decode cX11_parseInteger 25 = .ok (.if_icmp .ne 7, 3) := by decide +kernel
theorem dX11_parseInteger_28 : decode cX11_parseInteger 28 = .ok (.iconst 1, 1) := by decide +kernel
theorem dX11_parseInteger_29 : decode cX11_parseInteger 29 = .ok (.goto 4, 3) := by decide +kernel
theorem dX11_parseInteger_32 : decode cX11_parseInteger 32 = .ok (.iconst 0, 1) := by decide +kernel
theorem dX11_parseInteger_33 : decode cX11_parseInteger 33 = .ok (.iconst 1, 1) := by decide +kernel
theorem dX11_parseInteger_34 : decode cX11_parseInteger 34 = .ok (.invokevirtual 323, 3) := by decide +kernel
theorem dX11_parseInteger_37 : decode cX11_parseInteger 37 = .ok (.aload_n 0, 1) := by decide +kernel
theorem dX11_parseInteger_38 : decode cX11_parseInteger 38 = .ok (.aload_n 0, 1) := by decide +kernel
theorem dX11_parseInteger_39 : decode cX11_parseInteger 39 = .ok (.getfield 291, 3) := by decide +kernel
theorem dX11_parseInteger_42 : decode cX11_parseInteger 42 = .ok (.ineg, 1) := by decide +kernel
theorem dX11_parseInteger_43 : decode cX11_parseInteger 43 = .ok (.iload_n 1, 1) := by decide +kernel
theorem dX11_parseInteger_44 : decode cX11_parseInteger 44 = .ok (.iload_n 2, 1) := by decide +kernel
theorem dX11_parseInteger_45 : decode cX11_parseInteger 45 = .ok (.invokestatic 52, 3) := by decide +kernel
theorem dX11_parseInteger_48 : decode cX11_parseInteger 48 = .ok (.iconst 2, 1) := by decide +kernel
theorem dX11_parseInteger_49 : decode cX11_parseInteger 49 = .ok (.invokevirtual 323, 3) := by decide +kernel
theorem dX11_parseInteger_52 : decode cX11_parseInteger 52 = .ok (.aload_n 0, 1) := by decide +kernel
theorem dX11_parseInteger_53 : decode cX11_parseInteger 53 = .ok (.getfield 291, 3) := by decide +kernel
theorem dX11_parseInteger_56 : decode cX11_parseInteger 56 = .ok (.ineg, 1) := by decide +kernel
theorem dX11_parseInteger_57 : decode cX11_parseInteger 57 = .ok (.istore_n 3, 1) := by decide +kernel
theorem dX11_parseInteger_58 : decode cX11_parseInteger 58 = .ok (.aload_n 0, 1) := by decide +kernel
theorem dX11_parseInteger_59 : decode cX11_parseInteger 59 = .ok (.invokevirtual 327, 3) := by decide +kernel
theorem dX11_parseInteger_62 : decode cX11_parseInteger 62 = .ok (.iload_n 3, 1) := by decide +kernel
theorem dX11_parseInteger_63 : decode cX11_parseInteger 63 = .ok (.ireturn, 1) := by decide +kernel
theorem dX11_parseMicrophone_0 : decode cX11_parseMicrophone 0 = .ok (.aload_n 0, 1) := by decide +kernel
theorem dX11_parseMicrophone_1 : decode cX11_parseMicrophone 1 = .ok (.aload_n 0, 1) := by decide +kernel
theorem dX11_parseMicrophone_2 : decode cX11_parseMicrophone 2 = .ok (.getfield 7, 3) := by decide +kernel
theorem dX11_parseMicrophone_5 : decode cX11_parseMicrophone 5 = .ok (.bipush 8, 2) := by decide +kernel
theorem dX11_parseMicrophone_7 : decode cX11_parseMicrophone 7 = .ok (.iaload, 1) := by decide +kernel
theorem dX11_parseMicrophone_8 : decode cX11_parseMicrophone 8 = .ok (.bipush 8, 2) := by decide +kernel
theorem dX11_parseMicrophone_10 : decode cX11_parseMicrophone 10 = .ok (.if_icmp .ge 7, 3) := by decide +kernel
theorem dX11_parseMicrophone_13 : decode cX11_parseMicrophone 13 = .ok (.iconst 1, 1) := by decide +kernel
theorem dX11_parseMicrophone_14 : decode cX11_parseMicrophone 14 = .ok (.goto 4, 3) := by decide +kernel
theorem dX11_parseMicrophone_17 : decode cX11_parseMicrophone 17 = .ok (.iconst 0, 1) := by decide +kernel
theorem dX11_parseMicrophone_18 : decode cX11_parseMicrophone 18 = .ok (.iconst 3, 1) := by decide +kernel
theorem dX11_parseMicrophone_19 : decode cX11_parseMicrophone 19 = .ok (.invokevirtual 323, 3) := by decide +kernel
theorem dX11_parseMicrophone_22 : decode cX11_parseMicrophone 22 = .ok (.aload_n 0, 1) := by decide +kernel
theorem dX11_parseMicrophone_23 : decode cX11_parseMicrophone 23 = .ok (.invokevirtual 327, 3) := by decide +kernel
theorem dX11_parseMicrophone_26 : decode cX11_parseMicrophone 26 = .ok (.aload_n 0, 1) := by decide +kernel
theorem dX11_parseMicrophone_27 : decode cX11_parseMicrophone 27 = .ok (.sipush (-5000), 3) := by decide +kernel
theorem dX11_parseMicrophone_30 : decode cX11_parseMicrophone 30 = .ok (.sipush 5000, 3) := by decide +kernel
theorem dX11_parseMicrophone_33 : decode cX11_parseMicrophone 33 = .ok (.invokevirtual 333, 3) := by decide +kernel
theorem dX11_parseMicrophone_36 : decode cX11_parseMicrophone 36 = .ok (.istore_n 1, 1) := by decide +kernel
theorem dX11_parseMicrophone_37 : decode cX11_parseMicrophone 37 = .ok (.aload_n 0, 1) := by decide +kernel
theorem dX11_parseMicrophone_38 : decode cX11_parseMicrophone 38 = .ok (.bipush (-100), 2) := by decide +kernel
theorem dX11_parseMicrophone_40 : decode cX11_parseMicrophone 40 = .ok (.bipush 99, 2) := by decide +kernel
theorem dX11_parseMicrophone_42 : decode cX11_parseMicrophone 42 = .ok (.invokevirtual 333, 3) := by decide +kernel
theorem dX11_parseMicrophone_45 : decode cX11_parseMicrophone 45 = .ok (.istore_n 2, 1) := by decide +kernel
theorem dX11_parseMicrophone_46 : decode cX11_parseMicrophone 46 = .ok (.aload_n 0, 1) := by decide +kernel
theorem dX11_parseMicrophone_47 : decode cX11_parseMicrophone 47 = .ok (.iconst 0, 1) := by decide +kernel
theorem dX11_parseMicrophone_48 : decode cX11_parseMicrophone 48 = .ok (.sipush 500, 3) := by decide +kernel
theorem dX11_parseMicrophone_51 : decode cX11_parseMicrophone 51 = .ok (.invokevirtual 330, 3) := by decide +kernel
theorem dX11_parseMicrophone_54 : decode cX11_parseMicrophone 54 = .ok (.istore_n 3, 1) := by decide +kernel
theorem dX11_parseMicrophone_55 : decode cX11_parseMicrophone 55 = .ok (.aload_n 0, 1) := by decide +kernel
theorem dX11_parseMicrophone_56 : decode cX11_parseMicrophone 56 = .ok (.iconst 0, 1) := by decide +kernel
theorem dX11_parseMicrophone_57 : decode cX11_parseMicrophone 57 = .ok (.bipush 9, 2) := by decide +kernel
theorem dX11_parseMicrophone_59 : decode cX11_parseMicrophone 59 = .ok (.invokevirtual 330, 3) := by decide +kernel
theorem dX11_parseMicrophone_62 : decode cX11_parseMicrophone 62 = .ok (.istore 4, 2) := by decide +kernel
theorem dX11_parseMicrophone_64 : decode cX11_parseMicrophone 64 = .ok (.aload_n 0, 1) := by decide +kernel
theorem dX11_parseMicrophone_65 : decode cX11_parseMicrophone 65 = .ok (.getfield 317, 3) := by decide +kernel
theorem dX11_parseMicrophone_68 : decode cX11_parseMicrophone 68 = .ok (.ifCond .ne 14, 3) := by decide +kernel
theorem dX11_parseMicrophone_71 : decode cX11_parseMicrophone 71 = .ok (.aload_n 0, 1) := by decide +kernel
theorem dX11_parseMicrophone_72 : decode cX11_parseMicrophone 72 = .ok (.iload_n 1, 1) := by decide +kernel
theorem dX11_parseMicrophone_73 : decode cX11_parseMicrophone 73 = .ok (.iload_n 2, 1) := by decide +kernel
theorem dX11_parseMicrophone_74 : decode cX11_parseMicrophone 74 = .ok (.iload_n 3, 1) := by decide +kernel
theorem dX11_parseMicrophone_75 : decode cX11_parseMicrophone 75 = .ok (.iload 4, 2) := by decide +kernel
theorem dX11_parseMicrophone_77 : decode cX11_parseMicrophone 77 = .ok (.invokevirtual 103, 3) := by decide +kernel
theorem dX11_parseMicrophone_80 : decode cX11_parseMicrophone 80 = .ok (.istore 5, 2) := by decide +kernel
theorem dX11_parseMicrophone_82 : decode cX11_parseMicrophone 82 = .ok (.return_, 1) := by decide +kernel
theorem dX11_parseVehicle_0 : decode cX11_parseVehicle 0 = .ok (.aload_n 0, 1) := by decide +kernel
theorem dX11_parseVehicle_1 : decode cX11_parseVehicle 1 = .ok (.aload_n 0, 1) := by decide +kernel
theorem dX11_parseVehicle_2 : decode cX11_parseVehicle 2 = .ok (.getfield 7, 3) := by decide +kernel
theorem dX11_parseVehicle_5 : decode cX11_parseVehicle 5 = .ok (.bipush 6, 2) := by decide +kernel
theorem dX11_parseVehicle_7 : decode cX11_parseVehicle 7 = .ok (.iaload, 1) := by decide +kernel
theorem dX11_parseVehicle_8 : decode cX11_parseVehicle 8 = .ok (.iconst 4, 1) := by decide +kernel
theorem dX11_parseVehicle_9 : decode cX11_parseVehicle 9 = .ok (.if_icmp .ge 7, 3) := by decide +kernel
theorem dX11_parseVehicle_12 : decode cX11_parseVehicle 12 = .ok (.iconst 1, 1) := by decide +kernel
theorem dX11_parseVehicle_13 : decode cX11_parseVehicle 13 = .ok (.goto 4, 3) := by decide +kernel
theorem dX11_parseVehicle_16 : decode cX11_parseVehicle 16 = .ok (.iconst 0, 1) := by decide +kernel
theorem dX11_parseVehicle_17 : decode cX11_parseVehicle 17 = .ok (.iconst 3, 1) := by decide +kernel
theorem dX11_parseVehicle_18 : decode cX11_parseVehicle 18 = .ok (.invokevirtual 323, 3) := by decide +kernel
theorem dX11_parseVehicle_21 : decode cX11_parseVehicle 21 = .ok (.aload_n 0, 1) := by decide +kernel
theorem dX11_parseVehicle_22 : decode cX11_parseVehicle 22 = .ok (.invokevirtual 327, 3) := by decide +kernel
theorem dX11_parseVehicle_25 : decode cX11_parseVehicle 25 = .ok (.aload_n 0, 1) := by decide +kernel
theorem dX11_parseVehicle_26 : decode cX11_parseVehicle 26 = .ok (.sipush (-20000), 3) := by decide +kernel
theorem dX11_parseVehicle_29 : decode cX11_parseVehicle 29 = .ok (.sipush 20000, 3) := by decide +kernel
theorem dX11_parseVehicle_32 : decode cX11_parseVehicle 32 = .ok (.invokevirtual 333, 3) := by decide +kernel
theorem dX11_parseVehicle_35 : decode cX11_parseVehicle 35 = .ok (.istore_n 1, 1) := by decide +kernel
theorem dX11_parseVehicle_36 : decode cX11_parseVehicle 36 = .ok (.aload_n 0, 1) := by decide +kernel
theorem dX11_parseVehicle_37 : decode cX11_parseVehicle 37 = .ok (.bipush (-50), 2) := by decide +kernel
theorem dX11_parseVehicle_39 : decode cX11_parseVehicle 39 = .ok (.bipush 50, 2) := by decide +kernel
theorem dX11_parseVehicle_41 : decode cX11_parseVehicle 41 = .ok (.invokevirtual 333, 3) := by decide +kernel
theorem dX11_parseVehicle_44 : decode cX11_parseVehicle 44 = .ok (.istore_n 2, 1) := by decide +kernel
theorem dX11_parseVehicle_45 : decode cX11_parseVehicle 45 = .ok (.aload_n 0, 1) := by decide +kernel
theorem dX11_parseVehicle_46 : decode cX11_parseVehicle 46 = .ok (.bipush 100, 2) := by decide +kernel
theorem dX11_parseVehicle_48 : decode cX11_parseVehicle 48 = .ok (.sipush 5000, 3) := by decide +kernel
theorem dX11_parseVehicle_51 : decode cX11_parseVehicle 51 = .ok (.invokevirtual 333, 3) := by decide +kernel
theorem dX11_parseVehicle_54 : decode cX11_parseVehicle 54 = .ok (.istore_n 3, 1) := by decide +kernel
theorem dX11_parseVehicle_55 : decode cX11_parseVehicle 55 = .ok (.aload_n 0, 1) := by decide +kernel
theorem dX11_parseVehicle_56 : decode cX11_parseVehicle 56 = .ok (.getfield 317, 3) := by decide +kernel
theorem dX11_parseVehicle_59 : decode cX11_parseVehicle 59 = .ok (.ifCond .ne 12, 3) := by decide +kernel
theorem dX11_parseVehicle_62 : decode cX11_parseVehicle 62 = .ok (.aload_n 0, 1) := by decide +kernel
theorem dX11_parseVehicle_63 : decode cX11_parseVehicle 63 = .ok (.iload_n 1, 1) := by decide +kernel
theorem dX11_parseVehicle_64 : decode cX11_parseVehicle 64 = .ok (.iload_n 2, 1) := by decide +kernel
theorem dX11_parseVehicle_65 : decode cX11_parseVehicle 65 = .ok (.iload_n 3, 1) := by decide +kernel
theorem dX11_parseVehicle_66 : decode cX11_parseVehicle 66 = .ok (.invokevirtual 71, 3) := by decide +kernel
theorem dX11_parseVehicle_69 : decode cX11_parseVehicle 69 = .ok (.istore 4, 2) := by decide +kernel
theorem dX11_parseVehicle_71 : decode cX11_parseVehicle 71 = .ok (.return_, 1) := by decide +kernel
theorem dX11_parseSource_0 : decode cX11_parseSource 0 = .ok (.aload_n 0, 1) := by decide +kernel
theorem dX11_parseSource_1 : decode cX11_parseSource 1 = .ok (.aload_n 0, 1) := by decide +kernel
theorem dX11_parseSource_2 : decode cX11_parseSource 2 = .ok (.getfield 7, 3) := by decide +kernel
theorem dX11_parseSource_5 : decode cX11_parseSource 5 = .ok (.bipush 7, 2) := by decide +kernel
theorem dX11_parseSource_7 : decode cX11_parseSource 7 = .ok (.iaload, 1) := by decide +kernel
theorem dX11_parseSource_8 : decode cX11_parseSource 8 = .ok (.bipush 6, 2) := by decide +kernel
theorem dX11_parseSource_10 : decode cX11_parseSource 10 = .ok (.if_icmp .ge 7, 3) := by decide +kernel
theorem dX11_parseSource_13 : decode cX11_parseSource 13 = .ok (.iconst 1, 1) := by decide +kernel
theorem dX11_parseSource_14 : decode cX11_parseSource 14 = .ok (.goto 4, 3) := by decide +kernel
theorem dX11_parseSource_17 : decode cX11_parseSource 17 = .ok (.iconst 0, 1) := by decide +kernel
theorem dX11_parseSource_18 : decode cX11_parseSource 18 = .ok (.iconst 3, 1) := by decide +kernel
theorem dX11_parseSource_19 : decode cX11_parseSource 19 = .ok (.invokevirtual 323, 3) := by decide +kernel
theorem dX11_parseSource_22 : decode cX11_parseSource 22 = .ok (.aload_n 0, 1) := by decide +kernel
theorem dX11_parseSource_23 : decode cX11_parseSource 23 = .ok (.invokevirtual 327, 3) := by decide +kernel
theorem dX11_parseSource_26 : decode cX11_parseSource 26 = .ok (.aload_n 0, 1) := by decide +kernel
theorem dX11_parseSource_27 : decode cX11_parseSource 27 = .ok (.iconst 0, 1) := by decide +kernel
theorem dX11_parseSource_28 : decode cX11_parseSource 28 = .ok (.aload_n 0, 1) := by decide +kernel
theorem dX11_parseSource_29 : decode cX11_parseSource 29 = .ok (.getfield 7, 3) := by decide +kernel
theorem dX11_parseSource_32 : decode cX11_parseSource 32 = .ok (.bipush 6, 2) := by decide +kernel
theorem dX11_parseSource_34 : decode cX11_parseSource 34 = .ok (.iaload, 1) := by decide +kernel
theorem dX11_parseSource_35 : decode cX11_parseSource 35 = .ok (.iconst 1, 1) := by decide +kernel
theorem dX11_parseSource_36 : decode cX11_parseSource 36 = .ok (.isub, 1) := by decide +kernel
theorem dX11_parseSource_37 : decode cX11_parseSource 37 = .ok (.invokevirtual 330, 3) := by decide +kernel
theorem dX11_parseSource_40 : decode cX11_parseSource 40 = .ok (.istore_n 1, 1) := by decide +kernel
theorem dX11_parseSource_41 : decode cX11_parseSource 41 = .ok (.aload_n 0, 1) := by decide +kernel
theorem dX11_parseSource_42 : decode cX11_parseSource 42 = .ok (.sipush (-1000), 3) := by decide +kernel
theorem dX11_parseSource_45 : decode cX11_parseSource 45 = .ok (.sipush 1000, 3) := by decide +kernel
theorem dX11_parseSource_48 : decode cX11_parseSource 48 = .ok (.invokevirtual 333, 3) := by decide +kernel
theorem dX11_parseSource_51 : decode cX11_parseSource 51 = .ok (.istore_n 2, 1) := by decide +kernel
theorem dX11_parseSource_52 : decode cX11_parseSource 52 = .ok (.aload_n 0, 1) := by decide +kernel
theorem dX11_parseSource_53 : decode cX11_parseSource 53 = .ok (.iconst 0, 1) := by decide +kernel
theorem dX11_parseSource_54 : decode cX11_parseSource 54 = .ok (.sipush 500, 3) := by decide +kernel
theorem dX11_parseSource_57 : decode cX11_parseSource 57 = .ok (.invokevirtual 330, 3) := by decide +kernel
theorem dX11_parseSource_60 : decode cX11_parseSource 60 = .ok (.istore_n 3, 1) := by decide +kernel
theorem dX11_parseSource_61 : decode cX11_parseSource 61 = .ok (.aload_n 0, 1) := by decide +kernel
theorem dX11_parseSource_62 : decode cX11_parseSource 62 = .ok (.iconst 1, 1) := by decide +kernel
theorem dX11_parseSource_63 : decode cX11_parseSource 63 = .ok (.bipush 10, 2) := by decide +kernel
theorem dX11_parseSource_65 : decode cX11_parseSource 65 = .ok (.invokevirtual 330, 3) := by decide +kernel
theorem dX11_parseSource_68 : decode cX11_parseSource 68 = .ok (.istore 4, 2) := by decide +kernel
theorem dX11_parseSource_70 : decode cX11_parseSource 70 = .ok (.aload_n 0, 1) := by decide +kernel
theorem dX11_parseSource_71 : decode cX11_parseSource 71 = .ok (.getfield 317, 3) := by decide +kernel
theorem dX11_parseSource_74 : decode cX11_parseSource 74 = .ok (.ifCond .ne 15, 3) := by decide +kernel
theorem dX11_parseSource_77 : decode cX11_parseSource 77 = .ok (.aload_n 0, 1) := by decide +kernel
theorem dX11_parseSource_78 : decode cX11_parseSource 78 = .ok (.iload_n 1, 1) := by decide +kernel
theorem dX11_parseSource_79 : decode cX11_parseSource 79 = .ok (.iload_n 2, 1) := by decide +kernel
theorem dX11_parseSource_80 : decode cX11_parseSource 80 = .ok (.iload_n 3, 1) := by decide +kernel
theorem dX11_parseSource_81 : decode cX11_parseSource 81 = .ok (.iload 4, 2) := by decide +kernel
theorem dX11_parseSource_83 : decode cX11_parseSource 83 = .ok (.invokevirtual 87, 3) := by decide +kernel
theorem dX11_parseSource_86 : decode cX11_parseSource 86 = .ok (.goto 4, 3) := by decide +kernel
theorem dX11_parseSource_89 : decode cX11_parseSource 89 = .ok (.iconst 0, 1) := by decide +kernel
theorem dX11_parseSource_90 : decode cX11_parseSource 90 = .ok (.istore 5, 2) := by decide +kernel
theorem dX11_parseSource_92 : decode cX11_parseSource 92 = .ok (.iconst 1, 1) := by decide +kernel
theorem dX11_parseSource_93 : decode cX11_parseSource 93 = .ok (.istore 6, 2) := by decide +kernel
theorem dX11_parseSource_95 : decode cX11_parseSource 95 = .ok (.iconst 0, 1) := by decide +kernel
theorem dX11_parseSource_96 : decode cX11_parseSource 96 = .ok (.istore 7, 2) := by decide +kernel
theorem dX11_parseSource_98 : decode cX11_parseSource 98 = .ok (.iload 7, 2) := by decide +kernel
theorem dX11_parseSource_100 : decode cX11_parseSource 100 = .ok (.bipush 16, 2) := by decide +kernel
theorem dX11_parseSource_102 : decode cX11_parseSource 102 = .ok (.if_icmp .ge 71, 3) := by decide +kernel
theorem dX11_parseSource_105 : decode cX11_parseSource 105 = .ok (.iload 6, 2) := by decide +kernel
theorem dX11_parseSource_107 : decode cX11_parseSource 107 = .ok (.ifCond .eq 66, 3) := by decide +kernel
theorem dX11_parseSource_110 : decode cX11_parseSource 110 = .ok (.aload_n 0, 1) := by decide +kernel
theorem dX11_parseSource_111 : decode cX11_parseSource 111 = .ok (.bipush (-99), 2) := by decide +kernel
theorem dX11_parseSource_113 : decode cX11_parseSource 113 = .ok (.bipush 99, 2) := by decide +kernel
theorem dX11_parseSource_115 : decode cX11_parseSource 115 = .ok (.invokevirtual 333, 3) := by decide +kernel
theorem dX11_parseSource_118 : decode cX11_parseSource 118 = .ok (.istore 8, 2) := by decide +kernel
theorem dX11_parseSource_120 : decode cX11_parseSource 120 = .ok (.aload_n 0, 1) := by decide +kernel
theorem dX11_parseSource_121 : decode cX11_parseSource 121 = .ok (.getfield 317, 3) := by decide +kernel
theorem dX11_parseSource_124 : decode cX11_parseSource 124 = .ok (.ifCond .ne 13, 3) := by decide +kernel
theorem dX11_parseSource_127 : decode cX11_parseSource 127 = .ok (.aload_n 0, 1) := by decide +kernel
theorem dX11_parseSource_128 : decode cX11_parseSource 128 = .ok (.iload 5, 2) := by decide +kernel
theorem dX11_parseSource_130 : decode cX11_parseSource 130 = .ok (.iload 8, 2) := by decide +kernel
theorem dX11_parseSource_132 : decode cX11_parseSource 132 = .ok (.invokevirtual 91, 3) := by decide +kernel
theorem dX11_parseSource_135 : decode cX11_parseSource 135 = .ok (.istore 9, 2) := by decide +kernel
theorem dX11_parseSource_137 : decode cX11_parseSource 137 = .ok (.aload_n 0, 1) := by decide +kernel
theorem dX11_parseSource_138 : decode cX11_parseSource 138 = .ok (.getfield 317, 3) := by decide +kernel
theorem dX11_parseSource_141 : decode cX11_parseSource 141 = .ok (.ifCond .ne 23, 3) := by decide +kernel
theorem dX11_parseSource_144 : decode cX11_parseSource 144 = .ok (.aload_n 0, 1) := by decide +kernel
theorem dX11_parseSource_145 : decode cX11_parseSource 145 = .ok (.getfield 294, 3) := by decide +kernel
theorem dX11_parseSource_148 : decode cX11_parseSource 148 = .ok (.iconst 3, 1) := by decide +kernel
theorem dX11_parseSource_149 : decode cX11_parseSource 149 = .ok (.if_icmp .eq 11, 3) := by decide +kernel
theorem dX11_parseSource_152 : decode cX11_parseSource 152 = .ok (.aload_n 0, 1) := by decide +kernel
theorem dX11_parseSource_153 : decode cX11_parseSource 153 = .ok (.getfield 294, 3) := by decide +kernel
theorem dX11_parseSource_156 : decode cX11_parseSource 156 = .ok (.iconst 5, 1) := by decide +kernel
theorem dX11_parseSource_157 : decode cX11_parseSource 157 = .ok (.if_icmp .ne 7, 3) := by decide +kernel
theorem dX11_parseSource_160 : decode cX11_parseSource 160 = .ok (.iconst 1, 1) := by decide +kernel
theorem dX11_parseSource_161 : decode cX11_parseSource 161 = .ok (.goto 4, 3) := by decide +kernel
theorem dX11_parseSource_164 : decode cX11_parseSource 164 = .ok (.iconst 0, 1) := by decide +kernel
theorem dX11_parseSource_165 : decode cX11_parseSource 165 = .ok (.istore 6, 2) := by decide +kernel
theorem dX11_parseSource_167 : decode cX11_parseSource 167 = .ok (.iinc 7 1, 3) := by decide +kernel
theorem dX11_parseSource_170 : decode cX11_parseSource 170 = .ok (.goto (-72), 3) := by decide +kernel
theorem dX11_parseSource_173 : decode cX11_parseSource 173 = .ok (.return_, 1) := by decide +kernel
theorem dX11_parseStatement_0 : decode cX11_parseStatement 0 = .ok (.aload_n 0, 1) := by decide +kernel
theorem dX11_parseStatement_1 : decode cX11_parseStatement 1 = .ok (.ldc_w 336, 3) := by decide +kernel
theorem dX11_parseStatement_4 : decode cX11_parseStatement 4 = .ok (.invokevirtual 338, 3) := by decide +kernel
theorem dX11_parseStatement_7 : decode cX11_parseStatement 7 = .ok (.ifCond .eq 10, 3) := by decide +kernel
theorem dX11_parseStatement_10 : decode cX11_parseStatement 10 = .ok (.aload_n 0, 1) := by decide +kernel
theorem dX11_parseStatement_11 : decode cX11_parseStatement 11 = .ok (.invokevirtual 342, 3) := by decide +kernel
theorem dX11_parseStatement_14 : decode cX11_parseStatement 14 = .ok (.goto 153, 3) := by decide +kernel
theorem dX11_parseStatement_17 : decode cX11_parseStatement 17 = .ok (.aload_n 0, 1) := by decide +kernel
theorem dX11_parseStatement_18 : decode cX11_parseStatement 18 = .ok (.ldc_w 345, 3) := by decide +kernel
theorem dX11_parseStatement_21 : decode cX11_parseStatement 21 = .ok (.invokevirtual 338, 3) := by decide +kernel
theorem dX11_parseStatement_24 : decode cX11_parseStatement 24 = .ok (.ifCond .eq 10, 3) := by decide +kernel
theorem dX11_parseStatement_27 : decode cX11_parseStatement 27 = .ok (.aload_n 0, 1) := by decide +kernel
theorem dX11_parseStatement_28 : decode cX11_parseStatement 28 = .ok (.invokevirtual 346, 3) := by decide +kernel
theorem dX11_parseStatement_31 : decode cX11_parseStatement 31 = .ok (.goto 136, 3) := by decide +kernel
theorem dX11_parseStatement_34 : decode cX11_parseStatement 34 = .ok (.aload_n 0, 1) := by decide +kernel
theorem dX11_parseStatement_35 : decode cX11_parseStatement 35 = .ok (.ldc_w 349, 3) := by decide +kernel
theorem dX11_parseStatement_38 : decode cX11_parseStatement 38 = .ok (.invokevirtual 338, 3) := by decide +kernel
theorem dX11_parseStatement_41 : decode cX11_parseStatement 41 = .ok (.ifCond .eq 10, 3) := by decide +kernel
theorem dX11_parseStatement_44 : decode cX11_parseStatement 44 = .ok (.aload_n 0, 1) := by decide +kernel
theorem dX11_parseStatement_45 : decode cX11_parseStatement 45 = .ok (.invokevirtual 350, 3) := by decide +kernel
theorem dX11_parseStatement_48 : decode cX11_parseStatement 48 = .ok (.goto 119, 3) := by decide +kernel
theorem dX11_parseStatement_51 : decode cX11_parseStatement 51 = .ok (.aload_n 0, 1) := by decide +kernel
theorem dX11_parseStatement_52 : decode cX11_parseStatement 52 = .ok (.ldc_w 353, 3) := by decide +kernel
theorem dX11_parseStatement_55 : decode cX11_parseStatement 55 = .ok (.invokevirtual 338, 3) := by decide +kernel
theorem dX11_parseStatement_58 : decode cX11_parseStatement 58 = .ok (.ifCond .eq 25, 3) := by decide +kernel
theorem dX11_parseStatement_61 : decode cX11_parseStatement 61 = .ok (.aload_n 0, 1) := by decide +kernel
theorem dX11_parseStatement_62 : decode cX11_parseStatement 62 = .ok (.invokevirtual 327, 3) := by decide +kernel
theorem dX11_parseStatement_65 : decode cX11_parseStatement 65 = .ok (.aload_n 0, 1) := by decide +kernel
theorem dX11_parseStatement_66 : decode cX11_parseStatement 66 = .ok (.getfield 7, 3) := by decide +kernel
theorem dX11_parseStatement_69 : decode cX11_parseStatement 69 = .ok (.iconst 0, 1) := by decide +kernel
theorem dX11_parseStatement_70 : decode cX11_parseStatement 70 = .ok (.aload_n 0, 1) := by decide +kernel
theorem dX11_parseStatement_71 : decode cX11_parseStatement 71 = .ok (.bipush 100, 2) := by decide +kernel
theorem dX11_parseStatement_73 : decode cX11_parseStatement 73 = .ok (.sipush 1000, 3) := by decide +kernel
theorem dX11_parseStatement_76 : decode cX11_parseStatement 76 = .ok (.invokevirtual 330, 3) := by decide +kernel
theorem dX11_parseStatement_79 : decode cX11_parseStatement 79 = .ok (.iastore, 1) := by decide +kernel
theorem dX11_parseStatement_80 : decode cX11_parseStatement 80 = .ok (.goto 87, 3) := by decide +kernel
theorem dX11_parseStatement_83 : decode cX11_parseStatement 83 = .ok (.aload_n 0, 1) := by decide +kernel
theorem dX11_parseStatement_84 : decode cX11_parseStatement 84 = .ok (.ldc_w 355, 3) := by decide +kernel
theorem dX11_parseStatement_87 : decode cX11_parseStatement 87 = .ok (.invokevirtual 338, 3) := by decide +kernel
theorem dX11_parseStatement_90 : decode cX11_parseStatement 90 = .ok (.ifCond .eq 24, 3) := by decide +kernel
theorem dX11_parseStatement_93 : decode cX11_parseStatement 93 = .ok (.aload_n 0, 1) := by decide +kernel
theorem dX11_parseStatement_94 : decode cX11_parseStatement 94 = .ok (.invokevirtual 327, 3) := by decide +kernel
theorem dX11_parseStatement_97 : decode cX11_parseStatement 97 = .ok (.aload_n 0, 1) := by decide +kernel
theorem dX11_parseStatement_98 : decode cX11_parseStatement 98 = .ok (.getfield 7, 3) := by decide +kernel
theorem dX11_parseStatement_101 : decode cX11_parseStatement 101 = .ok (.iconst 1, 1) := by decide +kernel
theorem dX11_parseStatement_102 : decode cX11_parseStatement 102 = .ok (.aload_n 0, 1) := by decide +kernel
theorem dX11_parseStatement_103 : decode cX11_parseStatement 103 = .ok (.bipush (-90), 2) := by decide +kernel
theorem dX11_parseStatement_105 : decode cX11_parseStatement 105 = .ok (.bipush 90, 2) := by decide +kernel
theorem dX11_parseStatement_107 : decode cX11_parseStatement 107 = .ok (.invokevirtual 333, 3) := by decide +kernel
theorem dX11_parseStatement_110 : decode cX11_parseStatement 110 = .ok (.iastore, 1) := by decide +kernel
theorem dX11_parseStatement_111 : decode cX11_parseStatement 111 = .ok (.goto 56, 3) := by decide +kernel
theorem dX11_parseStatement_114 : decode cX11_parseStatement 114 = .ok (.aload_n 0, 1) := by decide +kernel
theorem dX11_parseStatement_115 : decode cX11_parseStatement 115 = .ok (.ldc_w 357, 3) := by decide +kernel
theorem dX11_parseStatement_118 : decode cX11_parseStatement 118 = .ok (.invokevirtual 338, 3) := by decide +kernel
theorem dX11_parseStatement_121 : decode cX11_parseStatement 121 = .ok (.ifCond .eq 23, 3) := by decide +kernel
theorem dX11_parseStatement_124 : decode cX11_parseStatement 124 = .ok (.aload_n 0, 1) := by decide +kernel
theorem dX11_parseStatement_125 : decode cX11_parseStatement 125 = .ok (.invokevirtual 327, 3) := by decide +kernel
theorem dX11_parseStatement_128 : decode cX11_parseStatement 128 = .ok (.aload_n 0, 1) := by decide +kernel
theorem dX11_parseStatement_129 : decode cX11_parseStatement 129 = .ok (.getfield 7, 3) := by decide +kernel
theorem dX11_parseStatement_132 : decode cX11_parseStatement 132 = .ok (.iconst 4, 1) := by decide +kernel
theorem dX11_parseStatement_133 : decode cX11_parseStatement 133 = .ok (.aload_n 0, 1) := by decide +kernel
theorem dX11_parseStatement_134 : decode cX11_parseStatement 134 = .ok (.iconst 0, 1) := by decide +kernel
theorem dX11_parseStatement_135 : decode cX11_parseStatement 135 = .ok (.bipush 99, 2) := by decide +kernel
theorem dX11_parseStatement_137 : decode cX11_parseStatement 137 = .ok (.invokevirtual 330, 3) := by decide +kernel
theorem dX11_parseStatement_140 : decode cX11_parseStatement 140 = .ok (.iastore, 1) := by decide +kernel
theorem dX11_parseStatement_141 : decode cX11_parseStatement 141 = .ok (.goto 26, 3) := by decide +kernel
theorem dX11_parseStatement_144 : decode cX11_parseStatement 144 = .ok (.aload_n 0, 1) := by decide +kernel
theorem dX11_parseStatement_145 : decode cX11_parseStatement 145 = .ok (.aload_n 0, 1) := by decide +kernel
theorem dX11_parseStatement_146 : decode cX11_parseStatement 146 = .ok (.ldc_w 359, 3) := by decide +kernel
theorem dX11_parseStatement_149 : decode cX11_parseStatement 149 = .ok (.invokevirtual 338, 3) := by decide +kernel
theorem dX11_parseStatement_152 : decode cX11_parseStatement 152 = .ok (.iconst 1, 1) := by decide +kernel
theorem dX11_parseStatement_153 : decode cX11_parseStatement 153 = .ok (.invokevirtual 323, 3) := by decide +kernel
theorem dX11_parseStatement_156 : decode cX11_parseStatement 156 = .ok (.aload_n 0, 1) := by decide +kernel
theorem dX11_parseStatement_157 : decode cX11_parseStatement 157 = .ok (.invokevirtual 327, 3) := by decide +kernel
theorem dX11_parseStatement_160 : decode cX11_parseStatement 160 = .ok (.aload_n 0, 1) := by decide +kernel
theorem dX11_parseStatement_161 : decode cX11_parseStatement 161 = .ok (.getfield 7, 3) := by decide +kernel
theorem dX11_parseStatement_164 : decode cX11_parseStatement 164 = .ok (.iconst 2, 1) := by decide +kernel
theorem dX11_parseStatement_165 : decode cX11_parseStatement 165 = .ok (.iconst 1, 1) := by decide +kernel
theorem dX11_parseStatement_166 : decode cX11_parseStatement 166 = .ok (.iastore, 1) := by decide +kernel
theorem dX11_parseStatement_167 : decode cX11_parseStatement 167 = .ok (.aload_n 0, 1) := by decide +kernel
theorem dX11_parseStatement_168 : decode cX11_parseStatement 168 = .ok (.aload_n 0, 1) := by decide +kernel
theorem dX11_parseStatement_169 : decode cX11_parseStatement 169 = .ok (.getfield 294, 3) := by decide +kernel
theorem dX11_parseStatement_172 : decode cX11_parseStatement 172 = .ok (.iconst 4, 1) := by decide +kernel
theorem dX11_parseStatement_173 : decode cX11_parseStatement 173 = .ok (.if_icmp .ne 7, 3) := by decide +kernel
theorem dX11_parseStatement_176 : decode cX11_parseStatement 176 = .ok (.iconst 1, 1) := by decide +kernel
theorem dX11_parseStatement_177 : decode cX11_parseStatement 177 = .ok (.goto 4, 3) := by decide +kernel
theorem dX11_parseStatement_180 : decode cX11_parseStatement 180 = .ok (.iconst 0, 1) := by decide +kernel
theorem dX11_parseStatement_181 : decode cX11_parseStatement 181 = .ok (.iconst 1, 1) := by decide +kernel
theorem dX11_parseStatement_182 : decode cX11_parseStatement 182 = .ok (.invokevirtual 323, 3) := by decide +kernel
theorem dX11_parseStatement_185 : decode cX11_parseStatement 185 = .ok (.aload_n 0, 1) := by decide +kernel
theorem dX11_parseStatement_186 : decode cX11_parseStatement 186 = .ok (.invokevirtual 327, 3) := by decide +kernel
theorem dX11_parseStatement_189 : decode cX11_parseStatement 189 = .ok (.return_, 1) := by decide +kernel
theorem dX11_load_0 : decode cX11_load 0 = .ok (.aload_n 0, 1) := by decide +kernel
theorem dX11_load_1 : decode cX11_load 1 = .ok (.iconst 0, 1) := by decide +kernel
theorem dX11_load_2 : decode cX11_load 2 = .ok (.putfield 49, 3) := by decide +kernel
theorem dX11_load_5 : decode cX11_load 5 = .ok (.aload_n 0, 1) := by decide +kernel
theorem dX11_load_6 : decode cX11_load 6 = .ok (.getfield 7, 3) := by decide +kernel
theorem dX11_load_9 : decode cX11_load 9 = .ok (.iconst 0, 1) := by decide +kernel
theorem dX11_load_10 : decode cX11_load 10 = .ok (.aload_n 0, 1) := by decide +kernel
theorem dX11_load_11 : decode cX11_load 11 = .ok (.getfield 13, 3) := by decide +kernel
theorem dX11_load_14 : decode cX11_load 14 = .ok (.iconst 0, 1) := by decide +kernel
theorem dX11_load_15 : decode cX11_load 15 = .ok (.invokestatic 361, 3) := by decide +kernel
theorem dX11_load_18 : decode cX11_load 18 = .ok (.aload_n 0, 1) := by decide +kernel
theorem dX11_load_19 : decode cX11_load 19 = .ok (.invokevirtual 46, 3) := by decide +kernel
theorem dX11_load_22 : decode cX11_load 22 = .ok (.aload_n 0, 1) := by decide +kernel
theorem dX11_load_23 : decode cX11_load 23 = .ok (.iconst 0, 1) := by decide +kernel
theorem dX11_load_24 : decode cX11_load 24 = .ok (.putfield 317, 3) := by decide +kernel
theorem dX11_load_27 : decode cX11_load 27 = .ok (.aload_n 0, 1) := by decide +kernel
theorem dX11_load_28 : decode cX11_load 28 = .ok (.iconst (-1), 1) := by decide +kernel
theorem dX11_load_29 : decode cX11_load 29 = .ok (.putfield 42, 3) := by decide +kernel
theorem dX11_load_32 : decode cX11_load 32 = .ok (.aload_n 0, 1) := by decide +kernel
theorem dX11_load_33 : decode cX11_load 33 = .ok (.iconst 0, 1) := by decide +kernel
theorem dX11_load_34 : decode cX11_load 34 = .ok (.putfield 275, 3) := by decide +kernel
theorem dX11_load_37 : decode cX11_load 37 = .ok (.aload_n 0, 1) := by decide +kernel
theorem dX11_load_38 : decode cX11_load 38 = .ok (.invokevirtual 320, 3) := by decide +kernel
theorem dX11_load_41 : decode cX11_load 41 = .ok (.iconst 0, 1) := by decide +kernel
theorem dX11_load_42 : decode cX11_load 42 = .ok (.istore_n 1, 1) := by decide +kernel
theorem dX11_load_43 : decode cX11_load 43 = .ok (.aload_n 0, 1) := by decide +kernel
theorem dX11_load_44 : decode cX11_load 44 = .ok (.getfield 317, 3) := by decide +kernel
theorem dX11_load_47 : decode cX11_load 47 = .ok (.ifCond .ne 20, 3) := by decide +kernel
theorem dX11_load_50 : decode cX11_load 50 = .ok (.aload_n 0, 1) := by decide +kernel
theorem dX11_load_51 : decode cX11_load 51 = .ok (.getfield 294, 3) := by decide +kernel
theorem dX11_load_54 : decode cX11_load 54 = .ok (.ifCond .eq 13, 3) := by decide +kernel
theorem dX11_load_57 : decode cX11_load 57 = .ok (.aload_n 0, 1) := by decide +kernel
theorem dX11_load_58 : decode cX11_load 58 = .ok (.invokevirtual 365, 3) := by decide +kernel
theorem dX11_load_61 : decode cX11_load 61 = .ok (.iinc 1 1, 3) := by decide +kernel
theorem dX11_load_64 : decode cX11_load 64 = .ok (.goto (-21), 3) := by decide +kernel
theorem dX11_load_67 : decode cX11_load 67 = .ok (.aload_n 0, 1) := by decide +kernel
theorem dX11_load_68 : decode cX11_load 68 = .ok (.iconst 0, 1) := by decide +kernel
theorem dX11_load_69 : decode cX11_load 69 = .ok (.putfield 272, 3) := by decide +kernel
theorem dX11_load_72 : decode cX11_load 72 = .ok (.aload_n 0, 1) := by decide +kernel
theorem dX11_load_73 : decode cX11_load 73 = .ok (.getfield 317, 3) := by decide +kernel
theorem dX11_load_76 : decode cX11_load 76 = .ok (.ifCond .eq 18, 3) := by decide +kernel
theorem dX11_load_79 : decode cX11_load 79 = .ok (.aload_n 0, 1) := by decide +kernel
theorem dX11_load_80 : decode cX11_load 80 = .ok (.getfield 13, 3) := by decide +kernel
theorem dX11_load_83 : decode cX11_load 83 = .ok (.iconst 0, 1) := by decide +kernel
theorem dX11_load_84 : decode cX11_load 84 = .ok (.aload_n 0, 1) := by decide +kernel
theorem dX11_load_85 : decode cX11_load 85 = .ok (.getfield 7, 3) := by decide +kernel
theorem dX11_load_88 : decode cX11_load 88 = .ok (.iconst 0, 1) := by decide +kernel
theorem dX11_load_89 : decode cX11_load 89 = .ok (.invokestatic 361, 3) := by decide +kernel
theorem dX11_load_92 : decode cX11_load 92 = .ok (.iconst (-1), 1) := by decide +kernel
theorem dX11_load_93 : decode cX11_load 93 = .ok (.ireturn, 1) := by decide +kernel
theorem dX11_load_94 : decode cX11_load 94 = .ok (.iload_n 1, 1) := by decide +kernel
theorem dX11_load_95 : decode cX11_load 95 = .ok (.ireturn, 1) := by decide +kernel
theorem dX11_errorCode_0 : decode cX11_errorCode 0 = .ok (.aload_n 0, 1) := by decide +kernel
theorem dX11_errorCode_1 : decode cX11_errorCode 1 = .ok (.iconst 0, 1) := by decide +kernel
theorem dX11_errorCode_2 : decode cX11_errorCode 2 = .ok (.putfield 49, 3) := by decide +kernel
theorem dX11_errorCode_5 : decode cX11_errorCode 5 = .ok (.aload_n 0, 1) := by decide +kernel
theorem dX11_errorCode_6 : decode cX11_errorCode 6 = .ok (.getfield 317, 3) := by decide +kernel
theorem dX11_errorCode_9 : decode cX11_errorCode 9 = .ok (.ireturn, 1) := by decide +kernel
theorem dX11_errorPosition_0 : decode cX11_errorPosition 0 = .ok (.aload_n 0, 1) := by decide +kernel
theorem dX11_errorPosition_1 : decode cX11_errorPosition 1 = .ok (.iconst 0, 1) := by decide +kernel
theorem dX11_errorPosition_2 : decode cX11_errorPosition 2 = .ok (.putfield 49, 3) := by decide +kernel
theorem dX11_errorPosition_5 : decode cX11_errorPosition 5 = .ok (.aload_n 0, 1) := by decide +kernel
theorem dX11_errorPosition_6 : decode cX11_errorPosition 6 = .ok (.getfield 42, 3) := by decide +kernel
theorem dX11_errorPosition_9 : decode cX11_errorPosition 9 = .ok (.ireturn, 1) := by decide +kernel
theorem dX11_save_0 : decode cX11_save 0 = .ok (.aload_n 0, 1) := by decide +kernel
theorem dX11_save_1 : decode cX11_save 1 = .ok (.iload_n 1, 1) := by decide +kernel
theorem dX11_save_2 : decode cX11_save 2 = .ok (.iconst 0, 1) := by decide +kernel
theorem dX11_save_3 : decode cX11_save 3 = .ok (.iconst 1, 1) := by decide +kernel
theorem dX11_save_4 : decode cX11_save 4 = .ok (.invokestatic 52, 3) := by decide +kernel
theorem dX11_save_7 : decode cX11_save 7 = .ok (.ifCond .eq 7, 3) := by decide +kernel
theorem dX11_save_10 : decode cX11_save 10 = .ok (.iconst 0, 1) := by decide +kernel
theorem dX11_save_11 : decode cX11_save 11 = .ok (.goto 4, 3) := by decide +kernel
theorem dX11_save_14 : decode cX11_save 14 = .ok (.iconst 1, 1) := by decide +kernel
theorem dX11_save_15 : decode cX11_save 15 = .ok (.putfield 49, 3) := by decide +kernel
theorem dX11_save_18 : decode cX11_save 18 = .ok (.aload_n 0, 1) := by decide +kernel
theorem dX11_save_19 : decode cX11_save 19 = .ok (.getfield 49, 3) := by decide +kernel
theorem dX11_save_22 : decode cX11_save 22 = .ok (.ifCond .ne 27, 3) := by decide +kernel
theorem dX11_save_25 : decode cX11_save 25 = .ok (.aload_n 0, 1) := by decide +kernel
theorem dX11_save_26 : decode cX11_save 26 = .ok (.getfield 7, 3) := by decide +kernel
theorem dX11_save_29 : decode cX11_save 29 = .ok (.iconst 0, 1) := by decide +kernel
theorem dX11_save_30 : decode cX11_save 30 = .ok (.aload_n 0, 1) := by decide +kernel
theorem dX11_save_31 : decode cX11_save 31 = .ok (.getfield 16, 3) := by decide +kernel
theorem dX11_save_34 : decode cX11_save 34 = .ok (.sipush 2234, 3) := by decide +kernel
theorem dX11_save_37 : decode cX11_save 37 = .ok (.iload_n 1, 1) := by decide +kernel
theorem dX11_save_38 : decode cX11_save 38 = .ok (.imul, 1) := by decide +kernel
theorem dX11_save_39 : decode cX11_save 39 = .ok (.invokestatic 361, 3) := by decide +kernel
theorem dX11_save_42 : decode cX11_save 42 = .ok (.aload_n 0, 1) := by decide +kernel
theorem dX11_save_43 : decode cX11_save 43 = .ok (.getfield 19, 3) := by decide +kernel
theorem dX11_save_46 : decode cX11_save 46 = .ok (.iload_n 1, 1) := by decide +kernel
theorem dX11_save_47 : decode cX11_save 47 = .ok (.iconst 1, 1) := by decide +kernel
theorem dX11_save_48 : decode cX11_save 48 = .ok (.bastore, 1) := by decide +kernel
theorem dX11_save_49 : decode cX11_save 49 = .ok (.return_, 1) := by decide +kernel
theorem dX11_restore_0 : decode cX11_restore 0 = .ok (.aload_n 0, 1) := by decide +kernel
theorem dX11_restore_1 : decode cX11_restore 1 = .ok (.iload_n 1, 1) := by decide +kernel
theorem dX11_restore_2 : decode cX11_restore 2 = .ok (.iconst 0, 1) := by decide +kernel
theorem dX11_restore_3 : decode cX11_restore 3 = .ok (.iconst 1, 1) := by decide +kernel
theorem dX11_restore_4 : decode cX11_restore 4 = .ok (.invokestatic 52, 3) := by decide +kernel
theorem dX11_restore_7 : decode cX11_restore 7 = .ok (.ifCond .ne 7, 3) := by decide +kernel
theorem dX11_restore_10 : decode cX11_restore 10 = .ok (.iconst 1, 1) := by decide +kernel
theorem dX11_restore_11 : decode cX11_restore 11 = .ok (.goto 17, 3) := by decide +kernel
theorem dX11_restore_14 : decode cX11_restore 14 = .ok (.aload_n 0, 1) := by decide +kernel
theorem dX11_restore_15 : decode cX11_restore 15 = .ok (.getfield 19, 3) := by decide +kernel
theorem dX11_restore_18 : decode cX11_restore 18 = .ok (.iload_n 1, 1) := by decide +kernel
theorem dX11_restore_19 : decode cX11_restore 19 = .ok (.baload, 1) := by decide +kernel
theorem dX11_restore_20 : decode cX11_restore 20 = .ok (.ifCond .ne 7, 3) := by decide +kernel
theorem dX11_restore_23 : decode cX11_restore 23 = .ok (.iconst 2, 1) := by decide +kernel
theorem dX11_restore_24 : decode cX11_restore 24 = .ok (.goto 4, 3) := by decide +kernel
theorem dX11_restore_27 : decode cX11_restore 27 = .ok (.iconst 0, 1) := by decide +kernel
theorem dX11_restore_28 : decode cX11_restore 28 = .ok (.putfield 49, 3) := by decide +kernel
theorem dX11_restore_31 : decode cX11_restore 31 = .ok (.aload_n 0, 1) := by decide +kernel
theorem dX11_restore_32 : decode cX11_restore 32 = .ok (.getfield 49, 3) := by decide +kernel
theorem dX11_restore_35 : decode cX11_restore 35 = .ok (.ifCond .ne 20, 3) := by decide +kernel
theorem dX11_restore_38 : decode cX11_restore 38 = .ok (.aload_n 0, 1) := by decide +kernel
theorem dX11_restore_39 : decode cX11_restore 39 = .ok (.getfield 16, 3) := by decide +kernel
theorem dX11_restore_42 : decode cX11_restore 42 = .ok (.sipush 2234, 3) := by decide +kernel
theorem dX11_restore_45 : decode cX11_restore 45 = .ok (.iload_n 1, 1) := by decide +kernel
theorem dX11_restore_46 : decode cX11_restore 46 = .ok (.imul, 1) := by decide +kernel
theorem dX11_restore_47 : decode cX11_restore 47 = .ok (.aload_n 0, 1) := by decide +kernel
theorem dX11_restore_48 : decode cX11_restore 48 = .ok (.getfield 7, 3) := by decide +kernel
theorem dX11_restore_51 : decode cX11_restore 51 = .ok (.iconst 0, 1) := by decide +kernel
theorem dX11_restore_52 : decode cX11_restore 52 = .ok (.invokestatic 361, 3) := by decide +kernel
theorem dX11_restore_55 : decode cX11_restore 55 = .ok (.return_, 1) := by decide +kernel
