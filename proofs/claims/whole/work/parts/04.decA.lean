theorem dX0_init_0 : decode cX0_init 0 = .ok (.aload_n 0, 1) := by decide +kernel
theorem dX0_init_1 : decode cX0_init 1 = .ok (.invokespecial 3, 3) := by decide +kernel
theorem dX0_init_4 : decode cX0_init 4 = .ok (.aload_n 0, 1) := by decide +kernel
theorem dX0_init_5 : decode cX0_init 5 = .ok (.sipush 256, 3) := by decide +kernel
theorem dX0_init_8 : decode cX0_init 8 = .ok (.newarray .int, 2) := by decide +kernel
theorem dX0_init_10 : decode cX0_init 10 = .ok (.putfield 9, 3) := by decide +kernel
theorem dX0_init_13 : decode cX0_init 13 = .ok (.aload_n 0, 1) := by decide +kernel
theorem dX0_init_14 : decode cX0_init 14 = .ok (.sipush 256, 3) := by decide +kernel
theorem dX0_init_17 : decode cX0_init 17 = .ok (.newarray .int, 2) := by decide +kernel
theorem dX0_init_19 : decode cX0_init 19 = .ok (.putfield 15, 3) := by decide +kernel
theorem dX0_init_22 : decode cX0_init 22 = .ok (.aload_n 0, 1) := by decide +kernel
theorem dX0_init_23 : decode cX0_init 23 = .ok (.new 18, 3) := by decide +kernel
theorem dX0_init_26 : decode cX0_init 26 = .ok (.dup, 1) := by decide +kernel
theorem dX0_init_27 : decode cX0_init 27 = .ok (.invokespecial 20, 3) := by decide +kernel
theorem dX0_init_30 : decode cX0_init 30 = .ok (.putfield 21, 3) := by decide +kernel
theorem dX0_init_33 : decode cX0_init 33 = .ok (.aload_n 0, 1) := by decide +kernel
theorem dX0_init_34 : decode cX0_init 34 = .ok (.new 18, 3) := by decide +kernel
theorem dX0_init_37 : decode cX0_init 37 = .ok (.dup, 1) := by decide +kernel
theorem dX0_init_38 : decode cX0_init 38 = .ok (.invokespecial 20, 3) := by decide +kernel
theorem dX0_init_41 : decode cX0_init 41 = .ok (.putfield 25, 3) := by decide +kernel
theorem dX0_init_44 : decode cX0_init 44 = .ok (.return_, 1) := by decide +kernel
theorem dX0_formBeam_0 : decode cX0_formBeam 0 = .ok (.aload_n 1, 1) := by decide +kernel
theorem dX0_formBeam_1 : decode cX0_formBeam 1 = .ok (.getfield 28, 3) := by decide +kernel
theorem dX0_formBeam_4 : decode cX0_formBeam 4 = .ok (.ifCond .eq 18, 3) := by decide +kernel
theorem dX0_formBeam_7 : decode cX0_formBeam 7 = .ok (.aload_n 0, 1) := by decide +kernel
theorem dX0_formBeam_8 : decode cX0_formBeam 8 = .ok (.aload_n 1, 1) := by decide +kernel
theorem dX0_formBeam_9 : decode cX0_formBeam 9 = .ok (.aload_n 1, 1) := by decide +kernel
theorem dX0_formBeam_10 : decode cX0_formBeam 10 = .ok (.getfield 34, 3) := by decide +kernel
theorem dX0_formBeam_13 : decode cX0_formBeam 13 = .ok (.iload_n 2, 1) := by decide +kernel
theorem dX0_formBeam_14 : decode cX0_formBeam 14 = .ok (.iadd, 1) := by decide +kernel
theorem dX0_formBeam_15 : decode cX0_formBeam 15 = .ok (.iload_n 3, 1) := by decide +kernel
theorem dX0_formBeam_16 : decode cX0_formBeam 16 = .ok (.iload 4, 2) := by decide +kernel
theorem dX0_formBeam_18 : decode cX0_formBeam 18 = .ok (.invokevirtual 38, 3) := by decide +kernel
theorem dX0_formBeam_21 : decode cX0_formBeam 21 = .ok (.areturn, 1) := by decide +kernel
theorem dX0_formBeam_22 : decode cX0_formBeam 22 = .ok (.aload_n 0, 1) := by decide +kernel
theorem dX0_formBeam_23 : decode cX0_formBeam 23 = .ok (.getfield 9, 3) := by decide +kernel
theorem dX0_formBeam_26 : decode cX0_formBeam 26 = .ok (.iconst 0, 1) := by decide +kernel
theorem dX0_formBeam_27 : decode cX0_formBeam 27 = .ok (.invokestatic 42, 3) := by decide +kernel
theorem dX0_formBeam_30 : decode cX0_formBeam 30 = .ok (.iconst 0, 1) := by decide +kernel
theorem dX0_formBeam_31 : decode cX0_formBeam 31 = .ok (.istore 5, 2) := by decide +kernel
theorem dX0_formBeam_33 : decode cX0_formBeam 33 = .ok (.iload 5, 2) := by decide +kernel
theorem dX0_formBeam_35 : decode cX0_formBeam 35 = .ok (.aload_n 1, 1) := by decide +kernel
theorem dX0_formBeam_36 : decode cX0_formBeam 36 = .ok (.getfield 48, 3) := by decide +kernel
theorem dX0_formBeam_39 : decode cX0_formBeam 39 = .ok (.if_icmp .ge 41, 3) := by decide +kernel
theorem dX0_formBeam_42 : decode cX0_formBeam 42 = .ok (.aload_n 1, 1) := by decide +kernel
theorem dX0_formBeam_43 : decode cX0_formBeam 43 = .ok (.getfield 51, 3) := by decide +kernel
theorem dX0_formBeam_46 : decode cX0_formBeam 46 = .ok (.iload 5, 2) := by decide +kernel
theorem dX0_formBeam_48 : decode cX0_formBeam 48 = .ok (.aaload, 1) := by decide +kernel
theorem dX0_formBeam_49 : decode cX0_formBeam 49 = .ok (.astore 6, 2) := by decide +kernel
theorem dX0_formBeam_51 : decode cX0_formBeam 51 = .ok (.aload_n 0, 1) := by decide +kernel
theorem dX0_formBeam_52 : decode cX0_formBeam 52 = .ok (.aload_n 1, 1) := by decide +kernel
theorem dX0_formBeam_53 : decode cX0_formBeam 53 = .ok (.aload 6, 2) := by decide +kernel
theorem dX0_formBeam_55 : decode cX0_formBeam 55 = .ok (.iload_n 2, 1) := by decide +kernel
theorem dX0_formBeam_56 : decode cX0_formBeam 56 = .ok (.iload_n 3, 1) := by decide +kernel
theorem dX0_formBeam_57 : decode cX0_formBeam 57 = .ok (.iload 4, 2) := by decide +kernel
theorem dX0_formBeam_59 : decode cX0_formBeam 59 = .ok (.invokevirtual 55, 3) := by decide +kernel
theorem dX0_formBeam_62 : decode cX0_formBeam 62 = .ok (.aload_n 0, 1) := by decide +kernel
theorem dX0_formBeam_63 : decode cX0_formBeam 63 = .ok (.aload 6, 2) := by decide +kernel
theorem dX0_formBeam_65 : decode cX0_formBeam 65 = .ok (.getfield 59, 3) := by decide +kernel
theorem dX0_formBeam_68 : decode cX0_formBeam 68 = .ok (.iload_n 3, 1) := by decide +kernel
theorem dX0_formBeam_69 : decode cX0_formBeam 69 = .ok (.iload 4, 2) := by decide +kernel
theorem dX0_formBeam_71 : decode cX0_formBeam 71 = .ok (.invokevirtual 64, 3) := by decide +kernel
theorem dX0_formBeam_74 : decode cX0_formBeam 74 = .ok (.iinc 5 1, 3) := by decide +kernel
theorem dX0_formBeam_77 : decode cX0_formBeam 77 = .ok (.goto (-44), 3) := by decide +kernel
theorem dX0_formBeam_80 : decode cX0_formBeam 80 = .ok (.aload_n 0, 1) := by decide +kernel
theorem dX0_formBeam_81 : decode cX0_formBeam 81 = .ok (.getfield 9, 3) := by decide +kernel
theorem dX0_formBeam_84 : decode cX0_formBeam 84 = .ok (.areturn, 1) := by decide +kernel
theorem dX0_formDirectionBeam_0 : decode cX0_formDirectionBeam 0 = .ok (.aload_n 0, 1) := by decide +kernel
theorem dX0_formDirectionBeam_1 : decode cX0_formDirectionBeam 1 = .ok (.getfield 9, 3) := by decide +kernel
theorem dX0_formDirectionBeam_4 : decode cX0_formDirectionBeam 4 = .ok (.iconst 0, 1) := by decide +kernel
theorem dX0_formDirectionBeam_5 : decode cX0_formDirectionBeam 5 = .ok (.invokestatic 42, 3) := by decide +kernel
theorem dX0_formDirectionBeam_8 : decode cX0_formDirectionBeam 8 = .ok (.iconst 0, 1) := by decide +kernel
theorem dX0_formDirectionBeam_9 : decode cX0_formDirectionBeam 9 = .ok (.istore 5, 2) := by decide +kernel
theorem dX0_formDirectionBeam_11 : decode cX0_formDirectionBeam 11 = .ok (.iload 5, 2) := by decide +kernel
theorem dX0_formDirectionBeam_13 : decode cX0_formDirectionBeam 13 = .ok (.aload_n 1, 1) := by decide +kernel
theorem dX0_formDirectionBeam_14 : decode cX0_formDirectionBeam 14 = .ok (.getfield 48, 3) := by decide +kernel
theorem dX0_formDirectionBeam_17 : decode cX0_formDirectionBeam 17 = .ok (.if_icmp .ge 41, 3) := by decide +kernel
theorem dX0_formDirectionBeam_20 : decode cX0_formDirectionBeam 20 = .ok (.aload_n 1, 1) := by decide +kernel
theorem dX0_formDirectionBeam_21 : decode cX0_formDirectionBeam 21 = .ok (.getfield 51, 3) := by decide +kernel
theorem dX0_formDirectionBeam_24 : decode cX0_formDirectionBeam 24 = .ok (.iload 5, 2) := by decide +kernel
theorem dX0_formDirectionBeam_26 : decode cX0_formDirectionBeam 26 = .ok (.aaload, 1) := by decide +kernel
theorem dX0_formDirectionBeam_27 : decode cX0_formDirectionBeam 27 = .ok (.astore 6, 2) := by decide +kernel
theorem dX0_formDirectionBeam_29 : decode cX0_formDirectionBeam 29 = .ok (.aload_n 0, 1) := by decide +kernel
theorem dX0_formDirectionBeam_30 : decode cX0_formDirectionBeam 30 = .ok (.aload_n 1, 1) := by decide +kernel
theorem dX0_formDirectionBeam_31 : decode cX0_formDirectionBeam 31 = .ok (.aload 6, 2) := by decide +kernel
theorem dX0_formDirectionBeam_33 : decode cX0_formDirectionBeam 33 = .ok (.iload_n 2, 1) := by decide +kernel
theorem dX0_formDirectionBeam_34 : decode cX0_formDirectionBeam 34 = .ok (.iload_n 3, 1) := by decide +kernel
theorem dX0_formDirectionBeam_35 : decode cX0_formDirectionBeam 35 = .ok (.iload 4, 2) := by decide +kernel
theorem dX0_formDirectionBeam_37 : decode cX0_formDirectionBeam 37 = .ok (.invokevirtual 68, 3) := by decide +kernel
theorem dX0_formDirectionBeam_40 : decode cX0_formDirectionBeam 40 = .ok (.aload_n 0, 1) := by decide +kernel
theorem dX0_formDirectionBeam_41 : decode cX0_formDirectionBeam 41 = .ok (.aload 6, 2) := by decide +kernel
theorem dX0_formDirectionBeam_43 : decode cX0_formDirectionBeam 43 = .ok (.getfield 59, 3) := by decide +kernel
theorem dX0_formDirectionBeam_46 : decode cX0_formDirectionBeam 46 = .ok (.iload_n 3, 1) := by decide +kernel
theorem dX0_formDirectionBeam_47 : decode cX0_formDirectionBeam 47 = .ok (.iload 4, 2) := by decide +kernel
theorem dX0_formDirectionBeam_49 : decode cX0_formDirectionBeam 49 = .ok (.invokevirtual 64, 3) := by decide +kernel
theorem dX0_formDirectionBeam_52 : decode cX0_formDirectionBeam 52 = .ok (.iinc 5 1, 3) := by decide +kernel
theorem dX0_formDirectionBeam_55 : decode cX0_formDirectionBeam 55 = .ok (.goto (-44), 3) := by decide +kernel
theorem dX0_formDirectionBeam_58 : decode cX0_formDirectionBeam 58 = .ok (.aload_n 0, 1) := by decide +kernel
theorem dX0_formDirectionBeam_59 : decode cX0_formDirectionBeam 59 = .ok (.getfield 9, 3) := by decide +kernel
theorem dX0_formDirectionBeam_62 : decode cX0_formDirectionBeam 62 = .ok (.areturn, 1) := by decide +kernel
theorem dX0_partAt_0 : decode cX0_partAt 0 = .ok (.aload_n 1, 1) := by decide +kernel
theorem dX0_partAt_1 : decode cX0_partAt 1 = .ok (.getfield 28, 3) := by decide +kernel
theorem dX0_partAt_4 : decode cX0_partAt 4 = .ok (.ifCond .eq 18, 3) := by decide +kernel
theorem dX0_partAt_7 : decode cX0_partAt 7 = .ok (.aload_n 0, 1) := by decide +kernel
theorem dX0_partAt_8 : decode cX0_partAt 8 = .ok (.aload_n 1, 1) := by decide +kernel
theorem dX0_partAt_9 : decode cX0_partAt 9 = .ok (.aload_n 2, 1) := by decide +kernel
theorem dX0_partAt_10 : decode cX0_partAt 10 = .ok (.aload_n 1, 1) := by decide +kernel
theorem dX0_partAt_11 : decode cX0_partAt 11 = .ok (.getfield 34, 3) := by decide +kernel
theorem dX0_partAt_14 : decode cX0_partAt 14 = .ok (.iload_n 3, 1) := by decide +kernel
theorem dX0_partAt_15 : decode cX0_partAt 15 = .ok (.iload_n 3, 1) := by decide +kernel
theorem dX0_partAt_16 : decode cX0_partAt 16 = .ok (.invokevirtual 68, 3) := by decide +kernel
theorem dX0_partAt_19 : decode cX0_partAt 19 = .ok (.goto 12, 3) := by decide +kernel
theorem dX0_partAt_22 : decode cX0_partAt 22 = .ok (.aload_n 0, 1) := by decide +kernel
theorem dX0_partAt_23 : decode cX0_partAt 23 = .ok (.aload_n 1, 1) := by decide +kernel
theorem dX0_partAt_24 : decode cX0_partAt 24 = .ok (.aload_n 2, 1) := by decide +kernel
theorem dX0_partAt_25 : decode cX0_partAt 25 = .ok (.iconst 0, 1) := by decide +kernel
theorem dX0_partAt_26 : decode cX0_partAt 26 = .ok (.iload_n 3, 1) := by decide +kernel
theorem dX0_partAt_27 : decode cX0_partAt 27 = .ok (.iload_n 3, 1) := by decide +kernel
theorem dX0_partAt_28 : decode cX0_partAt 28 = .ok (.invokevirtual 55, 3) := by decide +kernel
theorem dX0_partAt_31 : decode cX0_partAt 31 = .ok (.aload_n 0, 1) := by decide +kernel
theorem dX0_partAt_32 : decode cX0_partAt 32 = .ok (.getfield 15, 3) := by decide +kernel
theorem dX0_partAt_35 : decode cX0_partAt 35 = .ok (.iload_n 3, 1) := by decide +kernel
theorem dX0_partAt_36 : decode cX0_partAt 36 = .ok (.iaload, 1) := by decide +kernel
theorem dX0_partAt_37 : decode cX0_partAt 37 = .ok (.ireturn, 1) := by decide +kernel
theorem dX0_sampleNumberAt_0 : decode cX0_sampleNumberAt 0 = .ok (.aload_n 1, 1) := by decide +kernel
theorem dX0_sampleNumberAt_1 : decode cX0_sampleNumberAt 1 = .ok (.getfield 28, 3) := by decide +kernel
theorem dX0_sampleNumberAt_4 : decode cX0_sampleNumberAt 4 = .ok (.ifCond .eq 15, 3) := by decide +kernel
theorem dX0_sampleNumberAt_7 : decode cX0_sampleNumberAt 7 = .ok (.iload_n 3, 1) := by decide +kernel
theorem dX0_sampleNumberAt_8 : decode cX0_sampleNumberAt 8 = .ok (.aload_n 1, 1) := by decide +kernel
theorem dX0_sampleNumberAt_9 : decode cX0_sampleNumberAt 9 = .ok (.aload_n 2, 1) := by decide +kernel
theorem dX0_sampleNumberAt_10 : decode cX0_sampleNumberAt 10 = .ok (.aload_n 1, 1) := by decide +kernel
theorem dX0_sampleNumberAt_11 : decode cX0_sampleNumberAt 11 = .ok (.getfield 34, 3) := by decide +kernel
theorem dX0_sampleNumberAt_14 : decode cX0_sampleNumberAt 14 = .ok (.invokestatic 71, 3) := by decide +kernel
theorem dX0_sampleNumberAt_17 : decode cX0_sampleNumberAt 17 = .ok (.iadd, 1) := by decide +kernel
theorem dX0_sampleNumberAt_18 : decode cX0_sampleNumberAt 18 = .ok (.ireturn, 1) := by decide +kernel
theorem dX0_sampleNumberAt_19 : decode cX0_sampleNumberAt 19 = .ok (.aload_n 0, 1) := by decide +kernel
theorem dX0_sampleNumberAt_20 : decode cX0_sampleNumberAt 20 = .ok (.getfield 21, 3) := by decide +kernel
theorem dX0_sampleNumberAt_23 : decode cX0_sampleNumberAt 23 = .ok (.aload_n 1, 1) := by decide +kernel
theorem dX0_sampleNumberAt_24 : decode cX0_sampleNumberAt 24 = .ok (.getfield 75, 3) := by decide +kernel
theorem dX0_sampleNumberAt_27 : decode cX0_sampleNumberAt 27 = .ok (.iconst 0, 1) := by decide +kernel
theorem dX0_sampleNumberAt_28 : decode cX0_sampleNumberAt 28 = .ok (.aload_n 2, 1) := by decide +kernel
theorem dX0_sampleNumberAt_29 : decode cX0_sampleNumberAt 29 = .ok (.iconst 0, 1) := by decide +kernel
theorem dX0_sampleNumberAt_30 : decode cX0_sampleNumberAt 30 = .ok (.invokevirtual 79, 3) := by decide +kernel
theorem dX0_sampleNumberAt_33 : decode cX0_sampleNumberAt 33 = .ok (.aload_n 0, 1) := by decide +kernel
theorem dX0_sampleNumberAt_34 : decode cX0_sampleNumberAt 34 = .ok (.getfield 21, 3) := by decide +kernel
theorem dX0_sampleNumberAt_37 : decode cX0_sampleNumberAt 37 = .ok (.iload_n 3, 1) := by decide +kernel
theorem dX0_sampleNumberAt_38 : decode cX0_sampleNumberAt 38 = .ok (.aload_n 1, 1) := by decide +kernel
theorem dX0_sampleNumberAt_39 : decode cX0_sampleNumberAt 39 = .ok (.getfield 83, 3) := by decide +kernel
theorem dX0_sampleNumberAt_42 : decode cX0_sampleNumberAt 42 = .ok (.invokevirtual 86, 3) := by decide +kernel
theorem dX0_sampleNumberAt_45 : decode cX0_sampleNumberAt 45 = .ok (.ireturn, 1) := by decide +kernel
theorem dX0_addParts_0 : decode cX0_addParts 0 = .ok (.iload_n 2, 1) := by decide +kernel
theorem dX0_addParts_1 : decode cX0_addParts 1 = .ok (.istore 4, 2) := by decide +kernel
theorem dX0_addParts_3 : decode cX0_addParts 3 = .ok (.iload 4, 2) := by decide +kernel
theorem dX0_addParts_5 : decode cX0_addParts 5 = .ok (.iload_n 3, 1) := by decide +kernel
theorem dX0_addParts_6 : decode cX0_addParts 6 = .ok (.if_icmp .gt 28, 3) := by decide +kernel
theorem dX0_addParts_9 : decode cX0_addParts 9 = .ok (.aload_n 0, 1) := by decide +kernel
theorem dX0_addParts_10 : decode cX0_addParts 10 = .ok (.getfield 9, 3) := by decide +kernel
theorem dX0_addParts_13 : decode cX0_addParts 13 = .ok (.iload 4, 2) := by decide +kernel
theorem dX0_addParts_15 : decode cX0_addParts 15 = .ok (.dup2, 1) := by decide +kernel
theorem dX0_addParts_16 : decode cX0_addParts 16 = .ok (.iaload, 1) := by decide +kernel
theorem dX0_addParts_17 : decode cX0_addParts 17 = .ok (.iload_n 1, 1) := by decide +kernel
theorem dX0_addParts_18 : decode cX0_addParts 18 = .ok (.aload_n 0, 1) := by decide +kernel
theorem dX0_addParts_19 : decode cX0_addParts 19 = .ok (.getfield 15, 3) := by decide +kernel
theorem dX0_addParts_22 : decode cX0_addParts 22 = .ok (.iload 4, 2) := by decide +kernel
theorem dX0_addParts_24 : decode cX0_addParts 24 = .ok (.iaload, 1) := by decide +kernel
theorem dX0_addParts_25 : decode cX0_addParts 25 = .ok (.imul, 1) := by decide +kernel
theorem dX0_addParts_26 : decode cX0_addParts 26 = .ok (.iadd, 1) := by decide +kernel
theorem dX0_addParts_27 : decode cX0_addParts 27 = .ok (.iastore, 1) := by decide +kernel
theorem dX0_addParts_28 : decode cX0_addParts 28 = .ok (.iinc 4 1, 3) := by decide +kernel
theorem dX0_addParts_31 : decode cX0_addParts 31 = .ok (.goto (-28), 3) := by decide +kernel
theorem dX0_addParts_34 : decode cX0_addParts 34 = .ok (.return_, 1) := by decide +kernel
theorem dX0_takeDirectionParts_0 : decode cX0_takeDirectionParts 0 = .ok (.aload_n 1, 1) := by decide +kernel
theorem dX0_takeDirectionParts_1 : decode cX0_takeDirectionParts 1 = .ok (.aload_n 2, 1) := by decide +kernel
theorem dX0_takeDirectionParts_2 : decode cX0_takeDirectionParts 2 = .ok (.iload_n 3, 1) := by decide +kernel
theorem dX0_takeDirectionParts_3 : decode cX0_takeDirectionParts 3 = .ok (.invokestatic 71, 3) := by decide +kernel
theorem dX0_takeDirectionParts_6 : decode cX0_takeDirectionParts 6 = .ok (.istore 6, 2) := by decide +kernel
theorem dX0_takeDirectionParts_8 : decode cX0_takeDirectionParts 8 = .ok (.iload 4, 2) := by decide +kernel
theorem dX0_takeDirectionParts_10 : decode cX0_takeDirectionParts 10 = .ok (.istore 7, 2) := by decide +kernel
theorem dX0_takeDirectionParts_12 : decode cX0_takeDirectionParts 12 = .ok (.iload 7, 2) := by decide +kernel
theorem dX0_takeDirectionParts_14 : decode cX0_takeDirectionParts 14 = .ok (.iload 5, 2) := by decide +kernel
theorem dX0_takeDirectionParts_16 : decode cX0_takeDirectionParts 16 = .ok (.if_icmp .gt 28, 3) := by decide +kernel
theorem dX0_takeDirectionParts_19 : decode cX0_takeDirectionParts 19 = .ok (.aload_n 0, 1) := by decide +kernel
theorem dX0_takeDirectionParts_20 : decode cX0_takeDirectionParts 20 = .ok (.getfield 15, 3) := by decide +kernel
theorem dX0_takeDirectionParts_23 : decode cX0_takeDirectionParts 23 = .ok (.iload 7, 2) := by decide +kernel
theorem dX0_takeDirectionParts_25 : decode cX0_takeDirectionParts 25 = .ok (.aload_n 2, 1) := by decide +kernel
theorem dX0_takeDirectionParts_26 : decode cX0_takeDirectionParts 26 = .ok (.getfield 90, 3) := by decide +kernel
theorem dX0_takeDirectionParts_29 : decode cX0_takeDirectionParts 29 = .ok (.iload 7, 2) := by decide +kernel
theorem dX0_takeDirectionParts_31 : decode cX0_takeDirectionParts 31 = .ok (.iload 6, 2) := by decide +kernel
theorem dX0_takeDirectionParts_33 : decode cX0_takeDirectionParts 33 = .ok (.iadd, 1) := by decide +kernel
theorem dX0_takeDirectionParts_34 : decode cX0_takeDirectionParts 34 = .ok (.invokestatic 93, 3) := by decide +kernel
theorem dX0_takeDirectionParts_37 : decode cX0_takeDirectionParts 37 = .ok (.iastore, 1) := by decide +kernel
theorem dX0_takeDirectionParts_38 : decode cX0_takeDirectionParts 38 = .ok (.iinc 7 1, 3) := by decide +kernel
theorem dX0_takeDirectionParts_41 : decode cX0_takeDirectionParts 41 = .ok (.goto (-29), 3) := by decide +kernel
theorem dX0_takeDirectionParts_44 : decode cX0_takeDirectionParts 44 = .ok (.return_, 1) := by decide +kernel
theorem dX0_directionShift_0 : decode cX0_directionShift 0 = .ok (.bipush 100, 2) := by decide +kernel
theorem dX0_directionShift_2 : decode cX0_directionShift 2 = .ok (.aload_n 0, 1) := by decide +kernel
theorem dX0_directionShift_3 : decode cX0_directionShift 3 = .ok (.getfield 83, 3) := by decide +kernel
theorem dX0_directionShift_6 : decode cX0_directionShift 6 = .ok (.imul, 1) := by decide +kernel
theorem dX0_directionShift_7 : decode cX0_directionShift 7 = .ok (.istore_n 3, 1) := by decide +kernel
theorem dX0_directionShift_8 : decode cX0_directionShift 8 = .ok (.iload_n 3, 1) := by decide +kernel
theorem dX0_directionShift_9 : decode cX0_directionShift 9 = .ok (.ifCond .ne 7, 3) := by decide +kernel
theorem dX0_directionShift_12 : decode cX0_directionShift 12 = .ok (.iconst 0, 1) := by decide +kernel
theorem dX0_directionShift_13 : decode cX0_directionShift 13 = .ok (.goto 13, 3) := by decide +kernel
theorem dX0_directionShift_16 : decode cX0_directionShift 16 = .ok (.aload_n 1, 1) := by decide +kernel
theorem dX0_directionShift_17 : decode cX0_directionShift 17 = .ok (.getfield 97, 3) := by decide +kernel
theorem dX0_directionShift_20 : decode cX0_directionShift 20 = .ok (.iload_n 2, 1) := by decide +kernel
theorem dX0_directionShift_21 : decode cX0_directionShift 21 = .ok (.imul, 1) := by decide +kernel
theorem dX0_directionShift_22 : decode cX0_directionShift 22 = .ok (.iload_n 3, 1) := by decide +kernel
theorem dX0_directionShift_23 : decode cX0_directionShift 23 = .ok (.invokestatic 100, 3) := by decide +kernel
theorem dX0_directionShift_26 : decode cX0_directionShift 26 = .ok (.ireturn, 1) := by decide +kernel
theorem dX0_takePlaceParts_0 : decode cX0_takePlaceParts 0 = .ok (.aload_n 0, 1) := by decide +kernel
theorem dX0_takePlaceParts_1 : decode cX0_takePlaceParts 1 = .ok (.getfield 21, 3) := by decide +kernel
theorem dX0_takePlaceParts_4 : decode cX0_takePlaceParts 4 = .ok (.aload_n 1, 1) := by decide +kernel
theorem dX0_takePlaceParts_5 : decode cX0_takePlaceParts 5 = .ok (.getfield 75, 3) := by decide +kernel
theorem dX0_takePlaceParts_8 : decode cX0_takePlaceParts 8 = .ok (.iload_n 3, 1) := by decide +kernel
theorem dX0_takePlaceParts_9 : decode cX0_takePlaceParts 9 = .ok (.aload_n 2, 1) := by decide +kernel
theorem dX0_takePlaceParts_10 : decode cX0_takePlaceParts 10 = .ok (.iconst 0, 1) := by decide +kernel
theorem dX0_takePlaceParts_11 : decode cX0_takePlaceParts 11 = .ok (.invokevirtual 79, 3) := by decide +kernel
theorem dX0_takePlaceParts_14 : decode cX0_takePlaceParts 14 = .ok (.aload_n 1, 1) := by decide +kernel
theorem dX0_takePlaceParts_15 : decode cX0_takePlaceParts 15 = .ok (.getfield 105, 3) := by decide +kernel
theorem dX0_takePlaceParts_18 : decode cX0_takePlaceParts 18 = .ok (.ifCond .eq 29, 3) := by decide +kernel
theorem dX0_takePlaceParts_21 : decode cX0_takePlaceParts 21 = .ok (.aload_n 0, 1) := by decide +kernel
theorem dX0_takePlaceParts_22 : decode cX0_takePlaceParts 22 = .ok (.getfield 25, 3) := by decide +kernel
theorem dX0_takePlaceParts_25 : decode cX0_takePlaceParts 25 = .ok (.aload_n 1, 1) := by decide +kernel
theorem dX0_takePlaceParts_26 : decode cX0_takePlaceParts 26 = .ok (.getfield 75, 3) := by decide +kernel
theorem dX0_takePlaceParts_29 : decode cX0_takePlaceParts 29 = .ok (.iload_n 3, 1) := by decide +kernel
theorem dX0_takePlaceParts_30 : decode cX0_takePlaceParts 30 = .ok (.aload_n 2, 1) := by decide +kernel
theorem dX0_takePlaceParts_31 : decode cX0_takePlaceParts 31 = .ok (.iconst 1, 1) := by decide +kernel
theorem dX0_takePlaceParts_32 : decode cX0_takePlaceParts 32 = .ok (.invokevirtual 79, 3) := by decide +kernel
theorem dX0_takePlaceParts_35 : decode cX0_takePlaceParts 35 = .ok (.aload_n 0, 1) := by decide +kernel
theorem dX0_takePlaceParts_36 : decode cX0_takePlaceParts 36 = .ok (.aload_n 1, 1) := by decide +kernel
theorem dX0_takePlaceParts_37 : decode cX0_takePlaceParts 37 = .ok (.aload_n 2, 1) := by decide +kernel
theorem dX0_takePlaceParts_38 : decode cX0_takePlaceParts 38 = .ok (.getfield 90, 3) := by decide +kernel
theorem dX0_takePlaceParts_41 : decode cX0_takePlaceParts 41 = .ok (.iload 5, 2) := by decide +kernel
theorem dX0_takePlaceParts_43 : decode cX0_takePlaceParts 43 = .ok (.invokevirtual 108, 3) := by decide +kernel
theorem dX0_takePlaceParts_46 : decode cX0_takePlaceParts 46 = .ok (.return_, 1) := by decide +kernel
theorem dX0_takePlaceParts_47 : decode cX0_takePlaceParts 47 = .ok (.iload 4, 2) := by decide +kernel
theorem dX0_takePlaceParts_49 : decode cX0_takePlaceParts 49 = .ok (.istore 6, 2) := by decide +kernel
theorem dX0_takePlaceParts_51 : decode cX0_takePlaceParts 51 = .ok (.iload 6, 2) := by decide +kernel
theorem dX0_takePlaceParts_53 : decode cX0_takePlaceParts 53 = .ok (.iload 5, 2) := by decide +kernel
theorem dX0_takePlaceParts_55 : decode cX0_takePlaceParts 55 = .ok (.if_icmp .gt 36, 3) := by decide +kernel
theorem dX0_takePlaceParts_58 : decode cX0_takePlaceParts 58 = .ok (.aload_n 0, 1) := by decide +kernel
theorem dX0_takePlaceParts_59 : decode cX0_takePlaceParts 59 = .ok (.getfield 15, 3) := by decide +kernel
theorem dX0_takePlaceParts_62 : decode cX0_takePlaceParts 62 = .ok (.iload 6, 2) := by decide +kernel
theorem dX0_takePlaceParts_64 : decode cX0_takePlaceParts 64 = .ok (.aload_n 2, 1) := by decide +kernel
theorem dX0_takePlaceParts_65 : decode cX0_takePlaceParts 65 = .ok (.getfield 90, 3) := by decide +kernel
theorem dX0_takePlaceParts_68 : decode cX0_takePlaceParts 68 = .ok (.aload_n 0, 1) := by decide +kernel
theorem dX0_takePlaceParts_69 : decode cX0_takePlaceParts 69 = .ok (.getfield 21, 3) := by decide +kernel
theorem dX0_takePlaceParts_72 : decode cX0_takePlaceParts 72 = .ok (.iload 6, 2) := by decide +kernel
theorem dX0_takePlaceParts_74 : decode cX0_takePlaceParts 74 = .ok (.aload_n 1, 1) := by decide +kernel
theorem dX0_takePlaceParts_75 : decode cX0_takePlaceParts 75 = .ok (.getfield 83, 3) := by decide +kernel
theorem dX0_takePlaceParts_78 : decode cX0_takePlaceParts 78 = .ok (.invokevirtual 86, 3) := by decide +kernel
theorem dX0_takePlaceParts_81 : decode cX0_takePlaceParts 81 = .ok (.invokestatic 93, 3) := by decide +kernel
theorem dX0_takePlaceParts_84 : decode cX0_takePlaceParts 84 = .ok (.iastore, 1) := by decide +kernel
theorem dX0_takePlaceParts_85 : decode cX0_takePlaceParts 85 = .ok (.iinc 6 1, 3) := by decide +kernel
theorem dX0_takePlaceParts_88 : decode cX0_takePlaceParts 88 = .ok (.goto (-37), 3) := by decide +kernel
theorem dX0_takePlaceParts_91 : decode cX0_takePlaceParts 91 = .ok (.return_, 1) := by decide +kernel
theorem dX0_takeCutParts_0 : decode cX0_takeCutParts 0 = .ok (.aload_n 1, 1) := by decide +kernel
theorem dX0_takeCutParts_1 : decode cX0_takeCutParts 1 = .ok (.getfield 83, 3) := by decide +kernel
theorem dX0_takeCutParts_4 : decode cX0_takeCutParts 4 = .ok (.istore 4, 2) := by decide +kernel
theorem dX0_takeCutParts_6 : decode cX0_takeCutParts 6 = .ok (.iconst 0, 1) := by decide +kernel
theorem dX0_takeCutParts_7 : decode cX0_takeCutParts 7 = .ok (.istore 5, 2) := by decide +kernel
theorem dX0_takeCutParts_9 : decode cX0_takeCutParts 9 = .ok (.aload_n 0, 1) := by decide +kernel
theorem dX0_takeCutParts_10 : decode cX0_takeCutParts 10 = .ok (.getfield 25, 3) := by decide +kernel
theorem dX0_takeCutParts_13 : decode cX0_takeCutParts 13 = .ok (.iload 5, 2) := by decide +kernel
theorem dX0_takeCutParts_15 : decode cX0_takeCutParts 15 = .ok (.iload 4, 2) := by decide +kernel
theorem dX0_takeCutParts_17 : decode cX0_takeCutParts 17 = .ok (.invokevirtual 112, 3) := by decide +kernel
theorem dX0_takeCutParts_20 : decode cX0_takeCutParts 20 = .ok (.istore 6, 2) := by decide +kernel
theorem dX0_takeCutParts_22 : decode cX0_takeCutParts 22 = .ok (.iconst 0, 1) := by decide +kernel
theorem dX0_takeCutParts_23 : decode cX0_takeCutParts 23 = .ok (.istore 7, 2) := by decide +kernel
theorem dX0_takeCutParts_25 : decode cX0_takeCutParts 25 = .ok (.iload 7, 2) := by decide +kernel
theorem dX0_takeCutParts_27 : decode cX0_takeCutParts 27 = .ok (.iload_n 3, 1) := by decide +kernel
theorem dX0_takeCutParts_28 : decode cX0_takeCutParts 28 = .ok (.if_icmp .gt 110, 3) := by decide +kernel
theorem dX0_takeCutParts_31 : decode cX0_takeCutParts 31 = .ok (.aload_n 0, 1) := by decide +kernel
theorem dX0_takeCutParts_32 : decode cX0_takeCutParts 32 = .ok (.getfield 21, 3) := by decide +kernel
theorem dX0_takeCutParts_35 : decode cX0_takeCutParts 35 = .ok (.iload 7, 2) := by decide +kernel
theorem dX0_takeCutParts_37 : decode cX0_takeCutParts 37 = .ok (.iload 4, 2) := by decide +kernel
theorem dX0_takeCutParts_39 : decode cX0_takeCutParts 39 = .ok (.invokevirtual 86, 3) := by decide +kernel
theorem dX0_takeCutParts_42 : decode cX0_takeCutParts 42 = .ok (.istore 8, 2) := by decide +kernel
theorem dX0_takeCutParts_44 : decode cX0_takeCutParts 44 = .ok (.iload 5, 2) := by decide +kernel
theorem dX0_takeCutParts_46 : decode cX0_takeCutParts 46 = .ok (.iload 7, 2) := by decide +kernel
theorem dX0_takeCutParts_48 : decode cX0_takeCutParts 48 = .ok (.if_icmp .gt 32, 3) := by decide +kernel
theorem dX0_takeCutParts_51 : decode cX0_takeCutParts 51 = .ok (.iload 6, 2) := by decide +kernel
theorem dX0_takeCutParts_53 : decode cX0_takeCutParts 53 = .ok (.iload 8, 2) := by decide +kernel
theorem dX0_takeCutParts_55 : decode cX0_takeCutParts 55 = .ok (.iload 4, 2) := by decide +kernel
theorem dX0_takeCutParts_57 : decode cX0_takeCutParts 57 = .ok (.imul, 1) := by decide +kernel
theorem dX0_takeCutParts_58 : decode cX0_takeCutParts 58 = .ok (.if_icmp .gt 22, 3) := by decide +kernel
theorem dX0_takeCutParts_61 : decode cX0_takeCutParts 61 = .ok (.iinc 5 1, 3) := by decide +kernel
theorem dX0_takeCutParts_64 : decode cX0_takeCutParts 64 = .ok (.aload_n 0, 1) := by decide +kernel
theorem dX0_takeCutParts_65 : decode cX0_takeCutParts 65 = .ok (.getfield 25, 3) := by decide +kernel
theorem dX0_takeCutParts_68 : decode cX0_takeCutParts 68 = .ok (.iload 5, 2) := by decide +kernel
theorem dX0_takeCutParts_70 : decode cX0_takeCutParts 70 = .ok (.iload 4, 2) := by decide +kernel
theorem dX0_takeCutParts_72 : decode cX0_takeCutParts 72 = .ok (.invokevirtual 112, 3) := by decide +kernel
theorem dX0_takeCutParts_75 : decode cX0_takeCutParts 75 = .ok (.istore 6, 2) := by decide +kernel
theorem dX0_takeCutParts_77 : decode cX0_takeCutParts 77 = .ok (.goto (-33), 3) := by decide +kernel
theorem dX0_takeCutParts_80 : decode cX0_takeCutParts 80 = .ok (.aload_n 0, 1) := by decide +kernel
theorem dX0_takeCutParts_81 : decode cX0_takeCutParts 81 = .ok (.getfield 15, 3) := by decide +kernel
theorem dX0_takeCutParts_84 : decode cX0_takeCutParts 84 = .ok (.iload 7, 2) := by decide +kernel
theorem dX0_takeCutParts_86 : decode cX0_takeCutParts 86 = .ok (.aload_n 2, 1) := by decide +kernel
theorem dX0_takeCutParts_87 : decode cX0_takeCutParts 87 = .ok (.iload 8, 2) := by decide +kernel
theorem dX0_takeCutParts_89 : decode cX0_takeCutParts 89 = .ok (.invokestatic 93, 3) := by decide +kernel
theorem dX0_takeCutParts_92 : decode cX0_takeCutParts 92 = .ok (.iastore, 1) := by decide +kernel
theorem dX0_takeCutParts_93 : decode cX0_takeCutParts 93 = .ok (.iload 8, 2) := by decide +kernel
theorem dX0_takeCutParts_95 : decode cX0_takeCutParts 95 = .ok (.sipush 256, 3) := by decide +kernel
theorem dX0_takeCutParts_98 : decode cX0_takeCutParts 98 = .ok (.if_icmp .ge 34, 3) := by decide +kernel
theorem dX0_takeCutParts_101 : decode cX0_takeCutParts 101 = .ok (.iload 5, 2) := by decide +kernel
theorem dX0_takeCutParts_103 : decode cX0_takeCutParts 103 = .ok (.ifCond .le 29, 3) := by decide +kernel
theorem dX0_takeCutParts_106 : decode cX0_takeCutParts 106 = .ok (.iload 5, 2) := by decide +kernel
theorem dX0_takeCutParts_108 : decode cX0_takeCutParts 108 = .ok (.iload 7, 2) := by decide +kernel
theorem dX0_takeCutParts_110 : decode cX0_takeCutParts 110 = .ok (.if_icmp .gt 22, 3) := by decide +kernel
theorem dX0_takeCutParts_113 : decode cX0_takeCutParts 113 = .ok (.aload_n 0, 1) := by decide +kernel
theorem dX0_takeCutParts_114 : decode cX0_takeCutParts 114 = .ok (.getfield 15, 3) := by decide +kernel
theorem dX0_takeCutParts_117 : decode cX0_takeCutParts 117 = .ok (.iload 7, 2) := by decide +kernel
theorem dX0_takeCutParts_119 : decode cX0_takeCutParts 119 = .ok (.dup2, 1) := by decide +kernel
theorem dX0_takeCutParts_120 : decode cX0_takeCutParts 120 = .ok (.iaload, 1) := by decide +kernel
theorem dX0_takeCutParts_121 : decode cX0_takeCutParts 121 = .ok (.aload_n 0, 1) := by decide +kernel
theorem dX0_takeCutParts_122 : decode cX0_takeCutParts 122 = .ok (.aload_n 1, 1) := by decide +kernel
theorem dX0_takeCutParts_123 : decode cX0_takeCutParts 123 = .ok (.iload 5, 2) := by decide +kernel
theorem dX0_takeCutParts_125 : decode cX0_takeCutParts 125 = .ok (.iconst 1, 1) := by decide +kernel
theorem dX0_takeCutParts_126 : decode cX0_takeCutParts 126 = .ok (.isub, 1) := by decide +kernel
theorem dX0_takeCutParts_127 : decode cX0_takeCutParts 127 = .ok (.invokevirtual 115, 3) := by decide +kernel
theorem dX0_takeCutParts_130 : decode cX0_takeCutParts 130 = .ok (.isub, 1) := by decide +kernel
theorem dX0_takeCutParts_131 : decode cX0_takeCutParts 131 = .ok (.iastore, 1) := by decide +kernel
theorem dX0_takeCutParts_132 : decode cX0_takeCutParts 132 = .ok (.iinc 7 1, 3) := by decide +kernel
theorem dX0_takeCutParts_135 : decode cX0_takeCutParts 135 = .ok (.goto (-110), 3) := by decide +kernel
theorem dX0_takeCutParts_138 : decode cX0_takeCutParts 138 = .ok (.return_, 1) := by decide +kernel
theorem dX0_reflectedPart_0 : decode cX0_reflectedPart 0 = .ok (.aload_n 0, 1) := by decide +kernel
theorem dX0_reflectedPart_1 : decode cX0_reflectedPart 1 = .ok (.getfield 15, 3) := by decide +kernel
theorem dX0_reflectedPart_4 : decode cX0_reflectedPart 4 = .ok (.iload_n 2, 1) := by decide +kernel
theorem dX0_reflectedPart_5 : decode cX0_reflectedPart 5 = .ok (.iaload, 1) := by decide +kernel
theorem dX0_reflectedPart_6 : decode cX0_reflectedPart 6 = .ok (.i2l, 1) := by decide +kernel
theorem dX0_reflectedPart_7 : decode cX0_reflectedPart 7 = .ok (.lstore_n 3, 1) := by decide +kernel
theorem dX0_reflectedPart_8 : decode cX0_reflectedPart 8 = .ok (.aload_n 1, 1) := by decide +kernel
theorem dX0_reflectedPart_9 : decode cX0_reflectedPart 9 = .ok (.getfield 119, 3) := by decide +kernel
theorem dX0_reflectedPart_12 : decode cX0_reflectedPart 12 = .ok (.ifCond .eq 35, 3) := by decide +kernel
theorem dX0_reflectedPart_15 : decode cX0_reflectedPart 15 = .ok (.lload_n 3, 1) := by decide +kernel
theorem dX0_reflectedPart_16 : decode cX0_reflectedPart 16 = .ok (.sipush 1000, 3) := by decide +kernel
theorem dX0_reflectedPart_19 : decode cX0_reflectedPart 19 = .ok (.aload_n 0, 1) := by decide +kernel
theorem dX0_reflectedPart_20 : decode cX0_reflectedPart 20 = .ok (.getfield 21, 3) := by decide +kernel
theorem dX0_reflectedPart_23 : decode cX0_reflectedPart 23 = .ok (.iload_n 2, 1) := by decide +kernel
theorem dX0_reflectedPart_24 : decode cX0_reflectedPart 24 = .ok (.invokevirtual 122, 3) := by decide +kernel
theorem dX0_reflectedPart_27 : decode cX0_reflectedPart 27 = .ok (.iadd, 1) := by decide +kernel
theorem dX0_reflectedPart_28 : decode cX0_reflectedPart 28 = .ok (.i2l, 1) := by decide +kernel
theorem dX0_reflectedPart_29 : decode cX0_reflectedPart 29 = .ok (.lmul, 1) := by decide +kernel
theorem dX0_reflectedPart_30 : decode cX0_reflectedPart 30 = .ok (.sipush 1000, 3) := by decide +kernel
theorem dX0_reflectedPart_33 : decode cX0_reflectedPart 33 = .ok (.aload_n 0, 1) := by decide +kernel
theorem dX0_reflectedPart_34 : decode cX0_reflectedPart 34 = .ok (.getfield 25, 3) := by decide +kernel
theorem dX0_reflectedPart_37 : decode cX0_reflectedPart 37 = .ok (.iload_n 2, 1) := by decide +kernel
theorem dX0_reflectedPart_38 : decode cX0_reflectedPart 38 = .ok (.invokevirtual 122, 3) := by decide +kernel
theorem dX0_reflectedPart_41 : decode cX0_reflectedPart 41 = .ok (.iadd, 1) := by decide +kernel
theorem dX0_reflectedPart_42 : decode cX0_reflectedPart 42 = .ok (.i2l, 1) := by decide +kernel
theorem dX0_reflectedPart_43 : decode cX0_reflectedPart 43 = .ok (.invokestatic 126, 3) := by decide +kernel
theorem dX0_reflectedPart_46 : decode cX0_reflectedPart 46 = .ok (.lstore_n 3, 1) := by decide +kernel
theorem dX0_reflectedPart_47 : decode cX0_reflectedPart 47 = .ok (.lload_n 3, 1) := by decide +kernel
theorem dX0_reflectedPart_48 : decode cX0_reflectedPart 48 = .ok (.aload_n 1, 1) := by decide +kernel
theorem dX0_reflectedPart_49 : decode cX0_reflectedPart 49 = .ok (.getfield 130, 3) := by decide +kernel
theorem dX0_reflectedPart_52 : decode cX0_reflectedPart 52 = .ok (.i2l, 1) := by decide +kernel
theorem dX0_reflectedPart_53 : decode cX0_reflectedPart 53 = .ok (.lmul, 1) := by decide +kernel
theorem dX0_reflectedPart_54 : decode cX0_reflectedPart 54 = .ok (.ldc2_w 133, 3) := by decide +kernel
theorem dX0_reflectedPart_57 : decode cX0_reflectedPart 57 = .ok (.ldiv, 1) := by decide +kernel
theorem dX0_reflectedPart_58 : decode cX0_reflectedPart 58 = .ok (.l2i, 1) := by decide +kernel
theorem dX0_reflectedPart_59 : decode cX0_reflectedPart 59 = .ok (.ireturn, 1) := by decide +kernel
theorem dX1_init_0 : decode cX1_init 0 = .ok (.aload_n 0, 1) := by decide +kernel
theorem dX1_init_1 : decode cX1_init 1 = .ok (.invokespecial 3, 3) := by decide +kernel
theorem dX1_init_4 : decode cX1_init 4 = .ok (.aload_n 0, 1) := by decide +kernel
theorem dX1_init_5 : decode cX1_init 5 = .ok (.sipush 256, 3) := by decide +kernel
theorem dX1_init_8 : decode cX1_init 8 = .ok (.newarray .int, 2) := by decide +kernel
theorem dX1_init_10 : decode cX1_init 10 = .ok (.putfield 9, 3) := by decide +kernel
theorem dX1_init_13 : decode cX1_init 13 = .ok (.return_, 1) := by decide +kernel
theorem dX1_copyFrom_0 : decode cX1_copyFrom 0 = .ok (.aload_n 1, 1) := by decide +kernel
theorem dX1_copyFrom_1 : decode cX1_copyFrom 1 = .ok (.getfield 9, 3) := by decide +kernel
theorem dX1_copyFrom_4 : decode cX1_copyFrom 4 = .ok (.iconst 0, 1) := by decide +kernel
theorem dX1_copyFrom_5 : decode cX1_copyFrom 5 = .ok (.aload_n 0, 1) := by decide +kernel
theorem dX1_copyFrom_6 : decode cX1_copyFrom 6 = .ok (.getfield 9, 3) := by decide +kernel
theorem dX1_copyFrom_9 : decode cX1_copyFrom 9 = .ok (.iconst 0, 1) := by decide +kernel
theorem dX1_copyFrom_10 : decode cX1_copyFrom 10 = .ok (.sipush 256, 3) := by decide +kernel
theorem dX1_copyFrom_13 : decode cX1_copyFrom 13 = .ok (.invokestatic 15, 3) := by decide +kernel
theorem dX1_copyFrom_16 : decode cX1_copyFrom 16 = .ok (.aload_n 0, 1) := by decide +kernel
theorem dX1_copyFrom_17 : decode cX1_copyFrom 17 = .ok (.aload_n 1, 1) := by decide +kernel
theorem dX1_copyFrom_18 : decode cX1_copyFrom 18 = .ok (.getfield 21, 3) := by decide +kernel
theorem dX1_copyFrom_21 : decode cX1_copyFrom 21 = .ok (.putfield 21, 3) := by decide +kernel
theorem dX1_copyFrom_24 : decode cX1_copyFrom 24 = .ok (.aload_n 0, 1) := by decide +kernel
theorem dX1_copyFrom_25 : decode cX1_copyFrom 25 = .ok (.aload_n 1, 1) := by decide +kernel
theorem dX1_copyFrom_26 : decode cX1_copyFrom 26 = .ok (.getfield 25, 3) := by decide +kernel
theorem dX1_copyFrom_29 : decode cX1_copyFrom 29 = .ok (.putfield 25, 3) := by decide +kernel
theorem dX1_copyFrom_32 : decode cX1_copyFrom 32 = .ok (.aload_n 0, 1) := by decide +kernel
theorem dX1_copyFrom_33 : decode cX1_copyFrom 33 = .ok (.aload_n 1, 1) := by decide +kernel
theorem dX1_copyFrom_34 : decode cX1_copyFrom 34 = .ok (.getfield 28, 3) := by decide +kernel
theorem dX1_copyFrom_37 : decode cX1_copyFrom 37 = .ok (.putfield 28, 3) := by decide +kernel
theorem dX1_copyFrom_40 : decode cX1_copyFrom 40 = .ok (.aload_n 0, 1) := by decide +kernel
theorem dX1_copyFrom_41 : decode cX1_copyFrom 41 = .ok (.aload_n 1, 1) := by decide +kernel
theorem dX1_copyFrom_42 : decode cX1_copyFrom 42 = .ok (.getfield 31, 3) := by decide +kernel
theorem dX1_copyFrom_45 : decode cX1_copyFrom 45 = .ok (.putfield 31, 3) := by decide +kernel
theorem dX1_copyFrom_48 : decode cX1_copyFrom 48 = .ok (.return_, 1) := by decide +kernel
theorem dX2_init_0 : decode cX2_init 0 = .ok (.aload_n 0, 1) := by decide +kernel
theorem dX2_init_1 : decode cX2_init 1 = .ok (.invokespecial 3, 3) := by decide +kernel
theorem dX2_init_4 : decode cX2_init 4 = .ok (.return_, 1) := by decide +kernel
theorem dX2_lay_0 : decode cX2_lay 0 = .ok (.aload_n 1, 1) := by decide +kernel
theorem dX2_lay_1 : decode cX2_lay 1 = .ok (.getfield 9, 3) := by decide +kernel
theorem dX2_lay_4 : decode cX2_lay 4 = .ok (.aload_n 3, 1) := by decide +kernel
theorem dX2_lay_5 : decode cX2_lay 5 = .ok (.getfield 15, 3) := by decide +kernel
theorem dX2_lay_8 : decode cX2_lay 8 = .ok (.isub, 1) := by decide +kernel
theorem dX2_lay_9 : decode cX2_lay 9 = .ok (.i2l, 1) := by decide +kernel
theorem dX2_lay_10 : decode cX2_lay 10 = .ok (.lstore 5, 2) := by decide +kernel
theorem dX2_lay_12 : decode cX2_lay 12 = .ok (.iload 4, 2) := by decide +kernel
theorem dX2_lay_14 : decode cX2_lay 14 = .ok (.ifCond .eq 12, 3) := by decide +kernel
theorem dX2_lay_17 : decode cX2_lay 17 = .ok (.aload_n 1, 1) := by decide +kernel
theorem dX2_lay_18 : decode cX2_lay 18 = .ok (.getfield 18, 3) := by decide +kernel
theorem dX2_lay_21 : decode cX2_lay 21 = .ok (.ineg, 1) := by decide +kernel
theorem dX2_lay_22 : decode cX2_lay 22 = .ok (.i2l, 1) := by decide +kernel
theorem dX2_lay_23 : decode cX2_lay 23 = .ok (.goto 8, 3) := by decide +kernel
theorem dX2_lay_26 : decode cX2_lay 26 = .ok (.aload_n 1, 1) := by decide +kernel
theorem dX2_lay_27 : decode cX2_lay 27 = .ok (.getfield 18, 3) := by decide +kernel
theorem dX2_lay_30 : decode cX2_lay 30 = .ok (.i2l, 1) := by decide +kernel
theorem dX2_lay_31 : decode cX2_lay 31 = .ok (.lstore 7, 2) := by decide +kernel
theorem dX2_lay_33 : decode cX2_lay 33 = .ok (.lload 7, 2) := by decide +kernel
theorem dX2_lay_35 : decode cX2_lay 35 = .ok (.aload_n 3, 1) := by decide +kernel
theorem dX2_lay_36 : decode cX2_lay 36 = .ok (.getfield 21, 3) := by decide +kernel
theorem dX2_lay_39 : decode cX2_lay 39 = .ok (.i2l, 1) := by decide +kernel
theorem dX2_lay_40 : decode cX2_lay 40 = .ok (.lsub, 1) := by decide +kernel
theorem dX2_lay_41 : decode cX2_lay 41 = .ok (.lstore 9, 2) := by decide +kernel
theorem dX2_lay_43 : decode cX2_lay 43 = .ok (.aload_n 0, 1) := by decide +kernel
theorem dX2_lay_44 : decode cX2_lay 44 = .ok (.aload_n 1, 1) := by decide +kernel
theorem dX2_lay_45 : decode cX2_lay 45 = .ok (.getfield 22, 3) := by decide +kernel
theorem dX2_lay_48 : decode cX2_lay 48 = .ok (.iload_n 2, 1) := by decide +kernel
theorem dX2_lay_49 : decode cX2_lay 49 = .ok (.iadd, 1) := by decide +kernel
theorem dX2_lay_50 : decode cX2_lay 50 = .ok (.aload_n 3, 1) := by decide +kernel
theorem dX2_lay_51 : decode cX2_lay 51 = .ok (.getfield 25, 3) := by decide +kernel
theorem dX2_lay_54 : decode cX2_lay 54 = .ok (.isub, 1) := by decide +kernel
theorem dX2_lay_55 : decode cX2_lay 55 = .ok (.i2l, 1) := by decide +kernel
theorem dX2_lay_56 : decode cX2_lay 56 = .ok (.putfield 26, 3) := by decide +kernel
theorem dX2_lay_59 : decode cX2_lay 59 = .ok (.aload_n 0, 1) := by decide +kernel
theorem dX2_lay_60 : decode cX2_lay 60 = .ok (.aload_n 1, 1) := by decide +kernel
theorem dX2_lay_61 : decode cX2_lay 61 = .ok (.getfield 32, 3) := by decide +kernel
theorem dX2_lay_64 : decode cX2_lay 64 = .ok (.i2l, 1) := by decide +kernel
theorem dX2_lay_65 : decode cX2_lay 65 = .ok (.putfield 35, 3) := by decide +kernel
theorem dX2_lay_68 : decode cX2_lay 68 = .ok (.aload_n 0, 1) := by decide +kernel
theorem dX2_lay_69 : decode cX2_lay 69 = .ok (.lload 5, 2) := by decide +kernel
theorem dX2_lay_71 : decode cX2_lay 71 = .ok (.lload 5, 2) := by decide +kernel
theorem dX2_lay_73 : decode cX2_lay 73 = .ok (.lmul, 1) := by decide +kernel
theorem dX2_lay_74 : decode cX2_lay 74 = .ok (.lload 9, 2) := by decide +kernel
theorem dX2_lay_76 : decode cX2_lay 76 = .ok (.lload 9, 2) := by decide +kernel
theorem dX2_lay_78 : decode cX2_lay 78 = .ok (.lmul, 1) := by decide +kernel
theorem dX2_lay_79 : decode cX2_lay 79 = .ok (.ladd, 1) := by decide +kernel
theorem dX2_lay_80 : decode cX2_lay 80 = .ok (.putfield 37, 3) := by decide +kernel
theorem dX2_lay_83 : decode cX2_lay 83 = .ok (.return_, 1) := by decide +kernel
theorem dX2_lengthAt_0 : decode cX2_lengthAt 0 = .ok (.aload_n 0, 1) := by decide +kernel
theorem dX2_lengthAt_1 : decode cX2_lengthAt 1 = .ok (.getfield 26, 3) := by decide +kernel
theorem dX2_lengthAt_4 : decode cX2_lengthAt 4 = .ok (.aload_n 0, 1) := by decide +kernel
theorem dX2_lengthAt_5 : decode cX2_lengthAt 5 = .ok (.getfield 35, 3) := by decide +kernel
theorem dX2_lengthAt_8 : decode cX2_lengthAt 8 = .ok (.iload_n 1, 1) := by decide +kernel
theorem dX2_lengthAt_9 : decode cX2_lengthAt 9 = .ok (.i2l, 1) := by decide +kernel
theorem dX2_lengthAt_10 : decode cX2_lengthAt 10 = .ok (.lmul, 1) := by decide +kernel
theorem dX2_lengthAt_11 : decode cX2_lengthAt 11 = .ok (.ladd, 1) := by decide +kernel
theorem dX2_lengthAt_12 : decode cX2_lengthAt 12 = .ok (.lstore_n 2, 1) := by decide +kernel
theorem dX2_lengthAt_13 : decode cX2_lengthAt 13 = .ok (.lload_n 2, 1) := by decide +kernel
theorem dX2_lengthAt_14 : decode cX2_lengthAt 14 = .ok (.lload_n 2, 1) := by decide +kernel
theorem dX2_lengthAt_15 : decode cX2_lengthAt 15 = .ok (.lmul, 1) := by decide +kernel
theorem dX2_lengthAt_16 : decode cX2_lengthAt 16 = .ok (.aload_n 0, 1) := by decide +kernel
theorem dX2_lengthAt_17 : decode cX2_lengthAt 17 = .ok (.getfield 37, 3) := by decide +kernel
theorem dX2_lengthAt_20 : decode cX2_lengthAt 20 = .ok (.ladd, 1) := by decide +kernel
theorem dX2_lengthAt_21 : decode cX2_lengthAt 21 = .ok (.invokestatic 40, 3) := by decide +kernel
theorem dX2_lengthAt_24 : decode cX2_lengthAt 24 = .ok (.ireturn, 1) := by decide +kernel
theorem dX2_markAt_0 : decode cX2_markAt 0 = .ok (.iload_n 1, 1) := by decide +kernel
theorem dX2_markAt_1 : decode cX2_markAt 1 = .ok (.iload_n 2, 1) := by decide +kernel
theorem dX2_markAt_2 : decode cX2_markAt 2 = .ok (.imul, 1) := by decide +kernel
theorem dX2_markAt_3 : decode cX2_markAt 3 = .ok (.aload_n 0, 1) := by decide +kernel
theorem dX2_markAt_4 : decode cX2_markAt 4 = .ok (.iload_n 1, 1) := by decide +kernel
theorem dX2_markAt_5 : decode cX2_markAt 5 = .ok (.invokevirtual 44, 3) := by decide +kernel
theorem dX2_markAt_8 : decode cX2_markAt 8 = .ok (.iadd, 1) := by decide +kernel
theorem dX2_markAt_9 : decode cX2_markAt 9 = .ok (.ireturn, 1) := by decide +kernel
theorem dX2_sampleAt_0 : decode cX2_sampleAt 0 = .ok (.iload_n 1, 1) := by decide +kernel
theorem dX2_sampleAt_1 : decode cX2_sampleAt 1 = .ok (.aload_n 0, 1) := by decide +kernel
theorem dX2_sampleAt_2 : decode cX2_sampleAt 2 = .ok (.iload_n 1, 1) := by decide +kernel
theorem dX2_sampleAt_3 : decode cX2_sampleAt 3 = .ok (.invokevirtual 44, 3) := by decide +kernel
theorem dX2_sampleAt_6 : decode cX2_sampleAt 6 = .ok (.iload_n 2, 1) := by decide +kernel
theorem dX2_sampleAt_7 : decode cX2_sampleAt 7 = .ok (.iadd, 1) := by decide +kernel
theorem dX2_sampleAt_8 : decode cX2_sampleAt 8 = .ok (.iconst 1, 1) := by decide +kernel
theorem dX2_sampleAt_9 : decode cX2_sampleAt 9 = .ok (.isub, 1) := by decide +kernel
theorem dX2_sampleAt_10 : decode cX2_sampleAt 10 = .ok (.i2l, 1) := by decide +kernel
theorem dX2_sampleAt_11 : decode cX2_sampleAt 11 = .ok (.iload_n 2, 1) := by decide +kernel
theorem dX2_sampleAt_12 : decode cX2_sampleAt 12 = .ok (.i2l, 1) := by decide +kernel
theorem dX2_sampleAt_13 : decode cX2_sampleAt 13 = .ok (.invokestatic 48, 3) := by decide +kernel
theorem dX2_sampleAt_16 : decode cX2_sampleAt 16 = .ok (.l2i, 1) := by decide +kernel
theorem dX2_sampleAt_17 : decode cX2_sampleAt 17 = .ok (.iadd, 1) := by decide +kernel
theorem dX2_sampleAt_18 : decode cX2_sampleAt 18 = .ok (.ireturn, 1) := by decide +kernel
theorem dX2_latestTime_0 : decode cX2_latestTime 0 = .ok (.iload_n 1, 1) := by decide +kernel
theorem dX2_latestTime_1 : decode cX2_latestTime 1 = .ok (.istore_n 3, 1) := by decide +kernel
theorem dX2_latestTime_2 : decode cX2_latestTime 2 = .ok (.iload_n 3, 1) := by decide +kernel
theorem dX2_latestTime_3 : decode cX2_latestTime 3 = .ok (.ifCond .lt 23, 3) := by decide +kernel
theorem dX2_latestTime_6 : decode cX2_latestTime 6 = .ok (.aload_n 0, 1) := by decide +kernel
theorem dX2_latestTime_7 : decode cX2_latestTime 7 = .ok (.iload_n 3, 1) := by decide +kernel
theorem dX2_latestTime_8 : decode cX2_latestTime 8 = .ok (.iload_n 2, 1) := by decide +kernel
theorem dX2_latestTime_9 : decode cX2_latestTime 9 = .ok (.invokevirtual 52, 3) := by decide +kernel
theorem dX2_latestTime_12 : decode cX2_latestTime 12 = .ok (.iload_n 1, 1) := by decide +kernel
theorem dX2_latestTime_13 : decode cX2_latestTime 13 = .ok (.iload_n 2, 1) := by decide +kernel
theorem dX2_latestTime_14 : decode cX2_latestTime 14 = .ok (.imul, 1) := by decide +kernel
theorem dX2_latestTime_15 : decode cX2_latestTime 15 = .ok (.if_icmp .gt 5, 3) := by decide +kernel
theorem dX2_latestTime_18 : decode cX2_latestTime 18 = .ok (.iload_n 3, 1) := by decide +kernel
theorem dX2_latestTime_19 : decode cX2_latestTime 19 = .ok (.ireturn, 1) := by decide +kernel
theorem dX2_latestTime_20 : decode cX2_latestTime 20 = .ok (.iinc 3 (-1), 3) := by decide +kernel
theorem dX2_latestTime_23 : decode cX2_latestTime 23 = .ok (.goto (-21), 3) := by decide +kernel
theorem dX2_latestTime_26 : decode cX2_latestTime 26 = .ok (.iconst (-1), 1) := by decide +kernel
theorem dX2_latestTime_27 : decode cX2_latestTime 27 = .ok (.ireturn, 1) := by decide +kernel
theorem dX3_init_0 : decode cX3_init 0 = .ok (.aload_n 0, 1) := by decide +kernel
theorem dX3_init_1 : decode cX3_init 1 = .ok (.invokespecial 3, 3) := by decide +kernel
theorem dX3_init_4 : decode cX3_init 4 = .ok (.return_, 1) := by decide +kernel
theorem dX3_put_0 : decode cX3_put 0 = .ok (.aload_n 0, 1) := by decide +kernel
theorem dX3_put_1 : decode cX3_put 1 = .ok (.iload_n 1, 1) := by decide +kernel
theorem dX3_put_2 : decode cX3_put 2 = .ok (.putfield 9, 3) := by decide +kernel
theorem dX3_put_5 : decode cX3_put 5 = .ok (.aload_n 0, 1) := by decide +kernel
theorem dX3_put_6 : decode cX3_put 6 = .ok (.iload_n 2, 1) := by decide +kernel
theorem dX3_put_7 : decode cX3_put 7 = .ok (.putfield 15, 3) := by decide +kernel
theorem dX3_put_10 : decode cX3_put 10 = .ok (.aload_n 0, 1) := by decide +kernel
theorem dX3_put_11 : decode cX3_put 11 = .ok (.iload_n 3, 1) := by decide +kernel
theorem dX3_put_12 : decode cX3_put 12 = .ok (.putfield 18, 3) := by decide +kernel
theorem dX3_put_15 : decode cX3_put 15 = .ok (.aload_n 0, 1) := by decide +kernel
theorem dX3_put_16 : decode cX3_put 16 = .ok (.iload 4, 2) := by decide +kernel
theorem dX3_put_18 : decode cX3_put 18 = .ok (.putfield 21, 3) := by decide +kernel
theorem dX3_put_21 : decode cX3_put 21 = .ok (.return_, 1) := by decide +kernel
theorem dX3_ride_0 : decode cX3_ride 0 = .ok (.aload_n 0, 1) := by decide +kernel
theorem dX3_ride_1 : decode cX3_ride 1 = .ok (.aload_n 1, 1) := by decide +kernel
theorem dX3_ride_2 : decode cX3_ride 2 = .ok (.getfield 9, 3) := by decide +kernel
theorem dX3_ride_5 : decode cX3_ride 5 = .ok (.iload_n 2, 1) := by decide +kernel
theorem dX3_ride_6 : decode cX3_ride 6 = .ok (.iadd, 1) := by decide +kernel
theorem dX3_ride_7 : decode cX3_ride 7 = .ok (.aload_n 1, 1) := by decide +kernel
theorem dX3_ride_8 : decode cX3_ride 8 = .ok (.getfield 15, 3) := by decide +kernel
theorem dX3_ride_11 : decode cX3_ride 11 = .ok (.aload_n 1, 1) := by decide +kernel
theorem dX3_ride_12 : decode cX3_ride 12 = .ok (.getfield 18, 3) := by decide +kernel
theorem dX3_ride_15 : decode cX3_ride 15 = .ok (.iload_n 3, 1) := by decide +kernel
theorem dX3_ride_16 : decode cX3_ride 16 = .ok (.invokevirtual 24, 3) := by decide +kernel
theorem dX3_ride_19 : decode cX3_ride 19 = .ok (.return_, 1) := by decide +kernel
theorem dX3_copyFrom_0 : decode cX3_copyFrom 0 = .ok (.aload_n 0, 1) := by decide +kernel
theorem dX3_copyFrom_1 : decode cX3_copyFrom 1 = .ok (.aload_n 1, 1) := by decide +kernel
theorem dX3_copyFrom_2 : decode cX3_copyFrom 2 = .ok (.getfield 9, 3) := by decide +kernel
theorem dX3_copyFrom_5 : decode cX3_copyFrom 5 = .ok (.aload_n 1, 1) := by decide +kernel
theorem dX3_copyFrom_6 : decode cX3_copyFrom 6 = .ok (.getfield 15, 3) := by decide +kernel
theorem dX3_copyFrom_9 : decode cX3_copyFrom 9 = .ok (.aload_n 1, 1) := by decide +kernel
theorem dX3_copyFrom_10 : decode cX3_copyFrom 10 = .ok (.getfield 18, 3) := by decide +kernel
theorem dX3_copyFrom_13 : decode cX3_copyFrom 13 = .ok (.aload_n 1, 1) := by decide +kernel
theorem dX3_copyFrom_14 : decode cX3_copyFrom 14 = .ok (.getfield 21, 3) := by decide +kernel
theorem dX3_copyFrom_17 : decode cX3_copyFrom 17 = .ok (.invokevirtual 24, 3) := by decide +kernel
theorem dX3_copyFrom_20 : decode cX3_copyFrom 20 = .ok (.return_, 1) := by decide +kernel
theorem dX3_timeNearestTo_0 : decode cX3_timeNearestTo 0 = .ok (.iconst 0, 1) := by decide +kernel
theorem dX3_timeNearestTo_1 : decode cX3_timeNearestTo 1 = .ok (.istore_n 2, 1) := by decide +kernel
theorem dX3_timeNearestTo_2 : decode cX3_timeNearestTo 2 = .ok (.ldc 30, 2) := by decide +kernel
theorem dX3_timeNearestTo_4 : decode cX3_timeNearestTo 4 = .ok (.istore_n 3, 1) := by decide +kernel
theorem dX3_timeNearestTo_5 : decode cX3_timeNearestTo 5 = .ok (.iconst 0, 1) := by decide +kernel
theorem dX3_timeNearestTo_6 : decode cX3_timeNearestTo 6 = .ok (.istore 4, 2) := by decide +kernel
theorem dX3_timeNearestTo_8 : decode cX3_timeNearestTo 8 = .ok (.iload 4, 2) := by decide +kernel
theorem dX3_timeNearestTo_10 : decode cX3_timeNearestTo 10 = .ok (.sipush 256, 3) := by decide +kernel
theorem dX3_timeNearestTo_13 : decode cX3_timeNearestTo 13 = .ok (.if_icmp .ge 40, 3) := by decide +kernel
theorem dX3_timeNearestTo_16 : decode cX3_timeNearestTo 16 = .ok (.aload_n 0, 1) := by decide +kernel
theorem dX3_timeNearestTo_17 : decode cX3_timeNearestTo 17 = .ok (.getfield 9, 3) := by decide +kernel
theorem dX3_timeNearestTo_20 : decode cX3_timeNearestTo 20 = .ok (.aload_n 0, 1) := by decide +kernel
theorem dX3_timeNearestTo_21 : decode cX3_timeNearestTo 21 = .ok (.getfield 15, 3) := by decide +kernel
theorem dX3_timeNearestTo_24 : decode cX3_timeNearestTo 24 = .ok (.iload 4, 2) := by decide +kernel
theorem dX3_timeNearestTo_26 : decode cX3_timeNearestTo 26 = .ok (.imul, 1) := by decide +kernel
theorem dX3_timeNearestTo_27 : decode cX3_timeNearestTo 27 = .ok (.iadd, 1) := by decide +kernel
theorem dX3_timeNearestTo_28 : decode cX3_timeNearestTo 28 = .ok (.iload_n 1, 1) := by decide +kernel
theorem dX3_timeNearestTo_29 : decode cX3_timeNearestTo 29 = .ok (.isub, 1) := by decide +kernel
theorem dX3_timeNearestTo_30 : decode cX3_timeNearestTo 30 = .ok (.invokestatic 31, 3) := by decide +kernel
theorem dX3_timeNearestTo_33 : decode cX3_timeNearestTo 33 = .ok (.istore 5, 2) := by decide +kernel
theorem dX3_timeNearestTo_35 : decode cX3_timeNearestTo 35 = .ok (.iload 5, 2) := by decide +kernel
theorem dX3_timeNearestTo_37 : decode cX3_timeNearestTo 37 = .ok (.iload_n 3, 1) := by decide +kernel
theorem dX3_timeNearestTo_38 : decode cX3_timeNearestTo 38 = .ok (.if_icmp .ge 9, 3) := by decide +kernel
theorem dX3_timeNearestTo_41 : decode cX3_timeNearestTo 41 = .ok (.iload 5, 2) := by decide +kernel
theorem dX3_timeNearestTo_43 : decode cX3_timeNearestTo 43 = .ok (.istore_n 3, 1) := by decide +kernel
theorem dX3_timeNearestTo_44 : decode cX3_timeNearestTo 44 = .ok (.iload 4, 2) := by decide +kernel
theorem dX3_timeNearestTo_46 : decode cX3_timeNearestTo 46 = .ok (.istore_n 2, 1) := by decide +kernel
theorem dX3_timeNearestTo_47 : decode cX3_timeNearestTo 47 = .ok (.iinc 4 1, 3) := by decide +kernel
theorem dX3_timeNearestTo_50 : decode cX3_timeNearestTo 50 = .ok (.goto (-42), 3) := by decide +kernel
theorem dX3_timeNearestTo_53 : decode cX3_timeNearestTo 53 = .ok (.iload_n 2, 1) := by decide +kernel
theorem dX3_timeNearestTo_54 : decode cX3_timeNearestTo 54 = .ok (.ireturn, 1) := by decide +kernel
theorem dX4_init_0 : decode cX4_init 0 = .ok (.aload_n 0, 1) := by decide +kernel
theorem dX4_init_1 : decode cX4_init 1 = .ok (.invokespecial 3, 3) := by decide +kernel
theorem dX4_init_4 : decode cX4_init 4 = .ok (.aload_n 0, 1) := by decide +kernel
theorem dX4_init_5 : decode cX4_init 5 = .ok (.iconst 4, 1) := by decide +kernel
theorem dX4_init_6 : decode cX4_init 6 = .ok (.anewarray 9, 3) := by decide +kernel
theorem dX4_init_9 : decode cX4_init 9 = .ok (.putfield 11, 3) := by decide +kernel
theorem dX4_init_12 : decode cX4_init 12 = .ok (.aload_n 0, 1) := by decide +kernel
theorem dX4_init_13 : decode cX4_init 13 = .ok (.bipush 6, 2) := by decide +kernel
theorem dX4_init_15 : decode cX4_init 15 = .ok (.anewarray 17, 3) := by decide +kernel
theorem dX4_init_18 : decode cX4_init 18 = .ok (.putfield 19, 3) := by decide +kernel
theorem dX4_init_21 : decode cX4_init 21 = .ok (.aload_n 0, 1) := by decide +kernel
theorem dX4_init_22 : decode cX4_init 22 = .ok (.bipush 8, 2) := by decide +kernel
theorem dX4_init_24 : decode cX4_init 24 = .ok (.anewarray 23, 3) := by decide +kernel
theorem dX4_init_27 : decode cX4_init 27 = .ok (.putfield 25, 3) := by decide +kernel
theorem dX4_init_30 : decode cX4_init 30 = .ok (.aload_n 0, 1) := by decide +kernel
theorem dX4_init_31 : decode cX4_init 31 = .ok (.new 9, 3) := by decide +kernel
theorem dX4_init_34 : decode cX4_init 34 = .ok (.dup, 1) := by decide +kernel
theorem dX4_init_35 : decode cX4_init 35 = .ok (.invokespecial 29, 3) := by decide +kernel
theorem dX4_init_38 : decode cX4_init 38 = .ok (.putfield 30, 3) := by decide +kernel
theorem dX4_init_41 : decode cX4_init 41 = .ok (.iconst 0, 1) := by decide +kernel
theorem dX4_init_42 : decode cX4_init 42 = .ok (.istore_n 1, 1) := by decide +kernel
theorem dX4_init_43 : decode cX4_init 43 = .ok (.iload_n 1, 1) := by decide +kernel
theorem dX4_init_44 : decode cX4_init 44 = .ok (.iconst 4, 1) := by decide +kernel
theorem dX4_init_45 : decode cX4_init 45 = .ok (.if_icmp .ge 22, 3) := by decide +kernel
theorem dX4_init_48 : decode cX4_init 48 = .ok (.aload_n 0, 1) := by decide +kernel
theorem dX4_init_49 : decode cX4_init 49 = .ok (.getfield 11, 3) := by decide +kernel
theorem dX4_init_52 : decode cX4_init 52 = .ok (.iload_n 1, 1) := by decide +kernel
theorem dX4_init_53 : decode cX4_init 53 = .ok (.new 9, 3) := by decide +kernel
theorem dX4_init_56 : decode cX4_init 56 = .ok (.dup, 1) := by decide +kernel
theorem dX4_init_57 : decode cX4_init 57 = .ok (.invokespecial 29, 3) := by decide +kernel
theorem dX4_init_60 : decode cX4_init 60 = .ok (.aastore, 1) := by decide +kernel
theorem dX4_init_61 : decode cX4_init 61 = .ok (.iinc 1 1, 3) := by decide +kernel
theorem dX4_init_64 : decode cX4_init 64 = .ok (.goto (-21), 3) := by decide +kernel
theorem dX4_init_67 : decode cX4_init 67 = .ok (.iconst 0, 1) := by decide +kernel
theorem dX4_init_68 : decode cX4_init 68 = .ok (.istore_n 1, 1) := by decide +kernel
theorem dX4_init_69 : decode cX4_init 69 = .ok (.iload_n 1, 1) := by decide +kernel
theorem dX4_init_70 : decode cX4_init 70 = .ok (.bipush 6, 2) := by decide +kernel
theorem dX4_init_72 : decode cX4_init 72 = .ok (.if_icmp .ge 22, 3) := by decide +kernel
theorem dX4_init_75 : decode cX4_init 75 = .ok (.aload_n 0, 1) := by decide +kernel
theorem dX4_init_76 : decode cX4_init 76 = .ok (.getfield 19, 3) := by decide +kernel
theorem dX4_init_79 : decode cX4_init 79 = .ok (.iload_n 1, 1) := by decide +kernel
theorem dX4_init_80 : decode cX4_init 80 = .ok (.new 17, 3) := by decide +kernel
theorem dX4_init_83 : decode cX4_init 83 = .ok (.dup, 1) := by decide +kernel
theorem dX4_init_84 : decode cX4_init 84 = .ok (.invokespecial 34, 3) := by decide +kernel
theorem dX4_init_87 : decode cX4_init 87 = .ok (.aastore, 1) := by decide +kernel
theorem dX4_init_88 : decode cX4_init 88 = .ok (.iinc 1 1, 3) := by decide +kernel
theorem dX4_init_91 : decode cX4_init 91 = .ok (.goto (-22), 3) := by decide +kernel
theorem dX4_init_94 : decode cX4_init 94 = .ok (.iconst 0, 1) := by decide +kernel
theorem dX4_init_95 : decode cX4_init 95 = .ok (.istore_n 1, 1) := by decide +kernel
theorem dX4_init_96 : decode cX4_init 96 = .ok (.iload_n 1, 1) := by decide +kernel
theorem dX4_init_97 : decode cX4_init 97 = .ok (.bipush 8, 2) := by decide +kernel
theorem dX4_init_99 : decode cX4_init 99 = .ok (.if_icmp .ge 22, 3) := by decide +kernel
theorem dX4_init_102 : decode cX4_init 102 = .ok (.aload_n 0, 1) := by decide +kernel
theorem dX4_init_103 : decode cX4_init 103 = .ok (.getfield 25, 3) := by decide +kernel
theorem dX4_init_106 : decode cX4_init 106 = .ok (.iload_n 1, 1) := by decide +kernel
theorem dX4_init_107 : decode cX4_init 107 = .ok (.new 23, 3) := by decide +kernel
theorem dX4_init_110 : decode cX4_init 110 = .ok (.dup, 1) := by decide +kernel
theorem dX4_init_111 : decode cX4_init 111 = .ok (.invokespecial 35, 3) := by decide +kernel
theorem dX4_init_114 : decode cX4_init 114 = .ok (.aastore, 1) := by decide +kernel
theorem dX4_init_115 : decode cX4_init 115 = .ok (.iinc 1 1, 3) := by decide +kernel
theorem dX4_init_118 : decode cX4_init 118 = .ok (.goto (-22), 3) := by decide +kernel
theorem dX4_init_121 : decode cX4_init 121 = .ok (.aload_n 0, 1) := by decide +kernel
theorem dX4_init_122 : decode cX4_init 122 = .ok (.invokevirtual 36, 3) := by decide +kernel
theorem dX4_init_125 : decode cX4_init 125 = .ok (.return_, 1) := by decide +kernel
theorem dX4_clear_0 : decode cX4_clear 0 = .ok (.aload_n 0, 1) := by decide +kernel
theorem dX4_clear_1 : decode cX4_clear 1 = .ok (.iconst 0, 1) := by decide +kernel
theorem dX4_clear_2 : decode cX4_clear 2 = .ok (.putfield 39, 3) := by decide +kernel
theorem dX4_clear_5 : decode cX4_clear 5 = .ok (.aload_n 0, 1) := by decide +kernel
theorem dX4_clear_6 : decode cX4_clear 6 = .ok (.iconst 0, 1) := by decide +kernel
theorem dX4_clear_7 : decode cX4_clear 7 = .ok (.putfield 43, 3) := by decide +kernel
theorem dX4_clear_10 : decode cX4_clear 10 = .ok (.aload_n 0, 1) := by decide +kernel
theorem dX4_clear_11 : decode cX4_clear 11 = .ok (.iconst 0, 1) := by decide +kernel
theorem dX4_clear_12 : decode cX4_clear 12 = .ok (.putfield 46, 3) := by decide +kernel
theorem dX4_clear_15 : decode cX4_clear 15 = .ok (.aload_n 0, 1) := by decide +kernel
theorem dX4_clear_16 : decode cX4_clear 16 = .ok (.sipush 340, 3) := by decide +kernel
theorem dX4_clear_19 : decode cX4_clear 19 = .ok (.putfield 49, 3) := by decide +kernel
theorem dX4_clear_22 : decode cX4_clear 22 = .ok (.aload_n 0, 1) := by decide +kernel
theorem dX4_clear_23 : decode cX4_clear 23 = .ok (.iconst 0, 1) := by decide +kernel
theorem dX4_clear_24 : decode cX4_clear 24 = .ok (.putfield 52, 3) := by decide +kernel
theorem dX4_clear_27 : decode cX4_clear 27 = .ok (.aload_n 0, 1) := by decide +kernel
theorem dX4_clear_28 : decode cX4_clear 28 = .ok (.iconst 0, 1) := by decide +kernel
theorem dX4_clear_29 : decode cX4_clear 29 = .ok (.putfield 55, 3) := by decide +kernel
theorem dX4_clear_32 : decode cX4_clear 32 = .ok (.aload_n 0, 1) := by decide +kernel
theorem dX4_clear_33 : decode cX4_clear 33 = .ok (.lconst 1, 1) := by decide +kernel
theorem dX4_clear_34 : decode cX4_clear 34 = .ok (.putfield 58, 3) := by decide +kernel
theorem dX4_clear_37 : decode cX4_clear 37 = .ok (.aload_n 0, 1) := by decide +kernel
theorem dX4_clear_38 : decode cX4_clear 38 = .ok (.iconst 0, 1) := by decide +kernel
theorem dX4_clear_39 : decode cX4_clear 39 = .ok (.putfield 62, 3) := by decide +kernel
theorem dX4_clear_42 : decode cX4_clear 42 = .ok (.aload_n 0, 1) := by decide +kernel
theorem dX4_clear_43 : decode cX4_clear 43 = .ok (.iconst 0, 1) := by decide +kernel
theorem dX4_clear_44 : decode cX4_clear 44 = .ok (.putfield 66, 3) := by decide +kernel
theorem dX4_clear_47 : decode cX4_clear 47 = .ok (.aload_n 0, 1) := by decide +kernel
theorem dX4_clear_48 : decode cX4_clear 48 = .ok (.getfield 30, 3) := by decide +kernel
theorem dX4_clear_51 : decode cX4_clear 51 = .ok (.iconst 0, 1) := by decide +kernel
theorem dX4_clear_52 : decode cX4_clear 52 = .ok (.iconst 0, 1) := by decide +kernel
theorem dX4_clear_53 : decode cX4_clear 53 = .ok (.bipush 100, 2) := by decide +kernel
theorem dX4_clear_55 : decode cX4_clear 55 = .ok (.iconst 0, 1) := by decide +kernel
theorem dX4_clear_56 : decode cX4_clear 56 = .ok (.invokevirtual 69, 3) := by decide +kernel
theorem dX4_clear_59 : decode cX4_clear 59 = .ok (.aload_n 0, 1) := by decide +kernel
theorem dX4_clear_60 : decode cX4_clear 60 = .ok (.iconst 0, 1) := by decide +kernel
theorem dX4_clear_61 : decode cX4_clear 61 = .ok (.putfield 73, 3) := by decide +kernel
theorem dX4_clear_64 : decode cX4_clear 64 = .ok (.aload_n 0, 1) := by decide +kernel
theorem dX4_clear_65 : decode cX4_clear 65 = .ok (.iconst 0, 1) := by decide +kernel
theorem dX4_clear_66 : decode cX4_clear 66 = .ok (.putfield 76, 3) := by decide +kernel
theorem dX4_clear_69 : decode cX4_clear 69 = .ok (.aload_n 0, 1) := by decide +kernel
theorem dX4_clear_70 : decode cX4_clear 70 = .ok (.iconst 0, 1) := by decide +kernel
theorem dX4_clear_71 : decode cX4_clear 71 = .ok (.putfield 79, 3) := by decide +kernel
theorem dX4_clear_74 : decode cX4_clear 74 = .ok (.return_, 1) := by decide +kernel
theorem dX4_copyFrom_0 : decode cX4_copyFrom 0 = .ok (.iconst 0, 1) := by decide +kernel
theorem dX4_copyFrom_1 : decode cX4_copyFrom 1 = .ok (.istore_n 2, 1) := by decide +kernel
theorem dX4_copyFrom_2 : decode cX4_copyFrom 2 = .ok (.iload_n 2, 1) := by decide +kernel
theorem dX4_copyFrom_3 : decode cX4_copyFrom 3 = .ok (.iconst 4, 1) := by decide +kernel
theorem dX4_copyFrom_4 : decode cX4_copyFrom 4 = .ok (.if_icmp .ge 24, 3) := by decide +kernel
theorem dX4_copyFrom_7 : decode cX4_copyFrom 7 = .ok (.aload_n 0, 1) := by decide +kernel
theorem dX4_copyFrom_8 : decode cX4_copyFrom 8 = .ok (.getfield 11, 3) := by decide +kernel
theorem dX4_copyFrom_11 : decode cX4_copyFrom 11 = .ok (.iload_n 2, 1) := by decide +kernel
theorem dX4_copyFrom_12 : decode cX4_copyFrom 12 = .ok (.aaload, 1) := by decide +kernel
theorem dX4_copyFrom_13 : decode cX4_copyFrom 13 = .ok (.aload_n 1, 1) := by decide +kernel
theorem dX4_copyFrom_14 : decode cX4_copyFrom 14 = .ok (.getfield 11, 3) := by decide +kernel
theorem dX4_copyFrom_17 : decode cX4_copyFrom 17 = .ok (.iload_n 2, 1) := by decide +kernel
theorem dX4_copyFrom_18 : decode cX4_copyFrom 18 = .ok (.aaload, 1) := by decide +kernel
theorem dX4_copyFrom_19 : decode cX4_copyFrom 19 = .ok (.invokevirtual 82, 3) := by decide +kernel
theorem dX4_copyFrom_22 : decode cX4_copyFrom 22 = .ok (.iinc 2 1, 3) := by decide +kernel
theorem dX4_copyFrom_25 : decode cX4_copyFrom 25 = .ok (.goto (-23), 3) := by decide +kernel
theorem dX4_copyFrom_28 : decode cX4_copyFrom 28 = .ok (.iconst 0, 1) := by decide +kernel
theorem dX4_copyFrom_29 : decode cX4_copyFrom 29 = .ok (.istore_n 2, 1) := by decide +kernel
theorem dX4_copyFrom_30 : decode cX4_copyFrom 30 = .ok (.iload_n 2, 1) := by decide +kernel
theorem dX4_copyFrom_31 : decode cX4_copyFrom 31 = .ok (.bipush 6, 2) := by decide +kernel
theorem dX4_copyFrom_33 : decode cX4_copyFrom 33 = .ok (.if_icmp .ge 24, 3) := by decide +kernel
theorem dX4_copyFrom_36 : decode cX4_copyFrom 36 = .ok (.aload_n 0, 1) := by decide +kernel
theorem dX4_copyFrom_37 : decode cX4_copyFrom 37 = .ok (.getfield 19, 3) := by decide +kernel
theorem dX4_copyFrom_40 : decode cX4_copyFrom 40 = .ok (.iload_n 2, 1) := by decide +kernel
theorem dX4_copyFrom_41 : decode cX4_copyFrom 41 = .ok (.aaload, 1) := by decide +kernel
theorem dX4_copyFrom_42 : decode cX4_copyFrom 42 = .ok (.aload_n 1, 1) := by decide +kernel
theorem dX4_copyFrom_43 : decode cX4_copyFrom 43 = .ok (.getfield 19, 3) := by decide +kernel
theorem dX4_copyFrom_46 : decode cX4_copyFrom 46 = .ok (.iload_n 2, 1) := by decide +kernel
theorem dX4_copyFrom_47 : decode cX4_copyFrom 47 = .ok (.aaload, 1) := by decide +kernel
theorem dX4_copyFrom_48 : decode cX4_copyFrom 48 = .ok (.invokevirtual 86, 3) := by decide +kernel
theorem dX4_copyFrom_51 : decode cX4_copyFrom 51 = .ok (.iinc 2 1, 3) := by decide +kernel
theorem dX4_copyFrom_54 : decode cX4_copyFrom 54 = .ok (.goto (-24), 3) := by decide +kernel
theorem dX4_copyFrom_57 : decode cX4_copyFrom 57 = .ok (.iconst 0, 1) := by decide +kernel
theorem dX4_copyFrom_58 : decode cX4_copyFrom 58 = .ok (.istore_n 2, 1) := by decide +kernel
theorem dX4_copyFrom_59 : decode cX4_copyFrom 59 = .ok (.iload_n 2, 1) := by decide +kernel
theorem dX4_copyFrom_60 : decode cX4_copyFrom 60 = .ok (.bipush 8, 2) := by decide +kernel
theorem dX4_copyFrom_62 : decode cX4_copyFrom 62 = .ok (.if_icmp .ge 24, 3) := by decide +kernel
theorem dX4_copyFrom_65 : decode cX4_copyFrom 65 = .ok (.aload_n 0, 1) := by decide +kernel
theorem dX4_copyFrom_66 : decode cX4_copyFrom 66 = .ok (.getfield 25, 3) := by decide +kernel
theorem dX4_copyFrom_69 : decode cX4_copyFrom 69 = .ok (.iload_n 2, 1) := by decide +kernel
theorem dX4_copyFrom_70 : decode cX4_copyFrom 70 = .ok (.aaload, 1) := by decide +kernel
theorem dX4_copyFrom_71 : decode cX4_copyFrom 71 = .ok (.aload_n 1, 1) := by decide +kernel
theorem dX4_copyFrom_72 : decode cX4_copyFrom 72 = .ok (.getfield 25, 3) := by decide +kernel
theorem dX4_copyFrom_75 : decode cX4_copyFrom 75 = .ok (.iload_n 2, 1) := by decide +kernel
theorem dX4_copyFrom_76 : decode cX4_copyFrom 76 = .ok (.aaload, 1) := by decide +kernel
theorem dX4_copyFrom_77 : decode cX4_copyFrom 77 = .ok (.invokevirtual 89, 3) := by decide +kernel
theorem dX4_copyFrom_80 : decode cX4_copyFrom 80 = .ok (.iinc 2 1, 3) := by decide +kernel
theorem dX4_copyFrom_83 : decode cX4_copyFrom 83 = .ok (.goto (-24), 3) := by decide +kernel
theorem dX4_copyFrom_86 : decode cX4_copyFrom 86 = .ok (.aload_n 0, 1) := by decide +kernel
theorem dX4_copyFrom_87 : decode cX4_copyFrom 87 = .ok (.aload_n 1, 1) := by decide +kernel
theorem dX4_copyFrom_88 : decode cX4_copyFrom 88 = .ok (.getfield 39, 3) := by decide +kernel
theorem dX4_copyFrom_91 : decode cX4_copyFrom 91 = .ok (.putfield 39, 3) := by decide +kernel
theorem dX4_copyFrom_94 : decode cX4_copyFrom 94 = .ok (.aload_n 0, 1) := by decide +kernel
theorem dX4_copyFrom_95 : decode cX4_copyFrom 95 = .ok (.aload_n 1, 1) := by decide +kernel
theorem dX4_copyFrom_96 : decode cX4_copyFrom 96 = .ok (.getfield 43, 3) := by decide +kernel
theorem dX4_copyFrom_99 : decode cX4_copyFrom 99 = .ok (.putfield 43, 3) := by decide +kernel
theorem dX4_copyFrom_102 : decode cX4_copyFrom 102 = .ok (.aload_n 0, 1) := by decide +kernel
theorem dX4_copyFrom_103 : decode cX4_copyFrom 103 = .ok (.aload_n 1, 1) := by decide +kernel
theorem dX4_copyFrom_104 : decode cX4_copyFrom 104 = .ok (.getfield 46, 3) := by decide +kernel
theorem dX4_copyFrom_107 : decode cX4_copyFrom 107 = .ok (.putfield 46, 3) := by decide +kernel
theorem dX4_copyFrom_110 : decode cX4_copyFrom 110 = .ok (.aload_n 0, 1) := by decide +kernel
theorem dX4_copyFrom_111 : decode cX4_copyFrom 111 = .ok (.aload_n 1, 1) := by decide +kernel
theorem dX4_copyFrom_112 : decode cX4_copyFrom 112 = .ok (.getfield 49, 3) := by decide +kernel
theorem dX4_copyFrom_115 : decode cX4_copyFrom 115 = .ok (.putfield 49, 3) := by decide +kernel
theorem dX4_copyFrom_118 : decode cX4_copyFrom 118 = .ok (.aload_n 0, 1) := by decide +kernel
theorem dX4_copyFrom_119 : decode cX4_copyFrom 119 = .ok (.aload_n 1, 1) := by decide +kernel
theorem dX4_copyFrom_120 : decode cX4_copyFrom 120 = .ok (.getfield 52, 3) := by decide +kernel
theorem dX4_copyFrom_123 : decode cX4_copyFrom 123 = .ok (.putfield 52, 3) := by decide +kernel
theorem dX4_copyFrom_126 : decode cX4_copyFrom 126 = .ok (.aload_n 0, 1) := by decide +kernel
theorem dX4_copyFrom_127 : decode cX4_copyFrom 127 = .ok (.aload_n 1, 1) := by decide +kernel
theorem dX4_copyFrom_128 : decode cX4_copyFrom 128 = .ok (.getfield 55, 3) := by decide +kernel
theorem dX4_copyFrom_131 : decode cX4_copyFrom 131 = .ok (.putfield 55, 3) := by decide +kernel
theorem dX4_copyFrom_134 : decode cX4_copyFrom 134 = .ok (.aload_n 0, 1) := by decide +kernel
theorem dX4_copyFrom_135 : decode cX4_copyFrom 135 = .ok (.aload_n 1, 1) := by decide +kernel
theorem dX4_copyFrom_136 : decode cX4_copyFrom 136 = .ok (.getfield 58, 3) := by decide +kernel
theorem dX4_copyFrom_139 : decode cX4_copyFrom 139 = .ok (.putfield 58, 3) := by decide +kernel
theorem dX4_copyFrom_142 : decode cX4_copyFrom 142 = .ok (.aload_n 0, 1) := by decide +kernel
theorem dX4_copyFrom_143 : decode cX4_copyFrom 143 = .ok (.aload_n 1, 1) := by decide +kernel
theorem dX4_copyFrom_144 : decode cX4_copyFrom 144 = .ok (.getfield 62, 3) := by decide +kernel
theorem dX4_copyFrom_147 : decode cX4_copyFrom 147 = .ok (.putfield 62, 3) := by decide +kernel
theorem dX4_copyFrom_150 : decode cX4_copyFrom 150 = .ok (.aload_n 0, 1) := by decide +kernel
theorem dX4_copyFrom_151 : decode cX4_copyFrom 151 = .ok (.aload_n 1, 1) := by decide +kernel
theorem dX4_copyFrom_152 : decode cX4_copyFrom 152 = .ok (.getfield 66, 3) := by decide +kernel
theorem dX4_copyFrom_155 : decode cX4_copyFrom 155 = .ok (.putfield 66, 3) := by decide +kernel
theorem dX4_copyFrom_158 : decode cX4_copyFrom 158 = .ok (.aload_n 0, 1) := by decide +kernel
theorem dX4_copyFrom_159 : decode cX4_copyFrom 159 = .ok (.getfield 30, 3) := by decide +kernel
theorem dX4_copyFrom_162 : decode cX4_copyFrom 162 = .ok (.aload_n 1, 1) := by decide +kernel
theorem dX4_copyFrom_163 : decode cX4_copyFrom 163 = .ok (.getfield 30, 3) := by decide +kernel
theorem dX4_copyFrom_166 : decode cX4_copyFrom 166 = .ok (.invokevirtual 82, 3) := by decide +kernel
theorem dX4_copyFrom_169 : decode cX4_copyFrom 169 = .ok (.aload_n 0, 1) := by decide +kernel
theorem dX4_copyFrom_170 : decode cX4_copyFrom 170 = .ok (.aload_n 1, 1) := by decide +kernel
theorem dX4_copyFrom_171 : decode cX4_copyFrom 171 = .ok (.getfield 73, 3) := by decide +kernel
theorem dX4_copyFrom_174 : decode cX4_copyFrom 174 = .ok (.putfield 73, 3) := by decide +kernel
theorem dX4_copyFrom_177 : decode cX4_copyFrom 177 = .ok (.aload_n 0, 1) := by decide +kernel
theorem dX4_copyFrom_178 : decode cX4_copyFrom 178 = .ok (.aload_n 1, 1) := by decide +kernel
theorem dX4_copyFrom_179 : decode cX4_copyFrom 179 = .ok (.getfield 76, 3) := by decide +kernel
theorem dX4_copyFrom_182 : decode cX4_copyFrom 182 = .ok (.putfield 76, 3) := by decide +kernel
theorem dX4_copyFrom_185 : decode cX4_copyFrom 185 = .ok (.aload_n 0, 1) := by decide +kernel
theorem dX4_copyFrom_186 : decode cX4_copyFrom 186 = .ok (.aload_n 1, 1) := by decide +kernel
theorem dX4_copyFrom_187 : decode cX4_copyFrom 187 = .ok (.getfield 79, 3) := by decide +kernel
theorem dX4_copyFrom_190 : decode cX4_copyFrom 190 = .ok (.putfield 79, 3) := by decide +kernel
theorem dX4_copyFrom_193 : decode cX4_copyFrom 193 = .ok (.return_, 1) := by decide +kernel
theorem dX4_putVehicle_0 : decode cX4_putVehicle 0 = .ok (.aload_n 0, 1) := by decide +kernel
theorem dX4_putVehicle_1 : decode cX4_putVehicle 1 = .ok (.getfield 39, 3) := by decide +kernel
theorem dX4_putVehicle_4 : decode cX4_putVehicle 4 = .ok (.istore 4, 2) := by decide +kernel
theorem dX4_putVehicle_6 : decode cX4_putVehicle 6 = .ok (.iload 4, 2) := by decide +kernel
theorem dX4_putVehicle_8 : decode cX4_putVehicle 8 = .ok (.ifCond .lt 13, 3) := by decide +kernel
theorem dX4_putVehicle_11 : decode cX4_putVehicle 11 = .ok (.iload 4, 2) := by decide +kernel
theorem dX4_putVehicle_13 : decode cX4_putVehicle 13 = .ok (.aload_n 0, 1) := by decide +kernel
theorem dX4_putVehicle_14 : decode cX4_putVehicle 14 = .ok (.getfield 11, 3) := by decide +kernel
theorem dX4_putVehicle_17 : decode cX4_putVehicle 17 = .ok (.arraylength, 1) := by decide +kernel
theorem dX4_putVehicle_18 : decode cX4_putVehicle 18 = .ok (.if_icmp .lt 5, 3) := by decide +kernel
theorem dX4_putVehicle_21 : decode cX4_putVehicle 21 = .ok (.iconst (-1), 1) := by decide +kernel
theorem dX4_putVehicle_22 : decode cX4_putVehicle 22 = .ok (.ireturn, 1) := by decide +kernel
theorem dX4_putVehicle_23 : decode cX4_putVehicle 23 = .ok (.aload_n 0, 1) := by decide +kernel
theorem dX4_putVehicle_24 : decode cX4_putVehicle 24 = .ok (.getfield 11, 3) := by decide +kernel
theorem dX4_putVehicle_27 : decode cX4_putVehicle 27 = .ok (.iload 4, 2) := by decide +kernel
theorem dX4_putVehicle_29 : decode cX4_putVehicle 29 = .ok (.aaload, 1) := by decide +kernel
theorem dX4_putVehicle_30 : decode cX4_putVehicle 30 = .ok (.iload_n 1, 1) := by decide +kernel
theorem dX4_putVehicle_31 : decode cX4_putVehicle 31 = .ok (.iload_n 2, 1) := by decide +kernel
theorem dX4_putVehicle_32 : decode cX4_putVehicle 32 = .ok (.iload_n 3, 1) := by decide +kernel
theorem dX4_putVehicle_33 : decode cX4_putVehicle 33 = .ok (.iconst 0, 1) := by decide +kernel
theorem dX4_putVehicle_34 : decode cX4_putVehicle 34 = .ok (.invokevirtual 69, 3) := by decide +kernel
theorem dX4_putVehicle_37 : decode cX4_putVehicle 37 = .ok (.aload_n 0, 1) := by decide +kernel
theorem dX4_putVehicle_38 : decode cX4_putVehicle 38 = .ok (.dup, 1) := by decide +kernel
theorem dX4_putVehicle_39 : decode cX4_putVehicle 39 = .ok (.getfield 39, 3) := by decide +kernel
theorem dX4_putVehicle_42 : decode cX4_putVehicle 42 = .ok (.iconst 1, 1) := by decide +kernel
theorem dX4_putVehicle_43 : decode cX4_putVehicle 43 = .ok (.iadd, 1) := by decide +kernel
theorem dX4_putVehicle_44 : decode cX4_putVehicle 44 = .ok (.putfield 39, 3) := by decide +kernel
theorem dX4_putVehicle_47 : decode cX4_putVehicle 47 = .ok (.iload 4, 2) := by decide +kernel
theorem dX4_putVehicle_49 : decode cX4_putVehicle 49 = .ok (.ireturn, 1) := by decide +kernel
theorem dX4_putSource_0 : decode cX4_putSource 0 = .ok (.aload_n 0, 1) := by decide +kernel
theorem dX4_putSource_1 : decode cX4_putSource 1 = .ok (.getfield 43, 3) := by decide +kernel
theorem dX4_putSource_4 : decode cX4_putSource 4 = .ok (.istore 6, 2) := by decide +kernel
theorem dX4_putSource_6 : decode cX4_putSource 6 = .ok (.iload 6, 2) := by decide +kernel
theorem dX4_putSource_8 : decode cX4_putSource 8 = .ok (.ifCond .lt 25, 3) := by decide +kernel
theorem dX4_putSource_11 : decode cX4_putSource 11 = .ok (.iload 6, 2) := by decide +kernel
theorem dX4_putSource_13 : decode cX4_putSource 13 = .ok (.aload_n 0, 1) := by decide +kernel
theorem dX4_putSource_14 : decode cX4_putSource 14 = .ok (.getfield 19, 3) := by decide +kernel
theorem dX4_putSource_17 : decode cX4_putSource 17 = .ok (.arraylength, 1) := by decide +kernel
theorem dX4_putSource_18 : decode cX4_putSource 18 = .ok (.if_icmp .ge 15, 3) := by decide +kernel
theorem dX4_putSource_21 : decode cX4_putSource 21 = .ok (.iload_n 1, 1) := by decide +kernel
theorem dX4_putSource_22 : decode cX4_putSource 22 = .ok (.ifCond .lt 11, 3) := by decide +kernel
theorem dX4_putSource_25 : decode cX4_putSource 25 = .ok (.iload_n 1, 1) := by decide +kernel
theorem dX4_putSource_26 : decode cX4_putSource 26 = .ok (.aload_n 0, 1) := by decide +kernel
theorem dX4_putSource_27 : decode cX4_putSource 27 = .ok (.getfield 39, 3) := by decide +kernel
theorem dX4_putSource_30 : decode cX4_putSource 30 = .ok (.if_icmp .lt 5, 3) := by decide +kernel
theorem dX4_putSource_33 : decode cX4_putSource 33 = .ok (.iconst (-1), 1) := by decide +kernel
theorem dX4_putSource_34 : decode cX4_putSource 34 = .ok (.ireturn, 1) := by decide +kernel
theorem dX4_putSource_35 : decode cX4_putSource 35 = .ok (.aload_n 0, 1) := by decide +kernel
theorem dX4_putSource_36 : decode cX4_putSource 36 = .ok (.getfield 19, 3) := by decide +kernel
theorem dX4_putSource_39 : decode cX4_putSource 39 = .ok (.iload 6, 2) := by decide +kernel
theorem dX4_putSource_41 : decode cX4_putSource 41 = .ok (.aaload, 1) := by decide +kernel
theorem dX4_putSource_42 : decode cX4_putSource 42 = .ok (.astore 7, 2) := by decide +kernel
theorem dX4_putSource_44 : decode cX4_putSource 44 = .ok (.aload 7, 2) := by decide +kernel
theorem dX4_putSource_46 : decode cX4_putSource 46 = .ok (.getfield 92, 3) := by decide +kernel
theorem dX4_putSource_49 : decode cX4_putSource 49 = .ok (.aload_n 0, 1) := by decide +kernel
theorem dX4_putSource_50 : decode cX4_putSource 50 = .ok (.getfield 11, 3) := by decide +kernel
theorem dX4_putSource_53 : decode cX4_putSource 53 = .ok (.iload_n 1, 1) := by decide +kernel
theorem dX4_putSource_54 : decode cX4_putSource 54 = .ok (.aaload, 1) := by decide +kernel
theorem dX4_putSource_55 : decode cX4_putSource 55 = .ok (.iload_n 2, 1) := by decide +kernel
theorem dX4_putSource_56 : decode cX4_putSource 56 = .ok (.iload_n 3, 1) := by decide +kernel
theorem dX4_putSource_57 : decode cX4_putSource 57 = .ok (.invokevirtual 95, 3) := by decide +kernel
theorem dX4_putSource_60 : decode cX4_putSource 60 = .ok (.aload 7, 2) := by decide +kernel
theorem dX4_putSource_62 : decode cX4_putSource 62 = .ok (.iload 4, 2) := by decide +kernel
theorem dX4_putSource_64 : decode cX4_putSource 64 = .ok (.putfield 99, 3) := by decide +kernel
theorem dX4_putSource_67 : decode cX4_putSource 67 = .ok (.aload 7, 2) := by decide +kernel
theorem dX4_putSource_69 : decode cX4_putSource 69 = .ok (.iconst 0, 1) := by decide +kernel
theorem dX4_putSource_70 : decode cX4_putSource 70 = .ok (.putfield 102, 3) := by decide +kernel
theorem dX4_putSource_73 : decode cX4_putSource 73 = .ok (.aload 7, 2) := by decide +kernel
theorem dX4_putSource_75 : decode cX4_putSource 75 = .ok (.iload 5, 2) := by decide +kernel
theorem dX4_putSource_77 : decode cX4_putSource 77 = .ok (.invokevirtual 105, 3) := by decide +kernel
theorem dX4_putSource_80 : decode cX4_putSource 80 = .ok (.pop, 1) := by decide +kernel
theorem dX4_putSource_81 : decode cX4_putSource 81 = .ok (.aload_n 0, 1) := by decide +kernel
theorem dX4_putSource_82 : decode cX4_putSource 82 = .ok (.dup, 1) := by decide +kernel
theorem dX4_putSource_83 : decode cX4_putSource 83 = .ok (.getfield 43, 3) := by decide +kernel
theorem dX4_putSource_86 : decode cX4_putSource 86 = .ok (.iconst 1, 1) := by decide +kernel
theorem dX4_putSource_87 : decode cX4_putSource 87 = .ok (.iadd, 1) := by decide +kernel
theorem dX4_putSource_88 : decode cX4_putSource 88 = .ok (.putfield 43, 3) := by decide +kernel
theorem dX4_putSource_91 : decode cX4_putSource 91 = .ok (.iload 6, 2) := by decide +kernel
theorem dX4_putSource_93 : decode cX4_putSource 93 = .ok (.ireturn, 1) := by decide +kernel
theorem dX4_putMicrophone_0 : decode cX4_putMicrophone 0 = .ok (.aload_n 0, 1) := by decide +kernel
theorem dX4_putMicrophone_1 : decode cX4_putMicrophone 1 = .ok (.getfield 46, 3) := by decide +kernel
theorem dX4_putMicrophone_4 : decode cX4_putMicrophone 4 = .ok (.istore 5, 2) := by decide +kernel
theorem dX4_putMicrophone_6 : decode cX4_putMicrophone 6 = .ok (.iload 5, 2) := by decide +kernel
theorem dX4_putMicrophone_8 : decode cX4_putMicrophone 8 = .ok (.ifCond .lt 13, 3) := by decide +kernel
theorem dX4_putMicrophone_11 : decode cX4_putMicrophone 11 = .ok (.iload 5, 2) := by decide +kernel
theorem dX4_putMicrophone_13 : decode cX4_putMicrophone 13 = .ok (.aload_n 0, 1) := by decide +kernel
theorem dX4_putMicrophone_14 : decode cX4_putMicrophone 14 = .ok (.getfield 25, 3) := by decide +kernel
theorem dX4_putMicrophone_17 : decode cX4_putMicrophone 17 = .ok (.arraylength, 1) := by decide +kernel
theorem dX4_putMicrophone_18 : decode cX4_putMicrophone 18 = .ok (.if_icmp .lt 5, 3) := by decide +kernel
theorem dX4_putMicrophone_21 : decode cX4_putMicrophone 21 = .ok (.iconst (-1), 1) := by decide +kernel
theorem dX4_putMicrophone_22 : decode cX4_putMicrophone 22 = .ok (.ireturn, 1) := by decide +kernel
theorem dX4_putMicrophone_23 : decode cX4_putMicrophone 23 = .ok (.aload_n 0, 1) := by decide +kernel
theorem dX4_putMicrophone_24 : decode cX4_putMicrophone 24 = .ok (.getfield 25, 3) := by decide +kernel
theorem dX4_putMicrophone_27 : decode cX4_putMicrophone 27 = .ok (.iload 5, 2) := by decide +kernel
theorem dX4_putMicrophone_29 : decode cX4_putMicrophone 29 = .ok (.aaload, 1) := by decide +kernel
theorem dX4_putMicrophone_30 : decode cX4_putMicrophone 30 = .ok (.astore 6, 2) := by decide +kernel
theorem dX4_putMicrophone_32 : decode cX4_putMicrophone 32 = .ok (.aload 6, 2) := by decide +kernel
theorem dX4_putMicrophone_34 : decode cX4_putMicrophone 34 = .ok (.iload_n 1, 1) := by decide +kernel
theorem dX4_putMicrophone_35 : decode cX4_putMicrophone 35 = .ok (.putfield 109, 3) := by decide +kernel
theorem dX4_putMicrophone_38 : decode cX4_putMicrophone 38 = .ok (.aload 6, 2) := by decide +kernel
theorem dX4_putMicrophone_40 : decode cX4_putMicrophone 40 = .ok (.iload_n 2, 1) := by decide +kernel
theorem dX4_putMicrophone_41 : decode cX4_putMicrophone 41 = .ok (.putfield 112, 3) := by decide +kernel
theorem dX4_putMicrophone_44 : decode cX4_putMicrophone 44 = .ok (.aload 6, 2) := by decide +kernel
theorem dX4_putMicrophone_46 : decode cX4_putMicrophone 46 = .ok (.iload_n 3, 1) := by decide +kernel
theorem dX4_putMicrophone_47 : decode cX4_putMicrophone 47 = .ok (.putfield 115, 3) := by decide +kernel
theorem dX4_putMicrophone_50 : decode cX4_putMicrophone 50 = .ok (.aload 6, 2) := by decide +kernel
theorem dX4_putMicrophone_52 : decode cX4_putMicrophone 52 = .ok (.iload 4, 2) := by decide +kernel
theorem dX4_putMicrophone_54 : decode cX4_putMicrophone 54 = .ok (.putfield 118, 3) := by decide +kernel
theorem dX4_putMicrophone_57 : decode cX4_putMicrophone 57 = .ok (.aload 6, 2) := by decide +kernel
theorem dX4_putMicrophone_59 : decode cX4_putMicrophone 59 = .ok (.getfield 121, 3) := by decide +kernel
theorem dX4_putMicrophone_62 : decode cX4_putMicrophone 62 = .ok (.iconst 0, 1) := by decide +kernel
theorem dX4_putMicrophone_63 : decode cX4_putMicrophone 63 = .ok (.invokestatic 125, 3) := by decide +kernel
theorem dX4_putMicrophone_66 : decode cX4_putMicrophone 66 = .ok (.aload_n 0, 1) := by decide +kernel
theorem dX4_putMicrophone_67 : decode cX4_putMicrophone 67 = .ok (.dup, 1) := by decide +kernel
theorem dX4_putMicrophone_68 : decode cX4_putMicrophone 68 = .ok (.getfield 46, 3) := by decide +kernel
theorem dX4_putMicrophone_71 : decode cX4_putMicrophone 71 = .ok (.iconst 1, 1) := by decide +kernel
theorem dX4_putMicrophone_72 : decode cX4_putMicrophone 72 = .ok (.iadd, 1) := by decide +kernel
theorem dX4_putMicrophone_73 : decode cX4_putMicrophone 73 = .ok (.putfield 46, 3) := by decide +kernel
theorem dX4_putMicrophone_76 : decode cX4_putMicrophone 76 = .ok (.iload 5, 2) := by decide +kernel
theorem dX4_putMicrophone_78 : decode cX4_putMicrophone 78 = .ok (.ireturn, 1) := by decide +kernel
theorem dX4_recordAll_0 : decode cX4_recordAll 0 = .ok (.iconst 0, 1) := by decide +kernel
theorem dX4_recordAll_1 : decode cX4_recordAll 1 = .ok (.istore_n 2, 1) := by decide +kernel
theorem dX4_recordAll_2 : decode cX4_recordAll 2 = .ok (.iload_n 2, 1) := by decide +kernel
theorem dX4_recordAll_3 : decode cX4_recordAll 3 = .ok (.aload_n 0, 1) := by decide +kernel
theorem dX4_recordAll_4 : decode cX4_recordAll 4 = .ok (.getfield 46, 3) := by decide +kernel
theorem dX4_recordAll_7 : decode cX4_recordAll 7 = .ok (.if_icmp .ge 70, 3) := by decide +kernel
theorem dX4_recordAll_10 : decode cX4_recordAll 10 = .ok (.aload_n 0, 1) := by decide +kernel
theorem dX4_recordAll_11 : decode cX4_recordAll 11 = .ok (.getfield 25, 3) := by decide +kernel
theorem dX4_recordAll_14 : decode cX4_recordAll 14 = .ok (.iload_n 2, 1) := by decide +kernel
theorem dX4_recordAll_15 : decode cX4_recordAll 15 = .ok (.aaload, 1) := by decide +kernel
theorem dX4_recordAll_16 : decode cX4_recordAll 16 = .ok (.astore_n 3, 1) := by decide +kernel
theorem dX4_recordAll_17 : decode cX4_recordAll 17 = .ok (.aload_n 0, 1) := by decide +kernel
theorem dX4_recordAll_18 : decode cX4_recordAll 18 = .ok (.aload_n 3, 1) := by decide +kernel
theorem dX4_recordAll_19 : decode cX4_recordAll 19 = .ok (.getfield 121, 3) := by decide +kernel
theorem dX4_recordAll_22 : decode cX4_recordAll 22 = .ok (.invokevirtual 131, 3) := by decide +kernel
theorem dX4_recordAll_25 : decode cX4_recordAll 25 = .ok (.iconst 0, 1) := by decide +kernel
theorem dX4_recordAll_26 : decode cX4_recordAll 26 = .ok (.istore 4, 2) := by decide +kernel
theorem dX4_recordAll_28 : decode cX4_recordAll 28 = .ok (.iload 4, 2) := by decide +kernel
theorem dX4_recordAll_30 : decode cX4_recordAll 30 = .ok (.aload_n 0, 1) := by decide +kernel
theorem dX4_recordAll_31 : decode cX4_recordAll 31 = .ok (.getfield 43, 3) := by decide +kernel
theorem dX4_recordAll_34 : decode cX4_recordAll 34 = .ok (.if_icmp .ge 37, 3) := by decide +kernel
theorem dX4_recordAll_37 : decode cX4_recordAll 37 = .ok (.aload_n 0, 1) := by decide +kernel
theorem dX4_recordAll_38 : decode cX4_recordAll 38 = .ok (.aload_n 0, 1) := by decide +kernel
theorem dX4_recordAll_39 : decode cX4_recordAll 39 = .ok (.getfield 19, 3) := by decide +kernel
theorem dX4_recordAll_42 : decode cX4_recordAll 42 = .ok (.iload 4, 2) := by decide +kernel
theorem dX4_recordAll_44 : decode cX4_recordAll 44 = .ok (.aaload, 1) := by decide +kernel
theorem dX4_recordAll_45 : decode cX4_recordAll 45 = .ok (.aload_n 3, 1) := by decide +kernel
theorem dX4_recordAll_46 : decode cX4_recordAll 46 = .ok (.aload_n 1, 1) := by decide +kernel
theorem dX4_recordAll_47 : decode cX4_recordAll 47 = .ok (.iconst 0, 1) := by decide +kernel
theorem dX4_recordAll_48 : decode cX4_recordAll 48 = .ok (.invokevirtual 135, 3) := by decide +kernel
theorem dX4_recordAll_51 : decode cX4_recordAll 51 = .ok (.aload_n 0, 1) := by decide +kernel
theorem dX4_recordAll_52 : decode cX4_recordAll 52 = .ok (.aload_n 0, 1) := by decide +kernel
theorem dX4_recordAll_53 : decode cX4_recordAll 53 = .ok (.getfield 19, 3) := by decide +kernel
theorem dX4_recordAll_56 : decode cX4_recordAll 56 = .ok (.iload 4, 2) := by decide +kernel
theorem dX4_recordAll_58 : decode cX4_recordAll 58 = .ok (.aaload, 1) := by decide +kernel
theorem dX4_recordAll_59 : decode cX4_recordAll 59 = .ok (.aload_n 3, 1) := by decide +kernel
theorem dX4_recordAll_60 : decode cX4_recordAll 60 = .ok (.aload_n 1, 1) := by decide +kernel
theorem dX4_recordAll_61 : decode cX4_recordAll 61 = .ok (.iconst 1, 1) := by decide +kernel
theorem dX4_recordAll_62 : decode cX4_recordAll 62 = .ok (.invokevirtual 135, 3) := by decide +kernel
theorem dX4_recordAll_65 : decode cX4_recordAll 65 = .ok (.iinc 4 1, 3) := by decide +kernel
theorem dX4_recordAll_68 : decode cX4_recordAll 68 = .ok (.goto (-40), 3) := by decide +kernel
theorem dX4_recordAll_71 : decode cX4_recordAll 71 = .ok (.iinc 2 1, 3) := by decide +kernel
theorem dX4_recordAll_74 : decode cX4_recordAll 74 = .ok (.goto (-72), 3) := by decide +kernel
theorem dX4_recordAll_77 : decode cX4_recordAll 77 = .ok (.aload_n 0, 1) := by decide +kernel
theorem dX4_recordAll_78 : decode cX4_recordAll 78 = .ok (.dup, 1) := by decide +kernel
theorem dX4_recordAll_79 : decode cX4_recordAll 79 = .ok (.getfield 66, 3) := by decide +kernel
theorem dX4_recordAll_82 : decode cX4_recordAll 82 = .ok (.iconst 1, 1) := by decide +kernel
theorem dX4_recordAll_83 : decode cX4_recordAll 83 = .ok (.iadd, 1) := by decide +kernel
theorem dX4_recordAll_84 : decode cX4_recordAll 84 = .ok (.putfield 66, 3) := by decide +kernel
theorem dX4_recordAll_87 : decode cX4_recordAll 87 = .ok (.return_, 1) := by decide +kernel
theorem dX4_recordNoise_0 : decode cX4_recordNoise 0 = .ok (.iconst 0, 1) := by decide +kernel
theorem dX4_recordNoise_1 : decode cX4_recordNoise 1 = .ok (.istore_n 2, 1) := by decide +kernel
theorem dX4_recordNoise_2 : decode cX4_recordNoise 2 = .ok (.iload_n 2, 1) := by decide +kernel
theorem dX4_recordNoise_3 : decode cX4_recordNoise 3 = .ok (.aload_n 1, 1) := by decide +kernel
theorem dX4_recordNoise_4 : decode cX4_recordNoise 4 = .ok (.arraylength, 1) := by decide +kernel
theorem dX4_recordNoise_5 : decode cX4_recordNoise 5 = .ok (.if_icmp .ge 40, 3) := by decide +kernel
theorem dX4_recordNoise_8 : decode cX4_recordNoise 8 = .ok (.aload_n 1, 1) := by decide +kernel
theorem dX4_recordNoise_9 : decode cX4_recordNoise 9 = .ok (.iload_n 2, 1) := by decide +kernel
theorem dX4_recordNoise_10 : decode cX4_recordNoise 10 = .ok (.aload_n 0, 1) := by decide +kernel
theorem dX4_recordNoise_11 : decode cX4_recordNoise 11 = .ok (.getfield 55, 3) := by decide +kernel
theorem dX4_recordNoise_14 : decode cX4_recordNoise 14 = .ok (.ifCond .ne 7, 3) := by decide +kernel
theorem dX4_recordNoise_17 : decode cX4_recordNoise 17 = .ok (.iconst 0, 1) := by decide +kernel
theorem dX4_recordNoise_18 : decode cX4_recordNoise 18 = .ok (.goto 20, 3) := by decide +kernel
theorem dX4_recordNoise_21 : decode cX4_recordNoise 21 = .ok (.aload_n 0, 1) := by decide +kernel
theorem dX4_recordNoise_22 : decode cX4_recordNoise 22 = .ok (.iconst 2, 1) := by decide +kernel
theorem dX4_recordNoise_23 : decode cX4_recordNoise 23 = .ok (.aload_n 0, 1) := by decide +kernel
theorem dX4_recordNoise_24 : decode cX4_recordNoise 24 = .ok (.getfield 55, 3) := by decide +kernel
theorem dX4_recordNoise_27 : decode cX4_recordNoise 27 = .ok (.imul, 1) := by decide +kernel
theorem dX4_recordNoise_28 : decode cX4_recordNoise 28 = .ok (.iconst 1, 1) := by decide +kernel
theorem dX4_recordNoise_29 : decode cX4_recordNoise 29 = .ok (.iadd, 1) := by decide +kernel
theorem dX4_recordNoise_30 : decode cX4_recordNoise 30 = .ok (.invokevirtual 139, 3) := by decide +kernel
theorem dX4_recordNoise_33 : decode cX4_recordNoise 33 = .ok (.aload_n 0, 1) := by decide +kernel
theorem dX4_recordNoise_34 : decode cX4_recordNoise 34 = .ok (.getfield 55, 3) := by decide +kernel
theorem dX4_recordNoise_37 : decode cX4_recordNoise 37 = .ok (.isub, 1) := by decide +kernel
theorem dX4_recordNoise_38 : decode cX4_recordNoise 38 = .ok (.iastore, 1) := by decide +kernel
theorem dX4_recordNoise_39 : decode cX4_recordNoise 39 = .ok (.iinc 2 1, 3) := by decide +kernel
theorem dX4_recordNoise_42 : decode cX4_recordNoise 42 = .ok (.goto (-40), 3) := by decide +kernel
theorem dX4_recordNoise_45 : decode cX4_recordNoise 45 = .ok (.return_, 1) := by decide +kernel
theorem dX4_draw_0 : decode cX4_draw 0 = .ok (.aload_n 0, 1) := by decide +kernel
theorem dX4_draw_1 : decode cX4_draw 1 = .ok (.aload_n 0, 1) := by decide +kernel
theorem dX4_draw_2 : decode cX4_draw 2 = .ok (.getfield 58, 3) := by decide +kernel
theorem dX4_draw_5 : decode cX4_draw 5 = .ok (.ldc2_w 142, 3) := by decide +kernel
theorem dX4_draw_8 : decode cX4_draw 8 = .ok (.lmul, 1) := by decide +kernel
theorem dX4_draw_9 : decode cX4_draw 9 = .ok (.ldc2_w 144, 3) := by decide +kernel
theorem dX4_draw_12 : decode cX4_draw 12 = .ok (.ladd, 1) := by decide +kernel
theorem dX4_draw_13 : decode cX4_draw 13 = .ok (.ldc2_w 146, 3) := by decide +kernel
theorem dX4_draw_16 : decode cX4_draw 16 = .ok (.lrem, 1) := by decide +kernel
theorem dX4_draw_17 : decode cX4_draw 17 = .ok (.putfield 58, 3) := by decide +kernel
theorem dX4_draw_20 : decode cX4_draw 20 = .ok (.iload_n 1, 1) := by decide +kernel
theorem dX4_draw_21 : decode cX4_draw 21 = .ok (.ifCond .ne 7, 3) := by decide +kernel
theorem dX4_draw_24 : decode cX4_draw 24 = .ok (.iconst 0, 1) := by decide +kernel
theorem dX4_draw_25 : decode cX4_draw 25 = .ok (.goto 15, 3) := by decide +kernel
theorem dX4_draw_28 : decode cX4_draw 28 = .ok (.aload_n 0, 1) := by decide +kernel
theorem dX4_draw_29 : decode cX4_draw 29 = .ok (.getfield 58, 3) := by decide +kernel
theorem dX4_draw_32 : decode cX4_draw 32 = .ok (.ldc2_w 148, 3) := by decide +kernel
theorem dX4_draw_35 : decode cX4_draw 35 = .ok (.ldiv, 1) := by decide +kernel
theorem dX4_draw_36 : decode cX4_draw 36 = .ok (.iload_n 1, 1) := by decide +kernel
theorem dX4_draw_37 : decode cX4_draw 37 = .ok (.i2l, 1) := by decide +kernel
theorem dX4_draw_38 : decode cX4_draw 38 = .ok (.lrem, 1) := by decide +kernel
theorem dX4_draw_39 : decode cX4_draw 39 = .ok (.l2i, 1) := by decide +kernel
theorem dX4_draw_40 : decode cX4_draw 40 = .ok (.ireturn, 1) := by decide +kernel
theorem dX4_recordPath_0 : decode cX4_recordPath 0 = .ok (.aload_n 3, 1) := by decide +kernel
theorem dX4_recordPath_1 : decode cX4_recordPath 1 = .ok (.aload_n 1, 1) := by decide +kernel
theorem dX4_recordPath_2 : decode cX4_recordPath 2 = .ok (.getfield 92, 3) := by decide +kernel
theorem dX4_recordPath_5 : decode cX4_recordPath 5 = .ok (.iconst 0, 1) := by decide +kernel
theorem dX4_recordPath_6 : decode cX4_recordPath 6 = .ok (.aload_n 2, 1) := by decide +kernel
theorem dX4_recordPath_7 : decode cX4_recordPath 7 = .ok (.iload 4, 2) := by decide +kernel
theorem dX4_recordPath_9 : decode cX4_recordPath 9 = .ok (.invokevirtual 150, 3) := by decide +kernel
theorem dX4_recordPath_12 : decode cX4_recordPath 12 = .ok (.iconst 0, 1) := by decide +kernel
theorem dX4_recordPath_13 : decode cX4_recordPath 13 = .ok (.istore 5, 2) := by decide +kernel
theorem dX4_recordPath_15 : decode cX4_recordPath 15 = .ok (.aload_n 3, 1) := by decide +kernel
theorem dX4_recordPath_16 : decode cX4_recordPath 16 = .ok (.iload 5, 2) := by decide +kernel
theorem dX4_recordPath_18 : decode cX4_recordPath 18 = .ok (.aload_n 0, 1) := by decide +kernel
theorem dX4_recordPath_19 : decode cX4_recordPath 19 = .ok (.getfield 49, 3) := by decide +kernel
theorem dX4_recordPath_22 : decode cX4_recordPath 22 = .ok (.invokevirtual 156, 3) := by decide +kernel
theorem dX4_recordPath_25 : decode cX4_recordPath 25 = .ok (.istore 6, 2) := by decide +kernel
theorem dX4_recordPath_27 : decode cX4_recordPath 27 = .ok (.iconst 0, 1) := by decide +kernel
theorem dX4_recordPath_28 : decode cX4_recordPath 28 = .ok (.istore 7, 2) := by decide +kernel
theorem dX4_recordPath_30 : decode cX4_recordPath 30 = .ok (.iconst 0, 1) := by decide +kernel
theorem dX4_recordPath_31 : decode cX4_recordPath 31 = .ok (.istore 8, 2) := by decide +kernel
theorem dX4_recordPath_33 : decode cX4_recordPath 33 = .ok (.iload 8, 2) := by decide +kernel
theorem dX4_recordPath_35 : decode cX4_recordPath 35 = .ok (.sipush 256, 3) := by decide +kernel
theorem dX4_recordPath_38 : decode cX4_recordPath 38 = .ok (.if_icmp .ge 79, 3) := by decide +kernel
theorem dX4_recordPath_41 : decode cX4_recordPath 41 = .ok (.iload 5, 2) := by decide +kernel
theorem dX4_recordPath_43 : decode cX4_recordPath 43 = .ok (.sipush 256, 3) := by decide +kernel
theorem dX4_recordPath_46 : decode cX4_recordPath 46 = .ok (.if_icmp .ge 53, 3) := by decide +kernel
theorem dX4_recordPath_49 : decode cX4_recordPath 49 = .ok (.iload 6, 2) := by decide +kernel
theorem dX4_recordPath_51 : decode cX4_recordPath 51 = .ok (.iload 8, 2) := by decide +kernel
theorem dX4_recordPath_53 : decode cX4_recordPath 53 = .ok (.aload_n 0, 1) := by decide +kernel
theorem dX4_recordPath_54 : decode cX4_recordPath 54 = .ok (.getfield 49, 3) := by decide +kernel
theorem dX4_recordPath_57 : decode cX4_recordPath 57 = .ok (.imul, 1) := by decide +kernel
theorem dX4_recordPath_58 : decode cX4_recordPath 58 = .ok (.if_icmp .gt 41, 3) := by decide +kernel
theorem dX4_recordPath_61 : decode cX4_recordPath 61 = .ok (.aload_n 0, 1) := by decide +kernel
theorem dX4_recordPath_62 : decode cX4_recordPath 62 = .ok (.aload_n 1, 1) := by decide +kernel
theorem dX4_recordPath_63 : decode cX4_recordPath 63 = .ok (.iload 5, 2) := by decide +kernel
theorem dX4_recordPath_65 : decode cX4_recordPath 65 = .ok (.invokevirtual 160, 3) := by decide +kernel
theorem dX4_recordPath_68 : decode cX4_recordPath 68 = .ok (.aload_n 3, 1) := by decide +kernel
theorem dX4_recordPath_69 : decode cX4_recordPath 69 = .ok (.iload 5, 2) := by decide +kernel
theorem dX4_recordPath_71 : decode cX4_recordPath 71 = .ok (.invokevirtual 163, 3) := by decide +kernel
theorem dX4_recordPath_74 : decode cX4_recordPath 74 = .ok (.iload 4, 2) := by decide +kernel
theorem dX4_recordPath_76 : decode cX4_recordPath 76 = .ok (.invokevirtual 166, 3) := by decide +kernel
theorem dX4_recordPath_79 : decode cX4_recordPath 79 = .ok (.istore 7, 2) := by decide +kernel
theorem dX4_recordPath_81 : decode cX4_recordPath 81 = .ok (.iinc 5 1, 3) := by decide +kernel
theorem dX4_recordPath_84 : decode cX4_recordPath 84 = .ok (.aload_n 3, 1) := by decide +kernel
theorem dX4_recordPath_85 : decode cX4_recordPath 85 = .ok (.iload 5, 2) := by decide +kernel
theorem dX4_recordPath_87 : decode cX4_recordPath 87 = .ok (.aload_n 0, 1) := by decide +kernel
theorem dX4_recordPath_88 : decode cX4_recordPath 88 = .ok (.getfield 49, 3) := by decide +kernel
theorem dX4_recordPath_91 : decode cX4_recordPath 91 = .ok (.invokevirtual 156, 3) := by decide +kernel
theorem dX4_recordPath_94 : decode cX4_recordPath 94 = .ok (.istore 6, 2) := by decide +kernel
theorem dX4_recordPath_96 : decode cX4_recordPath 96 = .ok (.goto (-55), 3) := by decide +kernel
theorem dX4_recordPath_99 : decode cX4_recordPath 99 = .ok (.aload_n 2, 1) := by decide +kernel
theorem dX4_recordPath_100 : decode cX4_recordPath 100 = .ok (.getfield 121, 3) := by decide +kernel
theorem dX4_recordPath_103 : decode cX4_recordPath 103 = .ok (.iload 8, 2) := by decide +kernel
theorem dX4_recordPath_105 : decode cX4_recordPath 105 = .ok (.dup2, 1) := by decide +kernel
theorem dX4_recordPath_106 : decode cX4_recordPath 106 = .ok (.iaload, 1) := by decide +kernel
theorem dX4_recordPath_107 : decode cX4_recordPath 107 = .ok (.iload 7, 2) := by decide +kernel
theorem dX4_recordPath_109 : decode cX4_recordPath 109 = .ok (.iadd, 1) := by decide +kernel
theorem dX4_recordPath_110 : decode cX4_recordPath 110 = .ok (.iastore, 1) := by decide +kernel
theorem dX4_recordPath_111 : decode cX4_recordPath 111 = .ok (.iinc 8 1, 3) := by decide +kernel
theorem dX4_recordPath_114 : decode cX4_recordPath 114 = .ok (.goto (-81), 3) := by decide +kernel
theorem dX4_recordPath_117 : decode cX4_recordPath 117 = .ok (.return_, 1) := by decide +kernel
theorem dX4_amountOf_0 : decode cX4_amountOf 0 = .ok (.aload_n 0, 1) := by decide +kernel
theorem dX4_amountOf_1 : decode cX4_amountOf 1 = .ok (.getfield 62, 3) := by decide +kernel
theorem dX4_amountOf_4 : decode cX4_amountOf 4 = .ok (.ifCond .eq 21, 3) := by decide +kernel
theorem dX4_amountOf_7 : decode cX4_amountOf 7 = .ok (.iload_n 1, 1) := by decide +kernel
theorem dX4_amountOf_8 : decode cX4_amountOf 8 = .ok (.i2l, 1) := by decide +kernel
theorem dX4_amountOf_9 : decode cX4_amountOf 9 = .ok (.ldc2_w 170, 3) := by decide +kernel
theorem dX4_amountOf_12 : decode cX4_amountOf 12 = .ok (.lmul, 1) := by decide +kernel
theorem dX4_amountOf_13 : decode cX4_amountOf 13 = .ok (.sipush 1000, 3) := by decide +kernel
theorem dX4_amountOf_16 : decode cX4_amountOf 16 = .ok (.iload_n 2, 1) := by decide +kernel
theorem dX4_amountOf_17 : decode cX4_amountOf 17 = .ok (.iadd, 1) := by decide +kernel
theorem dX4_amountOf_18 : decode cX4_amountOf 18 = .ok (.i2l, 1) := by decide +kernel
theorem dX4_amountOf_19 : decode cX4_amountOf 19 = .ok (.invokestatic 172, 3) := by decide +kernel
theorem dX4_amountOf_22 : decode cX4_amountOf 22 = .ok (.goto 5, 3) := by decide +kernel
theorem dX4_amountOf_25 : decode cX4_amountOf 25 = .ok (.iload_n 1, 1) := by decide +kernel
theorem dX4_amountOf_26 : decode cX4_amountOf 26 = .ok (.i2l, 1) := by decide +kernel
theorem dX4_amountOf_27 : decode cX4_amountOf 27 = .ok (.lstore 4, 2) := by decide +kernel
theorem dX4_amountOf_29 : decode cX4_amountOf 29 = .ok (.iload_n 3, 1) := by decide +kernel
theorem dX4_amountOf_30 : decode cX4_amountOf 30 = .ok (.ifCond .eq 18, 3) := by decide +kernel
theorem dX4_amountOf_33 : decode cX4_amountOf 33 = .ok (.lload 4, 2) := by decide +kernel
theorem dX4_amountOf_35 : decode cX4_amountOf 35 = .ok (.aload_n 0, 1) := by decide +kernel
theorem dX4_amountOf_36 : decode cX4_amountOf 36 = .ok (.getfield 52, 3) := by decide +kernel
theorem dX4_amountOf_39 : decode cX4_amountOf 39 = .ok (.i2l, 1) := by decide +kernel
theorem dX4_amountOf_40 : decode cX4_amountOf 40 = .ok (.lmul, 1) := by decide +kernel
theorem dX4_amountOf_41 : decode cX4_amountOf 41 = .ok (.ldc2_w 176, 3) := by decide +kernel
theorem dX4_amountOf_44 : decode cX4_amountOf 44 = .ok (.ldiv, 1) := by decide +kernel
theorem dX4_amountOf_45 : decode cX4_amountOf 45 = .ok (.goto 5, 3) := by decide +kernel
theorem dX4_amountOf_48 : decode cX4_amountOf 48 = .ok (.lload 4, 2) := by decide +kernel
theorem dX4_amountOf_50 : decode cX4_amountOf 50 = .ok (.l2i, 1) := by decide +kernel
theorem dX4_amountOf_51 : decode cX4_amountOf 51 = .ok (.ireturn, 1) := by decide +kernel
theorem dX5_init_0 : decode cX5_init 0 = .ok (.aload_n 0, 1) := by decide +kernel
theorem dX5_init_1 : decode cX5_init 1 = .ok (.invokespecial 3, 3) := by decide +kernel
theorem dX5_init_4 : decode cX5_init 4 = .ok (.aload_n 0, 1) := by decide +kernel
theorem dX5_init_5 : decode cX5_init 5 = .ok (.iconst (-1), 1) := by decide +kernel
theorem dX5_init_6 : decode cX5_init 6 = .ok (.putfield 9, 3) := by decide +kernel
theorem dX5_init_9 : decode cX5_init 9 = .ok (.aload_n 0, 1) := by decide +kernel
theorem dX5_init_10 : decode cX5_init 10 = .ok (.new 15, 3) := by decide +kernel
theorem dX5_init_13 : decode cX5_init 13 = .ok (.dup, 1) := by decide +kernel
theorem dX5_init_14 : decode cX5_init 14 = .ok (.invokespecial 17, 3) := by decide +kernel
theorem dX5_init_17 : decode cX5_init 17 = .ok (.putfield 18, 3) := by decide +kernel
theorem dX5_init_20 : decode cX5_init 20 = .ok (.aload_n 0, 1) := by decide +kernel
theorem dX5_init_21 : decode cX5_init 21 = .ok (.bipush 20, 2) := by decide +kernel
theorem dX5_init_23 : decode cX5_init 23 = .ok (.newarray .int, 2) := by decide +kernel
theorem dX5_init_25 : decode cX5_init 25 = .ok (.putfield 22, 3) := by decide +kernel
theorem dX5_init_28 : decode cX5_init 28 = .ok (.return_, 1) := by decide +kernel
theorem dX5_read_0 : decode cX5_read 0 = .ok (.aload_n 0, 1) := by decide +kernel
theorem dX5_read_1 : decode cX5_read 1 = .ok (.iconst 0, 1) := by decide +kernel
theorem dX5_read_2 : decode cX5_read 2 = .ok (.putfield 26, 3) := by decide +kernel
theorem dX5_read_5 : decode cX5_read 5 = .ok (.aload_n 0, 1) := by decide +kernel
theorem dX5_read_6 : decode cX5_read 6 = .ok (.iconst (-1), 1) := by decide +kernel
theorem dX5_read_7 : decode cX5_read 7 = .ok (.putfield 9, 3) := by decide +kernel
theorem dX5_read_10 : decode cX5_read 10 = .ok (.aload_n 0, 1) := by decide +kernel
theorem dX5_read_11 : decode cX5_read 11 = .ok (.iconst 0, 1) := by decide +kernel
theorem dX5_read_12 : decode cX5_read 12 = .ok (.putfield 29, 3) := by decide +kernel
theorem dX5_read_15 : decode cX5_read 15 = .ok (.aload_n 0, 1) := by decide +kernel
theorem dX5_read_16 : decode cX5_read 16 = .ok (.getfield 18, 3) := by decide +kernel
theorem dX5_read_19 : decode cX5_read 19 = .ok (.aload_n 1, 1) := by decide +kernel
theorem dX5_read_20 : decode cX5_read 20 = .ok (.invokevirtual 32, 3) := by decide +kernel
theorem dX5_read_23 : decode cX5_read 23 = .ok (.aload_n 2, 1) := by decide +kernel
theorem dX5_read_24 : decode cX5_read 24 = .ok (.invokevirtual 36, 3) := by decide +kernel
theorem dX5_read_27 : decode cX5_read 27 = .ok (.iconst 0, 1) := by decide +kernel
theorem dX5_read_28 : decode cX5_read 28 = .ok (.istore_n 3, 1) := by decide +kernel
theorem dX5_read_29 : decode cX5_read 29 = .ok (.iload_n 3, 1) := by decide +kernel
theorem dX5_read_30 : decode cX5_read 30 = .ok (.sipush 500, 3) := by decide +kernel
theorem dX5_read_33 : decode cX5_read 33 = .ok (.if_icmp .gt 57, 3) := by decide +kernel
theorem dX5_read_36 : decode cX5_read 36 = .ok (.aload_n 0, 1) := by decide +kernel
theorem dX5_read_37 : decode cX5_read 37 = .ok (.getfield 18, 3) := by decide +kernel
theorem dX5_read_40 : decode cX5_read 40 = .ok (.aload_n 0, 1) := by decide +kernel
theorem dX5_read_41 : decode cX5_read 41 = .ok (.getfield 29, 3) := by decide +kernel
theorem dX5_read_44 : decode cX5_read 44 = .ok (.invokevirtual 41, 3) := by decide +kernel
theorem dX5_read_47 : decode cX5_read 47 = .ok (.ifCond .ne 5, 3) := by decide +kernel
theorem dX5_read_50 : decode cX5_read 50 = .ok (.iload_n 3, 1) := by decide +kernel
theorem dX5_read_51 : decode cX5_read 51 = .ok (.ireturn, 1) := by decide +kernel
theorem dX5_read_52 : decode cX5_read 52 = .ok (.aload_n 0, 1) := by decide +kernel
theorem dX5_read_53 : decode cX5_read 53 = .ok (.aload_n 2, 1) := by decide +kernel
theorem dX5_read_54 : decode cX5_read 54 = .ok (.invokevirtual 45, 3) := by decide +kernel
theorem dX5_read_57 : decode cX5_read 57 = .ok (.ifCond .eq 10, 3) := by decide +kernel
theorem dX5_read_60 : decode cX5_read 60 = .ok (.aload_n 0, 1) := by decide +kernel
theorem dX5_read_61 : decode cX5_read 61 = .ok (.invokevirtual 49, 3) := by decide +kernel
theorem dX5_read_64 : decode cX5_read 64 = .ok (.ifCond .ne 20, 3) := by decide +kernel
theorem dX5_read_67 : decode cX5_read 67 = .ok (.aload_n 0, 1) := by decide +kernel
theorem dX5_read_68 : decode cX5_read 68 = .ok (.aload_n 0, 1) := by decide +kernel
theorem dX5_read_69 : decode cX5_read 69 = .ok (.getfield 18, 3) := by decide +kernel
theorem dX5_read_72 : decode cX5_read 72 = .ok (.aload_n 0, 1) := by decide +kernel
theorem dX5_read_73 : decode cX5_read 73 = .ok (.getfield 29, 3) := by decide +kernel
theorem dX5_read_76 : decode cX5_read 76 = .ok (.invokevirtual 53, 3) := by decide +kernel
theorem dX5_read_79 : decode cX5_read 79 = .ok (.putfield 9, 3) := by decide +kernel
theorem dX5_read_82 : decode cX5_read 82 = .ok (.iconst (-1), 1) := by decide +kernel
theorem dX5_read_83 : decode cX5_read 83 = .ok (.ireturn, 1) := by decide +kernel
theorem dX5_read_84 : decode cX5_read 84 = .ok (.iinc 3 1, 3) := by decide +kernel
theorem dX5_read_87 : decode cX5_read 87 = .ok (.goto (-58), 3) := by decide +kernel
theorem dX5_read_90 : decode cX5_read 90 = .ok (.iconst (-1), 1) := by decide +kernel
theorem dX5_read_91 : decode cX5_read 91 = .ok (.ireturn, 1) := by decide +kernel
theorem dX5_fail_0 : decode cX5_fail 0 = .ok (.aload_n 0, 1) := by decide +kernel
theorem dX5_fail_1 : decode cX5_fail 1 = .ok (.iload_n 1, 1) := by decide +kernel
theorem dX5_fail_2 : decode cX5_fail 2 = .ok (.putfield 26, 3) := by decide +kernel
theorem dX5_fail_5 : decode cX5_fail 5 = .ok (.iconst 0, 1) := by decide +kernel
theorem dX5_fail_6 : decode cX5_fail 6 = .ok (.ireturn, 1) := by decide +kernel
theorem dX5_readSemicolon_0 : decode cX5_readSemicolon 0 = .ok (.aload_n 0, 1) := by decide +kernel
theorem dX5_readSemicolon_1 : decode cX5_readSemicolon 1 = .ok (.getfield 18, 3) := by decide +kernel
theorem dX5_readSemicolon_4 : decode cX5_readSemicolon 4 = .ok (.aload_n 0, 1) := by decide +kernel
theorem dX5_readSemicolon_5 : decode cX5_readSemicolon 5 = .ok (.getfield 29, 3) := by decide +kernel
theorem dX5_readSemicolon_8 : decode cX5_readSemicolon 8 = .ok (.invokevirtual 41, 3) := by decide +kernel
theorem dX5_readSemicolon_11 : decode cX5_readSemicolon 11 = .ok (.iconst 2, 1) := by decide +kernel
theorem dX5_readSemicolon_12 : decode cX5_readSemicolon 12 = .ok (.if_icmp .eq 9, 3) := by decide +kernel
theorem dX5_readSemicolon_15 : decode cX5_readSemicolon 15 = .ok (.aload_n 0, 1) := by decide +kernel
theorem dX5_readSemicolon_16 : decode cX5_readSemicolon 16 = .ok (.iconst 1, 1) := by decide +kernel
theorem dX5_readSemicolon_17 : decode cX5_readSemicolon 17 = .ok (.invokevirtual 56, 3) := by decide +kernel
theorem dX5_readSemicolon_20 : decode cX5_readSemicolon 20 = .ok (.ireturn, 1) := by decide +kernel
theorem dX5_readSemicolon_21 : decode cX5_readSemicolon 21 = .ok (.aload_n 0, 1) := by decide +kernel
theorem dX5_readSemicolon_22 : decode cX5_readSemicolon 22 = .ok (.dup, 1) := by decide +kernel
theorem dX5_readSemicolon_23 : decode cX5_readSemicolon 23 = .ok (.getfield 29, 3) := by decide +kernel
theorem dX5_readSemicolon_26 : decode cX5_readSemicolon 26 = .ok (.iconst 1, 1) := by decide +kernel
theorem dX5_readSemicolon_27 : decode cX5_readSemicolon 27 = .ok (.iadd, 1) := by decide +kernel
theorem dX5_readSemicolon_28 : decode cX5_readSemicolon 28 = .ok (.putfield 29, 3) := by decide +kernel
theorem dX5_readSemicolon_31 : decode cX5_readSemicolon 31 = .ok (.iconst 1, 1) := by decide +kernel
theorem dX5_readSemicolon_32 : decode cX5_readSemicolon 32 = .ok (.ireturn, 1) := by decide +kernel
theorem dX5_readStatement_0 : decode cX5_readStatement 0 = .ok (.aload_n 0, 1) := by decide +kernel
theorem dX5_readStatement_1 : decode cX5_readStatement 1 = .ok (.iconst 0, 1) := by decide +kernel
theorem dX5_readStatement_2 : decode cX5_readStatement 2 = .ok (.putfield 60, 3) := by decide +kernel
theorem dX5_readStatement_5 : decode cX5_readStatement 5 = .ok (.aload_n 0, 1) := by decide +kernel
theorem dX5_readStatement_6 : decode cX5_readStatement 6 = .ok (.getfield 18, 3) := by decide +kernel
theorem dX5_readStatement_9 : decode cX5_readStatement 9 = .ok (.aload_n 0, 1) := by decide +kernel
theorem dX5_readStatement_10 : decode cX5_readStatement 10 = .ok (.getfield 29, 3) := by decide +kernel
theorem dX5_readStatement_13 : decode cX5_readStatement 13 = .ok (.invokevirtual 41, 3) := by decide +kernel
theorem dX5_readStatement_16 : decode cX5_readStatement 16 = .ok (.istore_n 2, 1) := by decide +kernel
theorem dX5_readStatement_17 : decode cX5_readStatement 17 = .ok (.iload_n 2, 1) := by decide +kernel
theorem dX5_readStatement_18 : decode cX5_readStatement 18 = .ok (.tableswitch 77 5 11 #[42, 48, 54, 60, 60, 60, 60], 42) := by decide +kernel
theorem dX5_readStatement_60 : decode cX5_readStatement 60 = .ok (.aload_n 0, 1) := by decide +kernel
theorem dX5_readStatement_61 : decode cX5_readStatement 61 = .ok (.aload_n 1, 1) := by decide +kernel
theorem dX5_readStatement_62 : decode cX5_readStatement 62 = .ok (.invokevirtual 63, 3) := by decide +kernel
theorem dX5_readStatement_65 : decode cX5_readStatement 65 = .ok (.ireturn, 1) := by decide +kernel
theorem dX5_readStatement_66 : decode cX5_readStatement 66 = .ok (.aload_n 0, 1) := by decide +kernel
theorem dX5_readStatement_67 : decode cX5_readStatement 67 = .ok (.aload_n 1, 1) := by decide +kernel
theorem dX5_readStatement_68 : decode cX5_readStatement 68 = .ok (.invokevirtual 66, 3) := by decide +kernel
theorem dX5_readStatement_71 : decode cX5_readStatement 71 = .ok (.ireturn, 1) := by decide +kernel
theorem dX5_readStatement_72 : decode cX5_readStatement 72 = .ok (.aload_n 0, 1) := by decide +kernel
theorem dX5_readStatement_73 : decode cX5_readStatement 73 = .ok (.aload_n 1, 1) := by decide +kernel
theorem dX5_readStatement_74 : decode cX5_readStatement 74 = .ok (.invokevirtual 69, 3) := by decide +kernel
theorem dX5_readStatement_77 : decode cX5_readStatement 77 = .ok (.ireturn, 1) := by decide +kernel
theorem dX5_readStatement_78 : decode cX5_readStatement 78 = .ok (.aload_n 0, 1) := by decide +kernel
theorem dX5_readStatement_79 : decode cX5_readStatement 79 = .ok (.dup, 1) := by decide +kernel
theorem dX5_readStatement_80 : decode cX5_readStatement 80 = .ok (.getfield 29, 3) := by decide +kernel
theorem dX5_readStatement_83 : decode cX5_readStatement 83 = .ok (.iconst 1, 1) := by decide +kernel
theorem dX5_readStatement_84 : decode cX5_readStatement 84 = .ok (.iadd, 1) := by decide +kernel
theorem dX5_readStatement_85 : decode cX5_readStatement 85 = .ok (.putfield 29, 3) := by decide +kernel
theorem dX5_readStatement_88 : decode cX5_readStatement 88 = .ok (.aload_n 0, 1) := by decide +kernel
theorem dX5_readStatement_89 : decode cX5_readStatement 89 = .ok (.aload_n 1, 1) := by decide +kernel
theorem dX5_readStatement_90 : decode cX5_readStatement 90 = .ok (.iload_n 2, 1) := by decide +kernel
theorem dX5_readStatement_91 : decode cX5_readStatement 91 = .ok (.invokevirtual 72, 3) := by decide +kernel
theorem dX5_readStatement_94 : decode cX5_readStatement 94 = .ok (.ireturn, 1) := by decide +kernel
theorem dX5_readStatement_95 : decode cX5_readStatement 95 = .ok (.aload_n 0, 1) := by decide +kernel
theorem dX5_readStatement_96 : decode cX5_readStatement 96 = .ok (.iconst 1, 1) := by decide +kernel
theorem dX5_readStatement_97 : decode cX5_readStatement 97 = .ok (.invokevirtual 56, 3) := by decide +kernel
theorem dX5_readStatement_100 : decode cX5_readStatement 100 = .ok (.ireturn, 1) := by decide +kernel
theorem dX5_readSetting_0 : decode cX5_readSetting 0 = .ok (.iconst 1, 1) := by decide +kernel
theorem dX5_readSetting_1 : decode cX5_readSetting 1 = .ok (.istore_n 3, 1) := by decide +kernel
theorem dX5_readSetting_2 : decode cX5_readSetting 2 = .ok (.iload_n 2, 1) := by decide +kernel
theorem dX5_readSetting_3 : decode cX5_readSetting 3 = .ok (.bipush 8, 2) := by decide +kernel
theorem dX5_readSetting_5 : decode cX5_readSetting 5 = .ok (.if_icmp .ne 37, 3) := by decide +kernel
theorem dX5_readSetting_8 : decode cX5_readSetting 8 = .ok (.aload_n 0, 1) := by decide +kernel
theorem dX5_readSetting_9 : decode cX5_readSetting 9 = .ok (.bipush 100, 2) := by decide +kernel
theorem dX5_readSetting_11 : decode cX5_readSetting 11 = .ok (.sipush 1000, 3) := by decide +kernel
theorem dX5_readSetting_14 : decode cX5_readSetting 14 = .ok (.invokevirtual 76, 3) := by decide +kernel
theorem dX5_readSetting_17 : decode cX5_readSetting 17 = .ok (.istore_n 3, 1) := by decide +kernel
theorem dX5_readSetting_18 : decode cX5_readSetting 18 = .ok (.aload_n 1, 1) := by decide +kernel
theorem dX5_readSetting_19 : decode cX5_readSetting 19 = .ok (.iload_n 3, 1) := by decide +kernel
theorem dX5_readSetting_20 : decode cX5_readSetting 20 = .ok (.ifCond .eq 12, 3) := by decide +kernel
theorem dX5_readSetting_23 : decode cX5_readSetting 23 = .ok (.aload_n 0, 1) := by decide +kernel
theorem dX5_readSetting_24 : decode cX5_readSetting 24 = .ok (.getfield 22, 3) := by decide +kernel
theorem dX5_readSetting_27 : decode cX5_readSetting 27 = .ok (.iconst 0, 1) := by decide +kernel
theorem dX5_readSetting_28 : decode cX5_readSetting 28 = .ok (.iaload, 1) := by decide +kernel
theorem dX5_readSetting_29 : decode cX5_readSetting 29 = .ok (.goto 7, 3) := by decide +kernel
theorem dX5_readSetting_32 : decode cX5_readSetting 32 = .ok (.aload_n 1, 1) := by decide +kernel
theorem dX5_readSetting_33 : decode cX5_readSetting 33 = .ok (.getfield 80, 3) := by decide +kernel
theorem dX5_readSetting_36 : decode cX5_readSetting 36 = .ok (.putfield 80, 3) := by decide +kernel
theorem dX5_readSetting_39 : decode cX5_readSetting 39 = .ok (.goto 85, 3) := by decide +kernel
theorem dX5_readSetting_42 : decode cX5_readSetting 42 = .ok (.iload_n 2, 1) := by decide +kernel
theorem dX5_readSetting_43 : decode cX5_readSetting 43 = .ok (.bipush 9, 2) := by decide +kernel
theorem dX5_readSetting_45 : decode cX5_readSetting 45 = .ok (.if_icmp .ne 36, 3) := by decide +kernel
theorem dX5_readSetting_48 : decode cX5_readSetting 48 = .ok (.aload_n 0, 1) := by decide +kernel
theorem dX5_readSetting_49 : decode cX5_readSetting 49 = .ok (.bipush (-90), 2) := by decide +kernel
theorem dX5_readSetting_51 : decode cX5_readSetting 51 = .ok (.bipush 90, 2) := by decide +kernel
theorem dX5_readSetting_53 : decode cX5_readSetting 53 = .ok (.invokevirtual 83, 3) := by decide +kernel
theorem dX5_readSetting_56 : decode cX5_readSetting 56 = .ok (.istore_n 3, 1) := by decide +kernel
theorem dX5_readSetting_57 : decode cX5_readSetting 57 = .ok (.aload_n 1, 1) := by decide +kernel
theorem dX5_readSetting_58 : decode cX5_readSetting 58 = .ok (.iload_n 3, 1) := by decide +kernel
theorem dX5_readSetting_59 : decode cX5_readSetting 59 = .ok (.ifCond .eq 12, 3) := by decide +kernel
theorem dX5_readSetting_62 : decode cX5_readSetting 62 = .ok (.aload_n 0, 1) := by decide +kernel
theorem dX5_readSetting_63 : decode cX5_readSetting 63 = .ok (.getfield 22, 3) := by decide +kernel
theorem dX5_readSetting_66 : decode cX5_readSetting 66 = .ok (.iconst 0, 1) := by decide +kernel
theorem dX5_readSetting_67 : decode cX5_readSetting 67 = .ok (.iaload, 1) := by decide +kernel
theorem dX5_readSetting_68 : decode cX5_readSetting 68 = .ok (.goto 7, 3) := by decide +kernel
theorem dX5_readSetting_71 : decode cX5_readSetting 71 = .ok (.aload_n 1, 1) := by decide +kernel
theorem dX5_readSetting_72 : decode cX5_readSetting 72 = .ok (.getfield 86, 3) := by decide +kernel
theorem dX5_readSetting_75 : decode cX5_readSetting 75 = .ok (.putfield 86, 3) := by decide +kernel
theorem dX5_readSetting_78 : decode cX5_readSetting 78 = .ok (.goto 46, 3) := by decide +kernel
theorem dX5_readSetting_81 : decode cX5_readSetting 81 = .ok (.iload_n 2, 1) := by decide +kernel
theorem dX5_readSetting_82 : decode cX5_readSetting 82 = .ok (.bipush 10, 2) := by decide +kernel
theorem dX5_readSetting_84 : decode cX5_readSetting 84 = .ok (.if_icmp .ne 35, 3) := by decide +kernel
theorem dX5_readSetting_87 : decode cX5_readSetting 87 = .ok (.aload_n 0, 1) := by decide +kernel
theorem dX5_readSetting_88 : decode cX5_readSetting 88 = .ok (.iconst 0, 1) := by decide +kernel
theorem dX5_readSetting_89 : decode cX5_readSetting 89 = .ok (.bipush 99, 2) := by decide +kernel
theorem dX5_readSetting_91 : decode cX5_readSetting 91 = .ok (.invokevirtual 76, 3) := by decide +kernel
theorem dX5_readSetting_94 : decode cX5_readSetting 94 = .ok (.istore_n 3, 1) := by decide +kernel
theorem dX5_readSetting_95 : decode cX5_readSetting 95 = .ok (.aload_n 1, 1) := by decide +kernel
theorem dX5_readSetting_96 : decode cX5_readSetting 96 = .ok (.iload_n 3, 1) := by decide +kernel
theorem dX5_readSetting_97 : decode cX5_readSetting 97 = .ok (.ifCond .eq 12, 3) := by decide +kernel
theorem dX5_readSetting_100 : decode cX5_readSetting 100 = .ok (.aload_n 0, 1) := by decide +kernel
theorem dX5_readSetting_101 : decode cX5_readSetting 101 = .ok (.getfield 22, 3) := by decide +kernel
theorem dX5_readSetting_104 : decode cX5_readSetting 104 = .ok (.iconst 0, 1) := by decide +kernel
theorem dX5_readSetting_105 : decode cX5_readSetting 105 = .ok (.iaload, 1) := by decide +kernel
theorem dX5_readSetting_106 : decode cX5_readSetting 106 = .ok (.goto 7, 3) := by decide +kernel
theorem dX5_readSetting_109 : decode cX5_readSetting 109 = .ok (.aload_n 1, 1) := by decide +kernel
theorem dX5_readSetting_110 : decode cX5_readSetting 110 = .ok (.getfield 89, 3) := by decide +kernel
theorem dX5_readSetting_113 : decode cX5_readSetting 113 = .ok (.putfield 89, 3) := by decide +kernel
theorem dX5_readSetting_116 : decode cX5_readSetting 116 = .ok (.goto 8, 3) := by decide +kernel
theorem dX5_readSetting_119 : decode cX5_readSetting 119 = .ok (.aload_n 1, 1) := by decide +kernel
theorem dX5_readSetting_120 : decode cX5_readSetting 120 = .ok (.iconst 1, 1) := by decide +kernel
theorem dX5_readSetting_121 : decode cX5_readSetting 121 = .ok (.putfield 92, 3) := by decide +kernel
theorem dX5_readSetting_124 : decode cX5_readSetting 124 = .ok (.iload_n 3, 1) := by decide +kernel
theorem dX5_readSetting_125 : decode cX5_readSetting 125 = .ok (.ireturn, 1) := by decide +kernel
theorem dX5_readMicrophone_0 : decode cX5_readMicrophone 0 = .ok (.aload_n 0, 1) := by decide +kernel
theorem dX5_readMicrophone_1 : decode cX5_readMicrophone 1 = .ok (.aload_n 1, 1) := by decide +kernel
theorem dX5_readMicrophone_2 : decode cX5_readMicrophone 2 = .ok (.getfield 96, 3) := by decide +kernel
theorem dX5_readMicrophone_5 : decode cX5_readMicrophone 5 = .ok (.bipush 8, 2) := by decide +kernel
theorem dX5_readMicrophone_7 : decode cX5_readMicrophone 7 = .ok (.invokevirtual 99, 3) := by decide +kernel
theorem dX5_readMicrophone_10 : decode cX5_readMicrophone 10 = .ok (.ifCond .eq 52, 3) := by decide +kernel
theorem dX5_readMicrophone_13 : decode cX5_readMicrophone 13 = .ok (.aload_n 0, 1) := by decide +kernel
theorem dX5_readMicrophone_14 : decode cX5_readMicrophone 14 = .ok (.sipush (-5000), 3) := by decide +kernel
theorem dX5_readMicrophone_17 : decode cX5_readMicrophone 17 = .ok (.sipush 5000, 3) := by decide +kernel
theorem dX5_readMicrophone_20 : decode cX5_readMicrophone 20 = .ok (.invokevirtual 83, 3) := by decide +kernel
theorem dX5_readMicrophone_23 : decode cX5_readMicrophone 23 = .ok (.ifCond .eq 39, 3) := by decide +kernel
theorem dX5_readMicrophone_26 : decode cX5_readMicrophone 26 = .ok (.aload_n 0, 1) := by decide +kernel
theorem dX5_readMicrophone_27 : decode cX5_readMicrophone 27 = .ok (.bipush (-100), 2) := by decide +kernel
theorem dX5_readMicrophone_29 : decode cX5_readMicrophone 29 = .ok (.bipush 99, 2) := by decide +kernel
theorem dX5_readMicrophone_31 : decode cX5_readMicrophone 31 = .ok (.invokevirtual 83, 3) := by decide +kernel
theorem dX5_readMicrophone_34 : decode cX5_readMicrophone 34 = .ok (.ifCond .eq 28, 3) := by decide +kernel
theorem dX5_readMicrophone_37 : decode cX5_readMicrophone 37 = .ok (.aload_n 0, 1) := by decide +kernel
theorem dX5_readMicrophone_38 : decode cX5_readMicrophone 38 = .ok (.iconst 0, 1) := by decide +kernel
theorem dX5_readMicrophone_39 : decode cX5_readMicrophone 39 = .ok (.sipush 500, 3) := by decide +kernel
theorem dX5_readMicrophone_42 : decode cX5_readMicrophone 42 = .ok (.invokevirtual 76, 3) := by decide +kernel
theorem dX5_readMicrophone_45 : decode cX5_readMicrophone 45 = .ok (.ifCond .eq 17, 3) := by decide +kernel
theorem dX5_readMicrophone_48 : decode cX5_readMicrophone 48 = .ok (.aload_n 0, 1) := by decide +kernel
theorem dX5_readMicrophone_49 : decode cX5_readMicrophone 49 = .ok (.iconst 0, 1) := by decide +kernel
theorem dX5_readMicrophone_50 : decode cX5_readMicrophone 50 = .ok (.bipush 9, 2) := by decide +kernel
theorem dX5_readMicrophone_52 : decode cX5_readMicrophone 52 = .ok (.invokevirtual 76, 3) := by decide +kernel
theorem dX5_readMicrophone_55 : decode cX5_readMicrophone 55 = .ok (.ifCond .eq 7, 3) := by decide +kernel
theorem dX5_readMicrophone_58 : decode cX5_readMicrophone 58 = .ok (.iconst 1, 1) := by decide +kernel
theorem dX5_readMicrophone_59 : decode cX5_readMicrophone 59 = .ok (.goto 4, 3) := by decide +kernel
theorem dX5_readMicrophone_62 : decode cX5_readMicrophone 62 = .ok (.iconst 0, 1) := by decide +kernel
theorem dX5_readMicrophone_63 : decode cX5_readMicrophone 63 = .ok (.istore_n 2, 1) := by decide +kernel
theorem dX5_readMicrophone_64 : decode cX5_readMicrophone 64 = .ok (.iload_n 2, 1) := by decide +kernel
theorem dX5_readMicrophone_65 : decode cX5_readMicrophone 65 = .ok (.ifCond .eq 32, 3) := by decide +kernel
theorem dX5_readMicrophone_68 : decode cX5_readMicrophone 68 = .ok (.aload_n 1, 1) := by decide +kernel
theorem dX5_readMicrophone_69 : decode cX5_readMicrophone 69 = .ok (.aload_n 0, 1) := by decide +kernel
theorem dX5_readMicrophone_70 : decode cX5_readMicrophone 70 = .ok (.getfield 22, 3) := by decide +kernel
theorem dX5_readMicrophone_73 : decode cX5_readMicrophone 73 = .ok (.iconst 0, 1) := by decide +kernel
theorem dX5_readMicrophone_74 : decode cX5_readMicrophone 74 = .ok (.iaload, 1) := by decide +kernel
theorem dX5_readMicrophone_75 : decode cX5_readMicrophone 75 = .ok (.aload_n 0, 1) := by decide +kernel
theorem dX5_readMicrophone_76 : decode cX5_readMicrophone 76 = .ok (.getfield 22, 3) := by decide +kernel
theorem dX5_readMicrophone_79 : decode cX5_readMicrophone 79 = .ok (.iconst 1, 1) := by decide +kernel
theorem dX5_readMicrophone_80 : decode cX5_readMicrophone 80 = .ok (.iaload, 1) := by decide +kernel
theorem dX5_readMicrophone_81 : decode cX5_readMicrophone 81 = .ok (.aload_n 0, 1) := by decide +kernel
theorem dX5_readMicrophone_82 : decode cX5_readMicrophone 82 = .ok (.getfield 22, 3) := by decide +kernel
theorem dX5_readMicrophone_85 : decode cX5_readMicrophone 85 = .ok (.iconst 2, 1) := by decide +kernel
theorem dX5_readMicrophone_86 : decode cX5_readMicrophone 86 = .ok (.iaload, 1) := by decide +kernel
theorem dX5_readMicrophone_87 : decode cX5_readMicrophone 87 = .ok (.aload_n 0, 1) := by decide +kernel
theorem dX5_readMicrophone_88 : decode cX5_readMicrophone 88 = .ok (.getfield 22, 3) := by decide +kernel
theorem dX5_readMicrophone_91 : decode cX5_readMicrophone 91 = .ok (.iconst 3, 1) := by decide +kernel
theorem dX5_readMicrophone_92 : decode cX5_readMicrophone 92 = .ok (.iaload, 1) := by decide +kernel
theorem dX5_readMicrophone_93 : decode cX5_readMicrophone 93 = .ok (.invokevirtual 102, 3) := by decide +kernel
theorem dX5_readMicrophone_96 : decode cX5_readMicrophone 96 = .ok (.pop, 1) := by decide +kernel
theorem dX5_readMicrophone_97 : decode cX5_readMicrophone 97 = .ok (.iload_n 2, 1) := by decide +kernel
theorem dX5_readMicrophone_98 : decode cX5_readMicrophone 98 = .ok (.ireturn, 1) := by decide +kernel
theorem dX5_readVehicle_0 : decode cX5_readVehicle 0 = .ok (.aload_n 0, 1) := by decide +kernel
theorem dX5_readVehicle_1 : decode cX5_readVehicle 1 = .ok (.aload_n 1, 1) := by decide +kernel
theorem dX5_readVehicle_2 : decode cX5_readVehicle 2 = .ok (.getfield 106, 3) := by decide +kernel
theorem dX5_readVehicle_5 : decode cX5_readVehicle 5 = .ok (.iconst 4, 1) := by decide +kernel
theorem dX5_readVehicle_6 : decode cX5_readVehicle 6 = .ok (.invokevirtual 99, 3) := by decide +kernel
theorem dX5_readVehicle_9 : decode cX5_readVehicle 9 = .ok (.ifCond .eq 43, 3) := by decide +kernel
theorem dX5_readVehicle_12 : decode cX5_readVehicle 12 = .ok (.aload_n 0, 1) := by decide +kernel
theorem dX5_readVehicle_13 : decode cX5_readVehicle 13 = .ok (.sipush (-20000), 3) := by decide +kernel
theorem dX5_readVehicle_16 : decode cX5_readVehicle 16 = .ok (.sipush 20000, 3) := by decide +kernel
theorem dX5_readVehicle_19 : decode cX5_readVehicle 19 = .ok (.invokevirtual 83, 3) := by decide +kernel
theorem dX5_readVehicle_22 : decode cX5_readVehicle 22 = .ok (.ifCond .eq 30, 3) := by decide +kernel
theorem dX5_readVehicle_25 : decode cX5_readVehicle 25 = .ok (.aload_n 0, 1) := by decide +kernel
theorem dX5_readVehicle_26 : decode cX5_readVehicle 26 = .ok (.bipush (-50), 2) := by decide +kernel
theorem dX5_readVehicle_28 : decode cX5_readVehicle 28 = .ok (.bipush 50, 2) := by decide +kernel
theorem dX5_readVehicle_30 : decode cX5_readVehicle 30 = .ok (.invokevirtual 83, 3) := by decide +kernel
theorem dX5_readVehicle_33 : decode cX5_readVehicle 33 = .ok (.ifCond .eq 19, 3) := by decide +kernel
theorem dX5_readVehicle_36 : decode cX5_readVehicle 36 = .ok (.aload_n 0, 1) := by decide +kernel
theorem dX5_readVehicle_37 : decode cX5_readVehicle 37 = .ok (.bipush 100, 2) := by decide +kernel
theorem dX5_readVehicle_39 : decode cX5_readVehicle 39 = .ok (.sipush 5000, 3) := by decide +kernel
theorem dX5_readVehicle_42 : decode cX5_readVehicle 42 = .ok (.invokevirtual 83, 3) := by decide +kernel
theorem dX5_readVehicle_45 : decode cX5_readVehicle 45 = .ok (.ifCond .eq 7, 3) := by decide +kernel
theorem dX5_readVehicle_48 : decode cX5_readVehicle 48 = .ok (.iconst 1, 1) := by decide +kernel
theorem dX5_readVehicle_49 : decode cX5_readVehicle 49 = .ok (.goto 4, 3) := by decide +kernel
theorem dX5_readVehicle_52 : decode cX5_readVehicle 52 = .ok (.iconst 0, 1) := by decide +kernel
theorem dX5_readVehicle_53 : decode cX5_readVehicle 53 = .ok (.istore_n 2, 1) := by decide +kernel
theorem dX5_readVehicle_54 : decode cX5_readVehicle 54 = .ok (.iload_n 2, 1) := by decide +kernel
theorem dX5_readVehicle_55 : decode cX5_readVehicle 55 = .ok (.ifCond .eq 26, 3) := by decide +kernel
theorem dX5_readVehicle_58 : decode cX5_readVehicle 58 = .ok (.aload_n 1, 1) := by decide +kernel
theorem dX5_readVehicle_59 : decode cX5_readVehicle 59 = .ok (.aload_n 0, 1) := by decide +kernel
theorem dX5_readVehicle_60 : decode cX5_readVehicle 60 = .ok (.getfield 22, 3) := by decide +kernel
theorem dX5_readVehicle_63 : decode cX5_readVehicle 63 = .ok (.iconst 0, 1) := by decide +kernel
theorem dX5_readVehicle_64 : decode cX5_readVehicle 64 = .ok (.iaload, 1) := by decide +kernel
theorem dX5_readVehicle_65 : decode cX5_readVehicle 65 = .ok (.aload_n 0, 1) := by decide +kernel
theorem dX5_readVehicle_66 : decode cX5_readVehicle 66 = .ok (.getfield 22, 3) := by decide +kernel
theorem dX5_readVehicle_69 : decode cX5_readVehicle 69 = .ok (.iconst 1, 1) := by decide +kernel
theorem dX5_readVehicle_70 : decode cX5_readVehicle 70 = .ok (.iaload, 1) := by decide +kernel
theorem dX5_readVehicle_71 : decode cX5_readVehicle 71 = .ok (.aload_n 0, 1) := by decide +kernel
theorem dX5_readVehicle_72 : decode cX5_readVehicle 72 = .ok (.getfield 22, 3) := by decide +kernel
theorem dX5_readVehicle_75 : decode cX5_readVehicle 75 = .ok (.iconst 2, 1) := by decide +kernel
theorem dX5_readVehicle_76 : decode cX5_readVehicle 76 = .ok (.iaload, 1) := by decide +kernel
theorem dX5_readVehicle_77 : decode cX5_readVehicle 77 = .ok (.invokevirtual 109, 3) := by decide +kernel
theorem dX5_readVehicle_80 : decode cX5_readVehicle 80 = .ok (.pop, 1) := by decide +kernel
theorem dX5_readVehicle_81 : decode cX5_readVehicle 81 = .ok (.iload_n 2, 1) := by decide +kernel
theorem dX5_readVehicle_82 : decode cX5_readVehicle 82 = .ok (.ireturn, 1) := by decide +kernel
theorem dX5_readSource_0 : decode cX5_readSource 0 = .ok (.aload_n 0, 1) := by decide +kernel
theorem dX5_readSource_1 : decode cX5_readSource 1 = .ok (.aload_n 1, 1) := by decide +kernel
theorem dX5_readSource_2 : decode cX5_readSource 2 = .ok (.getfield 113, 3) := by decide +kernel
theorem dX5_readSource_5 : decode cX5_readSource 5 = .ok (.bipush 6, 2) := by decide +kernel
theorem dX5_readSource_7 : decode cX5_readSource 7 = .ok (.invokevirtual 99, 3) := by decide +kernel
theorem dX5_readSource_10 : decode cX5_readSource 10 = .ok (.ifCond .eq 66, 3) := by decide +kernel
theorem dX5_readSource_13 : decode cX5_readSource 13 = .ok (.aload_n 0, 1) := by decide +kernel
theorem dX5_readSource_14 : decode cX5_readSource 14 = .ok (.iconst 0, 1) := by decide +kernel
theorem dX5_readSource_15 : decode cX5_readSource 15 = .ok (.aload_n 1, 1) := by decide +kernel
theorem dX5_readSource_16 : decode cX5_readSource 16 = .ok (.getfield 106, 3) := by decide +kernel
theorem dX5_readSource_19 : decode cX5_readSource 19 = .ok (.iconst 1, 1) := by decide +kernel
theorem dX5_readSource_20 : decode cX5_readSource 20 = .ok (.isub, 1) := by decide +kernel
theorem dX5_readSource_21 : decode cX5_readSource 21 = .ok (.invokevirtual 76, 3) := by decide +kernel
theorem dX5_readSource_24 : decode cX5_readSource 24 = .ok (.ifCond .eq 52, 3) := by decide +kernel
theorem dX5_readSource_27 : decode cX5_readSource 27 = .ok (.aload_n 0, 1) := by decide +kernel
theorem dX5_readSource_28 : decode cX5_readSource 28 = .ok (.sipush (-1000), 3) := by decide +kernel
theorem dX5_readSource_31 : decode cX5_readSource 31 = .ok (.sipush 1000, 3) := by decide +kernel
theorem dX5_readSource_34 : decode cX5_readSource 34 = .ok (.invokevirtual 83, 3) := by decide +kernel
theorem dX5_readSource_37 : decode cX5_readSource 37 = .ok (.ifCond .eq 39, 3) := by decide +kernel
theorem dX5_readSource_40 : decode cX5_readSource 40 = .ok (.aload_n 0, 1) := by decide +kernel
theorem dX5_readSource_41 : decode cX5_readSource 41 = .ok (.iconst 0, 1) := by decide +kernel
theorem dX5_readSource_42 : decode cX5_readSource 42 = .ok (.sipush 500, 3) := by decide +kernel
theorem dX5_readSource_45 : decode cX5_readSource 45 = .ok (.invokevirtual 76, 3) := by decide +kernel
theorem dX5_readSource_48 : decode cX5_readSource 48 = .ok (.ifCond .eq 28, 3) := by decide +kernel
theorem dX5_readSource_51 : decode cX5_readSource 51 = .ok (.aload_n 0, 1) := by decide +kernel
theorem dX5_readSource_52 : decode cX5_readSource 52 = .ok (.iconst 1, 1) := by decide +kernel
theorem dX5_readSource_53 : decode cX5_readSource 53 = .ok (.bipush 10, 2) := by decide +kernel
theorem dX5_readSource_55 : decode cX5_readSource 55 = .ok (.invokevirtual 76, 3) := by decide +kernel
theorem dX5_readSource_58 : decode cX5_readSource 58 = .ok (.ifCond .eq 18, 3) := by decide +kernel
theorem dX5_readSource_61 : decode cX5_readSource 61 = .ok (.aload_n 0, 1) := by decide +kernel
theorem dX5_readSource_62 : decode cX5_readSource 62 = .ok (.bipush (-99), 2) := by decide +kernel
theorem dX5_readSource_64 : decode cX5_readSource 64 = .ok (.bipush 99, 2) := by decide +kernel
theorem dX5_readSource_66 : decode cX5_readSource 66 = .ok (.invokevirtual 83, 3) := by decide +kernel
theorem dX5_readSource_69 : decode cX5_readSource 69 = .ok (.ifCond .eq 7, 3) := by decide +kernel
theorem dX5_readSource_72 : decode cX5_readSource 72 = .ok (.iconst 1, 1) := by decide +kernel
theorem dX5_readSource_73 : decode cX5_readSource 73 = .ok (.goto 4, 3) := by decide +kernel
theorem dX5_readSource_76 : decode cX5_readSource 76 = .ok (.iconst 0, 1) := by decide +kernel
theorem dX5_readSource_77 : decode cX5_readSource 77 = .ok (.istore_n 2, 1) := by decide +kernel
theorem dX5_readSource_78 : decode cX5_readSource 78 = .ok (.iconst 1, 1) := by decide +kernel
theorem dX5_readSource_79 : decode cX5_readSource 79 = .ok (.istore_n 3, 1) := by decide +kernel
theorem dX5_readSource_80 : decode cX5_readSource 80 = .ok (.iload_n 2, 1) := by decide +kernel
theorem dX5_readSource_81 : decode cX5_readSource 81 = .ok (.ifCond .eq 31, 3) := by decide +kernel
theorem dX5_readSource_84 : decode cX5_readSource 84 = .ok (.iload_n 3, 1) := by decide +kernel
theorem dX5_readSource_85 : decode cX5_readSource 85 = .ok (.bipush 16, 2) := by decide +kernel
theorem dX5_readSource_87 : decode cX5_readSource 87 = .ok (.if_icmp .ge 25, 3) := by decide +kernel
theorem dX5_readSource_90 : decode cX5_readSource 90 = .ok (.aload_n 0, 1) := by decide +kernel
theorem dX5_readSource_91 : decode cX5_readSource 91 = .ok (.invokevirtual 116, 3) := by decide +kernel
theorem dX5_readSource_94 : decode cX5_readSource 94 = .ok (.ifCond .eq 18, 3) := by decide +kernel
theorem dX5_readSource_97 : decode cX5_readSource 97 = .ok (.aload_n 0, 1) := by decide +kernel
theorem dX5_readSource_98 : decode cX5_readSource 98 = .ok (.bipush (-99), 2) := by decide +kernel
theorem dX5_readSource_100 : decode cX5_readSource 100 = .ok (.bipush 99, 2) := by decide +kernel
theorem dX5_readSource_102 : decode cX5_readSource 102 = .ok (.invokevirtual 83, 3) := by decide +kernel
theorem dX5_readSource_105 : decode cX5_readSource 105 = .ok (.istore_n 2, 1) := by decide +kernel
theorem dX5_readSource_106 : decode cX5_readSource 106 = .ok (.iinc 3 1, 3) := by decide +kernel
theorem dX5_readSource_109 : decode cX5_readSource 109 = .ok (.goto (-29), 3) := by decide +kernel
theorem dX5_readSource_112 : decode cX5_readSource 112 = .ok (.iload_n 2, 1) := by decide +kernel
theorem dX5_readSource_113 : decode cX5_readSource 113 = .ok (.ifCond .eq 43, 3) := by decide +kernel
theorem dX5_readSource_116 : decode cX5_readSource 116 = .ok (.aload_n 1, 1) := by decide +kernel
theorem dX5_readSource_117 : decode cX5_readSource 117 = .ok (.aload_n 0, 1) := by decide +kernel
theorem dX5_readSource_118 : decode cX5_readSource 118 = .ok (.getfield 22, 3) := by decide +kernel
theorem dX5_readSource_121 : decode cX5_readSource 121 = .ok (.iconst 0, 1) := by decide +kernel
theorem dX5_readSource_122 : decode cX5_readSource 122 = .ok (.iaload, 1) := by decide +kernel
theorem dX5_readSource_123 : decode cX5_readSource 123 = .ok (.aload_n 0, 1) := by decide +kernel
theorem dX5_readSource_124 : decode cX5_readSource 124 = .ok (.getfield 22, 3) := by decide +kernel
theorem dX5_readSource_127 : decode cX5_readSource 127 = .ok (.iconst 1, 1) := by decide +kernel
theorem dX5_readSource_128 : decode cX5_readSource 128 = .ok (.iaload, 1) := by decide +kernel
theorem dX5_readSource_129 : decode cX5_readSource 129 = .ok (.aload_n 0, 1) := by decide +kernel
theorem dX5_readSource_130 : decode cX5_readSource 130 = .ok (.getfield 22, 3) := by decide +kernel
theorem dX5_readSource_133 : decode cX5_readSource 133 = .ok (.iconst 2, 1) := by decide +kernel
theorem dX5_readSource_134 : decode cX5_readSource 134 = .ok (.iaload, 1) := by decide +kernel
theorem dX5_readSource_135 : decode cX5_readSource 135 = .ok (.aload_n 0, 1) := by decide +kernel
theorem dX5_readSource_136 : decode cX5_readSource 136 = .ok (.getfield 22, 3) := by decide +kernel
theorem dX5_readSource_139 : decode cX5_readSource 139 = .ok (.iconst 3, 1) := by decide +kernel
theorem dX5_readSource_140 : decode cX5_readSource 140 = .ok (.iaload, 1) := by decide +kernel
theorem dX5_readSource_141 : decode cX5_readSource 141 = .ok (.aload_n 0, 1) := by decide +kernel
theorem dX5_readSource_142 : decode cX5_readSource 142 = .ok (.getfield 22, 3) := by decide +kernel
theorem dX5_readSource_145 : decode cX5_readSource 145 = .ok (.iconst 4, 1) := by decide +kernel
theorem dX5_readSource_146 : decode cX5_readSource 146 = .ok (.iaload, 1) := by decide +kernel
theorem dX5_readSource_147 : decode cX5_readSource 147 = .ok (.invokevirtual 119, 3) := by decide +kernel
theorem dX5_readSource_150 : decode cX5_readSource 150 = .ok (.pop, 1) := by decide +kernel
theorem dX5_readSource_151 : decode cX5_readSource 151 = .ok (.aload_n 0, 1) := by decide +kernel
theorem dX5_readSource_152 : decode cX5_readSource 152 = .ok (.aload_n 1, 1) := by decide +kernel
theorem dX5_readSource_153 : decode cX5_readSource 153 = .ok (.invokevirtual 123, 3) := by decide +kernel
theorem dX5_readSource_156 : decode cX5_readSource 156 = .ok (.iload_n 2, 1) := by decide +kernel
theorem dX5_readSource_157 : decode cX5_readSource 157 = .ok (.ireturn, 1) := by decide +kernel
theorem dX5_putMoreValues_0 : decode cX5_putMoreValues 0 = .ok (.aload_n 1, 1) := by decide +kernel
theorem dX5_putMoreValues_1 : decode cX5_putMoreValues 1 = .ok (.getfield 113, 3) := by decide +kernel
theorem dX5_putMoreValues_4 : decode cX5_putMoreValues 4 = .ok (.iconst 1, 1) := by decide +kernel
theorem dX5_putMoreValues_5 : decode cX5_putMoreValues 5 = .ok (.isub, 1) := by decide +kernel
theorem dX5_putMoreValues_6 : decode cX5_putMoreValues 6 = .ok (.istore_n 2, 1) := by decide +kernel
theorem dX5_putMoreValues_7 : decode cX5_putMoreValues 7 = .ok (.iload_n 2, 1) := by decide +kernel
theorem dX5_putMoreValues_8 : decode cX5_putMoreValues 8 = .ok (.ifCond .lt 9, 3) := by decide +kernel
theorem dX5_putMoreValues_11 : decode cX5_putMoreValues 11 = .ok (.iload_n 2, 1) := by decide +kernel
theorem dX5_putMoreValues_12 : decode cX5_putMoreValues 12 = .ok (.bipush 6, 2) := by decide +kernel
theorem dX5_putMoreValues_14 : decode cX5_putMoreValues 14 = .ok (.if_icmp .lt 4, 3) := by decide +kernel
theorem dX5_putMoreValues_17 : decode cX5_putMoreValues 17 = .ok (.return_, 1) := by decide +kernel
theorem dX5_putMoreValues_18 : decode cX5_putMoreValues 18 = .ok (.iconst 5, 1) := by decide +kernel
theorem dX5_putMoreValues_19 : decode cX5_putMoreValues 19 = .ok (.istore_n 3, 1) := by decide +kernel
theorem dX5_putMoreValues_20 : decode cX5_putMoreValues 20 = .ok (.iload_n 3, 1) := by decide +kernel
theorem dX5_putMoreValues_21 : decode cX5_putMoreValues 21 = .ok (.aload_n 0, 1) := by decide +kernel
theorem dX5_putMoreValues_22 : decode cX5_putMoreValues 22 = .ok (.getfield 60, 3) := by decide +kernel
theorem dX5_putMoreValues_25 : decode cX5_putMoreValues 25 = .ok (.if_icmp .ge 27, 3) := by decide +kernel
theorem dX5_putMoreValues_28 : decode cX5_putMoreValues 28 = .ok (.aload_n 1, 1) := by decide +kernel
theorem dX5_putMoreValues_29 : decode cX5_putMoreValues 29 = .ok (.getfield 127, 3) := by decide +kernel
theorem dX5_putMoreValues_32 : decode cX5_putMoreValues 32 = .ok (.iload_n 2, 1) := by decide +kernel
theorem dX5_putMoreValues_33 : decode cX5_putMoreValues 33 = .ok (.aaload, 1) := by decide +kernel
theorem dX5_putMoreValues_34 : decode cX5_putMoreValues 34 = .ok (.aload_n 0, 1) := by decide +kernel
theorem dX5_putMoreValues_35 : decode cX5_putMoreValues 35 = .ok (.getfield 22, 3) := by decide +kernel
theorem dX5_putMoreValues_38 : decode cX5_putMoreValues 38 = .ok (.iload_n 3, 1) := by decide +kernel
theorem dX5_putMoreValues_39 : decode cX5_putMoreValues 39 = .ok (.invokestatic 131, 3) := by decide +kernel
theorem dX5_putMoreValues_42 : decode cX5_putMoreValues 42 = .ok (.invokevirtual 135, 3) := by decide +kernel
theorem dX5_putMoreValues_45 : decode cX5_putMoreValues 45 = .ok (.pop, 1) := by decide +kernel
theorem dX5_putMoreValues_46 : decode cX5_putMoreValues 46 = .ok (.iinc 3 1, 3) := by decide +kernel
theorem dX5_putMoreValues_49 : decode cX5_putMoreValues 49 = .ok (.goto (-29), 3) := by decide +kernel
theorem dX5_putMoreValues_52 : decode cX5_putMoreValues 52 = .ok (.return_, 1) := by decide +kernel
theorem dX5_isAtInteger_0 : decode cX5_isAtInteger 0 = .ok (.aload_n 0, 1) := by decide +kernel
theorem dX5_isAtInteger_1 : decode cX5_isAtInteger 1 = .ok (.getfield 18, 3) := by decide +kernel
theorem dX5_isAtInteger_4 : decode cX5_isAtInteger 4 = .ok (.aload_n 0, 1) := by decide +kernel
theorem dX5_isAtInteger_5 : decode cX5_isAtInteger 5 = .ok (.getfield 29, 3) := by decide +kernel
theorem dX5_isAtInteger_8 : decode cX5_isAtInteger 8 = .ok (.invokevirtual 41, 3) := by decide +kernel
theorem dX5_isAtInteger_11 : decode cX5_isAtInteger 11 = .ok (.istore_n 1, 1) := by decide +kernel
theorem dX5_isAtInteger_12 : decode cX5_isAtInteger 12 = .ok (.iload_n 1, 1) := by decide +kernel
theorem dX5_isAtInteger_13 : decode cX5_isAtInteger 13 = .ok (.iconst 4, 1) := by decide +kernel
theorem dX5_isAtInteger_14 : decode cX5_isAtInteger 14 = .ok (.if_icmp .eq 8, 3) := by decide +kernel
theorem dX5_isAtInteger_17 : decode cX5_isAtInteger 17 = .ok (.iload_n 1, 1) := by decide +kernel
theorem dX5_isAtInteger_18 : decode cX5_isAtInteger 18 = .ok (.iconst 3, 1) := by decide +kernel
theorem dX5_isAtInteger_19 : decode cX5_isAtInteger 19 = .ok (.if_icmp .ne 7, 3) := by decide +kernel
theorem dX5_isAtInteger_22 : decode cX5_isAtInteger 22 = .ok (.iconst 1, 1) := by decide +kernel
theorem dX5_isAtInteger_23 : decode cX5_isAtInteger 23 = .ok (.goto 4, 3) := by decide +kernel
theorem dX5_isAtInteger_26 : decode cX5_isAtInteger 26 = .ok (.iconst 0, 1) := by decide +kernel
theorem dX5_isAtInteger_27 : decode cX5_isAtInteger 27 = .ok (.ireturn, 1) := by decide +kernel
theorem dX5_readWord_0 : decode cX5_readWord 0 = .ok (.iload_n 1, 1) := by decide +kernel
theorem dX5_readWord_1 : decode cX5_readWord 1 = .ok (.iload_n 2, 1) := by decide +kernel
theorem dX5_readWord_2 : decode cX5_readWord 2 = .ok (.if_icmp .lt 9, 3) := by decide +kernel
theorem dX5_readWord_5 : decode cX5_readWord 5 = .ok (.aload_n 0, 1) := by decide +kernel
theorem dX5_readWord_6 : decode cX5_readWord 6 = .ok (.iconst 3, 1) := by decide +kernel
theorem dX5_readWord_7 : decode cX5_readWord 7 = .ok (.invokevirtual 56, 3) := by decide +kernel
theorem dX5_readWord_10 : decode cX5_readWord 10 = .ok (.ireturn, 1) := by decide +kernel
theorem dX5_readWord_11 : decode cX5_readWord 11 = .ok (.aload_n 0, 1) := by decide +kernel
theorem dX5_readWord_12 : decode cX5_readWord 12 = .ok (.dup, 1) := by decide +kernel
theorem dX5_readWord_13 : decode cX5_readWord 13 = .ok (.getfield 29, 3) := by decide +kernel
theorem dX5_readWord_16 : decode cX5_readWord 16 = .ok (.iconst 1, 1) := by decide +kernel
theorem dX5_readWord_17 : decode cX5_readWord 17 = .ok (.iadd, 1) := by decide +kernel
theorem dX5_readWord_18 : decode cX5_readWord 18 = .ok (.putfield 29, 3) := by decide +kernel
theorem dX5_readWord_21 : decode cX5_readWord 21 = .ok (.iconst 1, 1) := by decide +kernel
theorem dX5_readWord_22 : decode cX5_readWord 22 = .ok (.ireturn, 1) := by decide +kernel
theorem dX5_readInteger_0 : decode cX5_readInteger 0 = .ok (.aload_n 0, 1) := by decide +kernel
theorem dX5_readInteger_1 : decode cX5_readInteger 1 = .ok (.getfield 18, 3) := by decide +kernel
theorem dX5_readInteger_4 : decode cX5_readInteger 4 = .ok (.aload_n 0, 1) := by decide +kernel
theorem dX5_readInteger_5 : decode cX5_readInteger 5 = .ok (.getfield 29, 3) := by decide +kernel
theorem dX5_readInteger_8 : decode cX5_readInteger 8 = .ok (.invokevirtual 41, 3) := by decide +kernel
theorem dX5_readInteger_11 : decode cX5_readInteger 11 = .ok (.iconst 3, 1) := by decide +kernel
theorem dX5_readInteger_12 : decode cX5_readInteger 12 = .ok (.if_icmp .eq 21, 3) := by decide +kernel
theorem dX5_readInteger_15 : decode cX5_readInteger 15 = .ok (.aload_n 0, 1) := by decide +kernel
theorem dX5_readInteger_16 : decode cX5_readInteger 16 = .ok (.aload_n 0, 1) := by decide +kernel
theorem dX5_readInteger_17 : decode cX5_readInteger 17 = .ok (.getfield 18, 3) := by decide +kernel
theorem dX5_readInteger_20 : decode cX5_readInteger 20 = .ok (.aload_n 0, 1) := by decide +kernel
theorem dX5_readInteger_21 : decode cX5_readInteger 21 = .ok (.getfield 29, 3) := by decide +kernel
theorem dX5_readInteger_24 : decode cX5_readInteger 24 = .ok (.invokevirtual 140, 3) := by decide +kernel
theorem dX5_readInteger_27 : decode cX5_readInteger 27 = .ok (.iload_n 1, 1) := by decide +kernel
theorem dX5_readInteger_28 : decode cX5_readInteger 28 = .ok (.iload_n 2, 1) := by decide +kernel
theorem dX5_readInteger_29 : decode cX5_readInteger 29 = .ok (.invokevirtual 143, 3) := by decide +kernel
theorem dX5_readInteger_32 : decode cX5_readInteger 32 = .ok (.ireturn, 1) := by decide +kernel
theorem dX5_readInteger_33 : decode cX5_readInteger 33 = .ok (.aload_n 0, 1) := by decide +kernel
theorem dX5_readInteger_34 : decode cX5_readInteger 34 = .ok (.dup, 1) := by decide +kernel
theorem dX5_readInteger_35 : decode cX5_readInteger 35 = .ok (.getfield 29, 3) := by decide +kernel
theorem dX5_readInteger_38 : decode cX5_readInteger 38 = .ok (.iconst 1, 1) := by decide +kernel
theorem dX5_readInteger_39 : decode cX5_readInteger 39 = .ok (.iadd, 1) := by decide +kernel
theorem dX5_readInteger_40 : decode cX5_readInteger 40 = .ok (.putfield 29, 3) := by decide +kernel
theorem dX5_readInteger_43 : decode cX5_readInteger 43 = .ok (.aload_n 0, 1) := by decide +kernel
theorem dX5_readInteger_44 : decode cX5_readInteger 44 = .ok (.aload_n 0, 1) := by decide +kernel
theorem dX5_readInteger_45 : decode cX5_readInteger 45 = .ok (.getfield 18, 3) := by decide +kernel
theorem dX5_readInteger_48 : decode cX5_readInteger 48 = .ok (.aload_n 0, 1) := by decide +kernel
theorem dX5_readInteger_49 : decode cX5_readInteger 49 = .ok (.getfield 29, 3) := by decide +kernel
theorem dX5_readInteger_52 : decode cX5_readInteger 52 = .ok (.invokevirtual 140, 3) := by decide +kernel
theorem dX5_readInteger_55 : decode cX5_readInteger 55 = .ok (.ineg, 1) := by decide +kernel
theorem dX5_readInteger_56 : decode cX5_readInteger 56 = .ok (.iload_n 1, 1) := by decide +kernel
theorem dX5_readInteger_57 : decode cX5_readInteger 57 = .ok (.iload_n 2, 1) := by decide +kernel
theorem dX5_readInteger_58 : decode cX5_readInteger 58 = .ok (.invokevirtual 143, 3) := by decide +kernel
theorem dX5_readInteger_61 : decode cX5_readInteger 61 = .ok (.ireturn, 1) := by decide +kernel
theorem dX5_readNumber_0 : decode cX5_readNumber 0 = .ok (.aload_n 0, 1) := by decide +kernel
theorem dX5_readNumber_1 : decode cX5_readNumber 1 = .ok (.aload_n 0, 1) := by decide +kernel
theorem dX5_readNumber_2 : decode cX5_readNumber 2 = .ok (.getfield 18, 3) := by decide +kernel
theorem dX5_readNumber_5 : decode cX5_readNumber 5 = .ok (.aload_n 0, 1) := by decide +kernel
theorem dX5_readNumber_6 : decode cX5_readNumber 6 = .ok (.getfield 29, 3) := by decide +kernel
theorem dX5_readNumber_9 : decode cX5_readNumber 9 = .ok (.invokevirtual 140, 3) := by decide +kernel
theorem dX5_readNumber_12 : decode cX5_readNumber 12 = .ok (.iload_n 1, 1) := by decide +kernel
theorem dX5_readNumber_13 : decode cX5_readNumber 13 = .ok (.iload_n 2, 1) := by decide +kernel
theorem dX5_readNumber_14 : decode cX5_readNumber 14 = .ok (.invokevirtual 143, 3) := by decide +kernel
theorem dX5_readNumber_17 : decode cX5_readNumber 17 = .ok (.ireturn, 1) := by decide +kernel
theorem dX5_takeArgument_0 : decode cX5_takeArgument 0 = .ok (.aload_n 0, 1) := by decide +kernel
theorem dX5_takeArgument_1 : decode cX5_takeArgument 1 = .ok (.getfield 18, 3) := by decide +kernel
theorem dX5_takeArgument_4 : decode cX5_takeArgument 4 = .ok (.aload_n 0, 1) := by decide +kernel
theorem dX5_takeArgument_5 : decode cX5_takeArgument 5 = .ok (.getfield 29, 3) := by decide +kernel
theorem dX5_takeArgument_8 : decode cX5_takeArgument 8 = .ok (.invokevirtual 41, 3) := by decide +kernel
theorem dX5_takeArgument_11 : decode cX5_takeArgument 11 = .ok (.iconst 4, 1) := by decide +kernel
theorem dX5_takeArgument_12 : decode cX5_takeArgument 12 = .ok (.if_icmp .ne 22, 3) := by decide +kernel
theorem dX5_takeArgument_15 : decode cX5_takeArgument 15 = .ok (.aload_n 0, 1) := by decide +kernel
theorem dX5_takeArgument_16 : decode cX5_takeArgument 16 = .ok (.getfield 60, 3) := by decide +kernel
theorem dX5_takeArgument_19 : decode cX5_takeArgument 19 = .ok (.ifCond .lt 15, 3) := by decide +kernel
theorem dX5_takeArgument_22 : decode cX5_takeArgument 22 = .ok (.aload_n 0, 1) := by decide +kernel
theorem dX5_takeArgument_23 : decode cX5_takeArgument 23 = .ok (.getfield 60, 3) := by decide +kernel
theorem dX5_takeArgument_26 : decode cX5_takeArgument 26 = .ok (.aload_n 0, 1) := by decide +kernel
theorem dX5_takeArgument_27 : decode cX5_takeArgument 27 = .ok (.getfield 22, 3) := by decide +kernel
theorem dX5_takeArgument_30 : decode cX5_takeArgument 30 = .ok (.arraylength, 1) := by decide +kernel
theorem dX5_takeArgument_31 : decode cX5_takeArgument 31 = .ok (.if_icmp .lt 9, 3) := by decide +kernel
theorem dX5_takeArgument_34 : decode cX5_takeArgument 34 = .ok (.aload_n 0, 1) := by decide +kernel
theorem dX5_takeArgument_35 : decode cX5_takeArgument 35 = .ok (.iconst 1, 1) := by decide +kernel
theorem dX5_takeArgument_36 : decode cX5_takeArgument 36 = .ok (.invokevirtual 56, 3) := by decide +kernel
theorem dX5_takeArgument_39 : decode cX5_takeArgument 39 = .ok (.ireturn, 1) := by decide +kernel
theorem dX5_takeArgument_40 : decode cX5_takeArgument 40 = .ok (.iload_n 1, 1) := by decide +kernel
theorem dX5_takeArgument_41 : decode cX5_takeArgument 41 = .ok (.iload_n 2, 1) := by decide +kernel
theorem dX5_takeArgument_42 : decode cX5_takeArgument 42 = .ok (.if_icmp .lt 8, 3) := by decide +kernel
theorem dX5_takeArgument_45 : decode cX5_takeArgument 45 = .ok (.iload_n 1, 1) := by decide +kernel
theorem dX5_takeArgument_46 : decode cX5_takeArgument 46 = .ok (.iload_n 3, 1) := by decide +kernel
theorem dX5_takeArgument_47 : decode cX5_takeArgument 47 = .ok (.if_icmp .le 9, 3) := by decide +kernel
theorem dX5_takeArgument_50 : decode cX5_takeArgument 50 = .ok (.aload_n 0, 1) := by decide +kernel
theorem dX5_takeArgument_51 : decode cX5_takeArgument 51 = .ok (.iconst 2, 1) := by decide +kernel
theorem dX5_takeArgument_52 : decode cX5_takeArgument 52 = .ok (.invokevirtual 56, 3) := by decide +kernel
theorem dX5_takeArgument_55 : decode cX5_takeArgument 55 = .ok (.ireturn, 1) := by decide +kernel
theorem dX5_takeArgument_56 : decode cX5_takeArgument 56 = .ok (.aload_n 0, 1) := by decide +kernel
theorem dX5_takeArgument_57 : decode cX5_takeArgument 57 = .ok (.getfield 22, 3) := by decide +kernel
theorem dX5_takeArgument_60 : decode cX5_takeArgument 60 = .ok (.aload_n 0, 1) := by decide +kernel
theorem dX5_takeArgument_61 : decode cX5_takeArgument 61 = .ok (.getfield 60, 3) := by decide +kernel
theorem dX5_takeArgument_64 : decode cX5_takeArgument 64 = .ok (.iload_n 1, 1) := by decide +kernel
theorem dX5_takeArgument_65 : decode cX5_takeArgument 65 = .ok (.iastore, 1) := by decide +kernel
theorem dX5_takeArgument_66 : decode cX5_takeArgument 66 = .ok (.aload_n 0, 1) := by decide +kernel
theorem dX5_takeArgument_67 : decode cX5_takeArgument 67 = .ok (.dup, 1) := by decide +kernel
theorem dX5_takeArgument_68 : decode cX5_takeArgument 68 = .ok (.getfield 60, 3) := by decide +kernel
theorem dX5_takeArgument_71 : decode cX5_takeArgument 71 = .ok (.iconst 1, 1) := by decide +kernel
theorem dX5_takeArgument_72 : decode cX5_takeArgument 72 = .ok (.iadd, 1) := by decide +kernel
theorem dX5_takeArgument_73 : decode cX5_takeArgument 73 = .ok (.putfield 60, 3) := by decide +kernel
theorem dX5_takeArgument_76 : decode cX5_takeArgument 76 = .ok (.aload_n 0, 1) := by decide +kernel
theorem dX5_takeArgument_77 : decode cX5_takeArgument 77 = .ok (.dup, 1) := by decide +kernel
theorem dX5_takeArgument_78 : decode cX5_takeArgument 78 = .ok (.getfield 29, 3) := by decide +kernel
theorem dX5_takeArgument_81 : decode cX5_takeArgument 81 = .ok (.iconst 1, 1) := by decide +kernel
theorem dX5_takeArgument_82 : decode cX5_takeArgument 82 = .ok (.iadd, 1) := by decide +kernel
theorem dX5_takeArgument_83 : decode cX5_takeArgument 83 = .ok (.putfield 29, 3) := by decide +kernel
theorem dX5_takeArgument_86 : decode cX5_takeArgument 86 = .ok (.iconst 1, 1) := by decide +kernel
theorem dX5_takeArgument_87 : decode cX5_takeArgument 87 = .ok (.ireturn, 1) := by decide +kernel
theorem dX6_measured_0 : decode cX6_measured 0 = .ok (.iload_n 1, 1) := by decide +kernel
theorem dX6_measured_1 : decode cX6_measured 1 = .ok (.tableswitch 65 0 3 #[31, 38, 46, 57], 31) := by decide +kernel
theorem dX6_measured_32 : decode cX6_measured 32 = .ok (.aload_n 0, 1) := by decide +kernel
theorem dX6_measured_33 : decode cX6_measured 33 = .ok (.iload_n 2, 1) := by decide +kernel
theorem dX6_measured_34 : decode cX6_measured 34 = .ok (.iload_n 3, 1) := by decide +kernel
theorem dX6_measured_35 : decode cX6_measured 35 = .ok (.invokestatic 9, 3) := by decide +kernel
theorem dX6_measured_38 : decode cX6_measured 38 = .ok (.lreturn, 1) := by decide +kernel
theorem dX6_measured_39 : decode cX6_measured 39 = .ok (.aload_n 0, 1) := by decide +kernel
theorem dX6_measured_40 : decode cX6_measured 40 = .ok (.iload_n 2, 1) := by decide +kernel
theorem dX6_measured_41 : decode cX6_measured 41 = .ok (.iload_n 3, 1) := by decide +kernel
theorem dX6_measured_42 : decode cX6_measured 42 = .ok (.invokestatic 15, 3) := by decide +kernel
theorem dX6_measured_45 : decode cX6_measured 45 = .ok (.i2l, 1) := by decide +kernel
theorem dX6_measured_46 : decode cX6_measured 46 = .ok (.lreturn, 1) := by decide +kernel
theorem dX6_measured_47 : decode cX6_measured 47 = .ok (.aload_n 0, 1) := by decide +kernel
theorem dX6_measured_48 : decode cX6_measured 48 = .ok (.iload_n 2, 1) := by decide +kernel
theorem dX6_measured_49 : decode cX6_measured 49 = .ok (.iload_n 3, 1) := by decide +kernel
theorem dX6_measured_50 : decode cX6_measured 50 = .ok (.invokestatic 9, 3) := by decide +kernel
theorem dX6_measured_53 : decode cX6_measured 53 = .ok (.invokestatic 19, 3) := by decide +kernel
theorem dX6_measured_56 : decode cX6_measured 56 = .ok (.i2l, 1) := by decide +kernel
theorem dX6_measured_57 : decode cX6_measured 57 = .ok (.lreturn, 1) := by decide +kernel
theorem dX6_measured_58 : decode cX6_measured 58 = .ok (.aload_n 0, 1) := by decide +kernel
theorem dX6_measured_59 : decode cX6_measured 59 = .ok (.iload_n 2, 1) := by decide +kernel
theorem dX6_measured_60 : decode cX6_measured 60 = .ok (.iload_n 3, 1) := by decide +kernel
theorem dX6_measured_61 : decode cX6_measured 61 = .ok (.iconst 1, 1) := by decide +kernel
theorem dX6_measured_62 : decode cX6_measured 62 = .ok (.invokestatic 23, 3) := by decide +kernel
theorem dX6_measured_65 : decode cX6_measured 65 = .ok (.lreturn, 1) := by decide +kernel
theorem dX6_measured_66 : decode cX6_measured 66 = .ok (.aload_n 0, 1) := by decide +kernel
theorem dX6_measured_67 : decode cX6_measured 67 = .ok (.iload_n 2, 1) := by decide +kernel
theorem dX6_measured_68 : decode cX6_measured 68 = .ok (.iload_n 3, 1) := by decide +kernel
theorem dX6_measured_69 : decode cX6_measured 69 = .ok (.invokestatic 27, 3) := by decide +kernel
theorem dX6_measured_72 : decode cX6_measured 72 = .ok (.i2l, 1) := by decide +kernel
theorem dX6_measured_73 : decode cX6_measured 73 = .ok (.lreturn, 1) := by decide +kernel
theorem dX6_energyOf_0 : decode cX6_energyOf 0 = .ok (.lconst 0, 1) := by decide +kernel
theorem dX6_energyOf_1 : decode cX6_energyOf 1 = .ok (.lstore_n 3, 1) := by decide +kernel
theorem dX6_energyOf_2 : decode cX6_energyOf 2 = .ok (.iload_n 1, 1) := by decide +kernel
theorem dX6_energyOf_3 : decode cX6_energyOf 3 = .ok (.istore 5, 2) := by decide +kernel
theorem dX6_energyOf_5 : decode cX6_energyOf 5 = .ok (.iload 5, 2) := by decide +kernel
theorem dX6_energyOf_7 : decode cX6_energyOf 7 = .ok (.iload_n 2, 1) := by decide +kernel
theorem dX6_energyOf_8 : decode cX6_energyOf 8 = .ok (.if_icmp .gt 23, 3) := by decide +kernel
theorem dX6_energyOf_11 : decode cX6_energyOf 11 = .ok (.lload_n 3, 1) := by decide +kernel
theorem dX6_energyOf_12 : decode cX6_energyOf 12 = .ok (.aload_n 0, 1) := by decide +kernel
theorem dX6_energyOf_13 : decode cX6_energyOf 13 = .ok (.iload 5, 2) := by decide +kernel
theorem dX6_energyOf_15 : decode cX6_energyOf 15 = .ok (.iaload, 1) := by decide +kernel
theorem dX6_energyOf_16 : decode cX6_energyOf 16 = .ok (.i2l, 1) := by decide +kernel
theorem dX6_energyOf_17 : decode cX6_energyOf 17 = .ok (.aload_n 0, 1) := by decide +kernel
theorem dX6_energyOf_18 : decode cX6_energyOf 18 = .ok (.iload 5, 2) := by decide +kernel
theorem dX6_energyOf_20 : decode cX6_energyOf 20 = .ok (.iaload, 1) := by decide +kernel
theorem dX6_energyOf_21 : decode cX6_energyOf 21 = .ok (.i2l, 1) := by decide +kernel
theorem dX6_energyOf_22 : decode cX6_energyOf 22 = .ok (.lmul, 1) := by decide +kernel
theorem dX6_energyOf_23 : decode cX6_energyOf 23 = .ok (.ladd, 1) := by decide +kernel
theorem dX6_energyOf_24 : decode cX6_energyOf 24 = .ok (.lstore_n 3, 1) := by decide +kernel
theorem dX6_energyOf_25 : decode cX6_energyOf 25 = .ok (.iinc 5 1, 3) := by decide +kernel
theorem dX6_energyOf_28 : decode cX6_energyOf 28 = .ok (.goto (-23), 3) := by decide +kernel
theorem dX6_energyOf_31 : decode cX6_energyOf 31 = .ok (.lload_n 3, 1) := by decide +kernel
theorem dX6_energyOf_32 : decode cX6_energyOf 32 = .ok (.lreturn, 1) := by decide +kernel
theorem dX6_peakOf_0 : decode cX6_peakOf 0 = .ok (.iconst 0, 1) := by decide +kernel
theorem dX6_peakOf_1 : decode cX6_peakOf 1 = .ok (.istore_n 3, 1) := by decide +kernel
theorem dX6_peakOf_2 : decode cX6_peakOf 2 = .ok (.iload_n 1, 1) := by decide +kernel
theorem dX6_peakOf_3 : decode cX6_peakOf 3 = .ok (.istore 4, 2) := by decide +kernel
theorem dX6_peakOf_5 : decode cX6_peakOf 5 = .ok (.iload 4, 2) := by decide +kernel
theorem dX6_peakOf_7 : decode cX6_peakOf 7 = .ok (.iload_n 2, 1) := by decide +kernel
theorem dX6_peakOf_8 : decode cX6_peakOf 8 = .ok (.if_icmp .gt 21, 3) := by decide +kernel
theorem dX6_peakOf_11 : decode cX6_peakOf 11 = .ok (.iload_n 3, 1) := by decide +kernel
theorem dX6_peakOf_12 : decode cX6_peakOf 12 = .ok (.aload_n 0, 1) := by decide +kernel
theorem dX6_peakOf_13 : decode cX6_peakOf 13 = .ok (.iload 4, 2) := by decide +kernel
theorem dX6_peakOf_15 : decode cX6_peakOf 15 = .ok (.iaload, 1) := by decide +kernel
theorem dX6_peakOf_16 : decode cX6_peakOf 16 = .ok (.invokestatic 30, 3) := by decide +kernel
theorem dX6_peakOf_19 : decode cX6_peakOf 19 = .ok (.invokestatic 36, 3) := by decide +kernel
theorem dX6_peakOf_22 : decode cX6_peakOf 22 = .ok (.istore_n 3, 1) := by decide +kernel
theorem dX6_peakOf_23 : decode cX6_peakOf 23 = .ok (.iinc 4 1, 3) := by decide +kernel
theorem dX6_peakOf_26 : decode cX6_peakOf 26 = .ok (.goto (-21), 3) := by decide +kernel
theorem dX6_peakOf_29 : decode cX6_peakOf 29 = .ok (.iload_n 3, 1) := by decide +kernel
theorem dX6_peakOf_30 : decode cX6_peakOf 30 = .ok (.ireturn, 1) := by decide +kernel
theorem dX6_binaryDigits_0 : decode cX6_binaryDigits 0 = .ok (.iconst 0, 1) := by decide +kernel
theorem dX6_binaryDigits_1 : decode cX6_binaryDigits 1 = .ok (.istore_n 2, 1) := by decide +kernel
theorem dX6_binaryDigits_2 : decode cX6_binaryDigits 2 = .ok (.iload_n 2, 1) := by decide +kernel
theorem dX6_binaryDigits_3 : decode cX6_binaryDigits 3 = .ok (.bipush 63, 2) := by decide +kernel
theorem dX6_binaryDigits_5 : decode cX6_binaryDigits 5 = .ok (.if_icmp .ge 17, 3) := by decide +kernel
theorem dX6_binaryDigits_8 : decode cX6_binaryDigits 8 = .ok (.lload_n 0, 1) := by decide +kernel
theorem dX6_binaryDigits_9 : decode cX6_binaryDigits 9 = .ok (.iload_n 2, 1) := by decide +kernel
theorem dX6_binaryDigits_10 : decode cX6_binaryDigits 10 = .ok (.lshr, 1) := by decide +kernel
theorem dX6_binaryDigits_11 : decode cX6_binaryDigits 11 = .ok (.lconst 0, 1) := by decide +kernel
theorem dX6_binaryDigits_12 : decode cX6_binaryDigits 12 = .ok (.lcmp, 1) := by decide +kernel
theorem dX6_binaryDigits_13 : decode cX6_binaryDigits 13 = .ok (.ifCond .eq 9, 3) := by decide +kernel
theorem dX6_binaryDigits_16 : decode cX6_binaryDigits 16 = .ok (.iinc 2 1, 3) := by decide +kernel
theorem dX6_binaryDigits_19 : decode cX6_binaryDigits 19 = .ok (.goto (-17), 3) := by decide +kernel
theorem dX6_binaryDigits_22 : decode cX6_binaryDigits 22 = .ok (.iload_n 2, 1) := by decide +kernel
theorem dX6_binaryDigits_23 : decode cX6_binaryDigits 23 = .ok (.ireturn, 1) := by decide +kernel
theorem dX6_sumOf_0 : decode cX6_sumOf 0 = .ok (.lconst 0, 1) := by decide +kernel
theorem dX6_sumOf_1 : decode cX6_sumOf 1 = .ok (.lstore 4, 2) := by decide +kernel
theorem dX6_sumOf_3 : decode cX6_sumOf 3 = .ok (.iload_n 1, 1) := by decide +kernel
theorem dX6_sumOf_4 : decode cX6_sumOf 4 = .ok (.istore 6, 2) := by decide +kernel
theorem dX6_sumOf_6 : decode cX6_sumOf 6 = .ok (.iload 6, 2) := by decide +kernel
theorem dX6_sumOf_8 : decode cX6_sumOf 8 = .ok (.iload_n 2, 1) := by decide +kernel
theorem dX6_sumOf_9 : decode cX6_sumOf 9 = .ok (.if_icmp .gt 22, 3) := by decide +kernel
theorem dX6_sumOf_12 : decode cX6_sumOf 12 = .ok (.lload 4, 2) := by decide +kernel
theorem dX6_sumOf_14 : decode cX6_sumOf 14 = .ok (.aload_n 0, 1) := by decide +kernel
theorem dX6_sumOf_15 : decode cX6_sumOf 15 = .ok (.iload 6, 2) := by decide +kernel
theorem dX6_sumOf_17 : decode cX6_sumOf 17 = .ok (.iaload, 1) := by decide +kernel
theorem dX6_sumOf_18 : decode cX6_sumOf 18 = .ok (.i2l, 1) := by decide +kernel
theorem dX6_sumOf_19 : decode cX6_sumOf 19 = .ok (.ladd, 1) := by decide +kernel
theorem dX6_sumOf_20 : decode cX6_sumOf 20 = .ok (.lstore 4, 2) := by decide +kernel
theorem dX6_sumOf_22 : decode cX6_sumOf 22 = .ok (.iload 6, 2) := by decide +kernel
theorem dX6_sumOf_24 : decode cX6_sumOf 24 = .ok (.iload_n 3, 1) := by decide +kernel
theorem dX6_sumOf_25 : decode cX6_sumOf 25 = .ok (.iadd, 1) := by decide +kernel
theorem dX6_sumOf_26 : decode cX6_sumOf 26 = .ok (.istore 6, 2) := by decide +kernel
theorem dX6_sumOf_28 : decode cX6_sumOf 28 = .ok (.goto (-22), 3) := by decide +kernel
theorem dX6_sumOf_31 : decode cX6_sumOf 31 = .ok (.lload 4, 2) := by decide +kernel
theorem dX6_sumOf_33 : decode cX6_sumOf 33 = .ok (.lreturn, 1) := by decide +kernel
theorem dX6_crossingsOf_0 : decode cX6_crossingsOf 0 = .ok (.iconst 0, 1) := by decide +kernel
theorem dX6_crossingsOf_1 : decode cX6_crossingsOf 1 = .ok (.istore_n 3, 1) := by decide +kernel
theorem dX6_crossingsOf_2 : decode cX6_crossingsOf 2 = .ok (.iload_n 1, 1) := by decide +kernel
theorem dX6_crossingsOf_3 : decode cX6_crossingsOf 3 = .ok (.iconst 1, 1) := by decide +kernel
theorem dX6_crossingsOf_4 : decode cX6_crossingsOf 4 = .ok (.iadd, 1) := by decide +kernel
theorem dX6_crossingsOf_5 : decode cX6_crossingsOf 5 = .ok (.istore 4, 2) := by decide +kernel
theorem dX6_crossingsOf_7 : decode cX6_crossingsOf 7 = .ok (.iload 4, 2) := by decide +kernel
theorem dX6_crossingsOf_9 : decode cX6_crossingsOf 9 = .ok (.iload_n 2, 1) := by decide +kernel
theorem dX6_crossingsOf_10 : decode cX6_crossingsOf 10 = .ok (.if_icmp .gt 31, 3) := by decide +kernel
theorem dX6_crossingsOf_13 : decode cX6_crossingsOf 13 = .ok (.aload_n 0, 1) := by decide +kernel
theorem dX6_crossingsOf_14 : decode cX6_crossingsOf 14 = .ok (.iload 4, 2) := by decide +kernel
theorem dX6_crossingsOf_16 : decode cX6_crossingsOf 16 = .ok (.iaload, 1) := by decide +kernel
theorem dX6_crossingsOf_17 : decode cX6_crossingsOf 17 = .ok (.invokestatic 40, 3) := by decide +kernel
theorem dX6_crossingsOf_20 : decode cX6_crossingsOf 20 = .ok (.aload_n 0, 1) := by decide +kernel
theorem dX6_crossingsOf_21 : decode cX6_crossingsOf 21 = .ok (.iload 4, 2) := by decide +kernel
theorem dX6_crossingsOf_23 : decode cX6_crossingsOf 23 = .ok (.iconst 1, 1) := by decide +kernel
theorem dX6_crossingsOf_24 : decode cX6_crossingsOf 24 = .ok (.isub, 1) := by decide +kernel
theorem dX6_crossingsOf_25 : decode cX6_crossingsOf 25 = .ok (.iaload, 1) := by decide +kernel
theorem dX6_crossingsOf_26 : decode cX6_crossingsOf 26 = .ok (.invokestatic 40, 3) := by decide +kernel
theorem dX6_crossingsOf_29 : decode cX6_crossingsOf 29 = .ok (.if_icmp .eq 6, 3) := by decide +kernel
theorem dX6_crossingsOf_32 : decode cX6_crossingsOf 32 = .ok (.iinc 3 1, 3) := by decide +kernel
theorem dX6_crossingsOf_35 : decode cX6_crossingsOf 35 = .ok (.iinc 4 1, 3) := by decide +kernel
theorem dX6_crossingsOf_38 : decode cX6_crossingsOf 38 = .ok (.goto (-31), 3) := by decide +kernel
theorem dX6_crossingsOf_41 : decode cX6_crossingsOf 41 = .ok (.iload_n 3, 1) := by decide +kernel
theorem dX6_crossingsOf_42 : decode cX6_crossingsOf 42 = .ok (.ireturn, 1) := by decide +kernel
theorem dX6_signOf_0 : decode cX6_signOf 0 = .ok (.iload_n 0, 1) := by decide +kernel
theorem dX6_signOf_1 : decode cX6_signOf 1 = .ok (.ifCond .ne 5, 3) := by decide +kernel
theorem dX6_signOf_4 : decode cX6_signOf 4 = .ok (.iconst 0, 1) := by decide +kernel
theorem dX6_signOf_5 : decode cX6_signOf 5 = .ok (.ireturn, 1) := by decide +kernel
theorem dX6_signOf_6 : decode cX6_signOf 6 = .ok (.iload_n 0, 1) := by decide +kernel
theorem dX6_signOf_7 : decode cX6_signOf 7 = .ok (.ifCond .ge 7, 3) := by decide +kernel
theorem dX6_signOf_10 : decode cX6_signOf 10 = .ok (.iconst (-1), 1) := by decide +kernel
theorem dX6_signOf_11 : decode cX6_signOf 11 = .ok (.goto 4, 3) := by decide +kernel
theorem dX6_signOf_14 : decode cX6_signOf 14 = .ok (.iconst 1, 1) := by decide +kernel
theorem dX6_signOf_15 : decode cX6_signOf 15 = .ok (.ireturn, 1) := by decide +kernel
theorem dX6_powerOf_0 : decode cX6_powerOf 0 = .ok (.lconst 0, 1) := by decide +kernel
theorem dX6_powerOf_1 : decode cX6_powerOf 1 = .ok (.lstore 4, 2) := by decide +kernel
theorem dX6_powerOf_3 : decode cX6_powerOf 3 = .ok (.iconst 0, 1) := by decide +kernel
theorem dX6_powerOf_4 : decode cX6_powerOf 4 = .ok (.istore 6, 2) := by decide +kernel
theorem dX6_powerOf_6 : decode cX6_powerOf 6 = .ok (.iload 6, 2) := by decide +kernel
theorem dX6_powerOf_8 : decode cX6_powerOf 8 = .ok (.iload_n 1, 1) := by decide +kernel
theorem dX6_powerOf_9 : decode cX6_powerOf 9 = .ok (.if_icmp .ge 31, 3) := by decide +kernel
theorem dX6_powerOf_12 : decode cX6_powerOf 12 = .ok (.aload_n 0, 1) := by decide +kernel
theorem dX6_powerOf_13 : decode cX6_powerOf 13 = .ok (.iload_n 2, 1) := by decide +kernel
theorem dX6_powerOf_14 : decode cX6_powerOf 14 = .ok (.iload 6, 2) := by decide +kernel
theorem dX6_powerOf_16 : decode cX6_powerOf 16 = .ok (.iadd, 1) := by decide +kernel
theorem dX6_powerOf_17 : decode cX6_powerOf 17 = .ok (.iload_n 3, 1) := by decide +kernel
theorem dX6_powerOf_18 : decode cX6_powerOf 18 = .ok (.iload_n 1, 1) := by decide +kernel
theorem dX6_powerOf_19 : decode cX6_powerOf 19 = .ok (.invokestatic 23, 3) := by decide +kernel
theorem dX6_powerOf_22 : decode cX6_powerOf 22 = .ok (.lstore 7, 2) := by decide +kernel
theorem dX6_powerOf_24 : decode cX6_powerOf 24 = .ok (.lload 4, 2) := by decide +kernel
theorem dX6_powerOf_26 : decode cX6_powerOf 26 = .ok (.lload 7, 2) := by decide +kernel
theorem dX6_powerOf_28 : decode cX6_powerOf 28 = .ok (.lload 7, 2) := by decide +kernel
theorem dX6_powerOf_30 : decode cX6_powerOf 30 = .ok (.lmul, 1) := by decide +kernel
theorem dX6_powerOf_31 : decode cX6_powerOf 31 = .ok (.ladd, 1) := by decide +kernel
theorem dX6_powerOf_32 : decode cX6_powerOf 32 = .ok (.lstore 4, 2) := by decide +kernel
theorem dX6_powerOf_34 : decode cX6_powerOf 34 = .ok (.iinc 6 1, 3) := by decide +kernel
theorem dX6_powerOf_37 : decode cX6_powerOf 37 = .ok (.goto (-31), 3) := by decide +kernel
theorem dX6_powerOf_40 : decode cX6_powerOf 40 = .ok (.lload 4, 2) := by decide +kernel
theorem dX6_powerOf_42 : decode cX6_powerOf 42 = .ok (.lreturn, 1) := by decide +kernel
theorem dX6_periodStrength_0 : decode cX6_periodStrength 0 = .ok (.aload_n 0, 1) := by decide +kernel
theorem dX6_periodStrength_1 : decode cX6_periodStrength 1 = .ok (.iload_n 1, 1) := by decide +kernel
theorem dX6_periodStrength_2 : decode cX6_periodStrength 2 = .ok (.iload_n 2, 1) := by decide +kernel
theorem dX6_periodStrength_3 : decode cX6_periodStrength 3 = .ok (.iload_n 3, 1) := by decide +kernel
theorem dX6_periodStrength_4 : decode cX6_periodStrength 4 = .ok (.invokestatic 43, 3) := by decide +kernel
theorem dX6_periodStrength_7 : decode cX6_periodStrength 7 = .ok (.iload_n 1, 1) := by decide +kernel
theorem dX6_periodStrength_8 : decode cX6_periodStrength 8 = .ok (.i2l, 1) := by decide +kernel
theorem dX6_periodStrength_9 : decode cX6_periodStrength 9 = .ok (.lmul, 1) := by decide +kernel
theorem dX6_periodStrength_10 : decode cX6_periodStrength 10 = .ok (.iload_n 3, 1) := by decide +kernel
theorem dX6_periodStrength_11 : decode cX6_periodStrength 11 = .ok (.iload_n 2, 1) := by decide +kernel
theorem dX6_periodStrength_12 : decode cX6_periodStrength 12 = .ok (.isub, 1) := by decide +kernel
theorem dX6_periodStrength_13 : decode cX6_periodStrength 13 = .ok (.iconst 1, 1) := by decide +kernel
theorem dX6_periodStrength_14 : decode cX6_periodStrength 14 = .ok (.iadd, 1) := by decide +kernel
theorem dX6_periodStrength_15 : decode cX6_periodStrength 15 = .ok (.i2l, 1) := by decide +kernel
theorem dX6_periodStrength_16 : decode cX6_periodStrength 16 = .ok (.invokestatic 46, 3) := by decide +kernel
theorem dX6_periodStrength_19 : decode cX6_periodStrength 19 = .ok (.lreturn, 1) := by decide +kernel
theorem dX6_meanPowerOf_0 : decode cX6_meanPowerOf 0 = .ok (.iload_n 2, 1) := by decide +kernel
theorem dX6_meanPowerOf_1 : decode cX6_meanPowerOf 1 = .ok (.iload_n 1, 1) := by decide +kernel
theorem dX6_meanPowerOf_2 : decode cX6_meanPowerOf 2 = .ok (.isub, 1) := by decide +kernel
theorem dX6_meanPowerOf_3 : decode cX6_meanPowerOf 3 = .ok (.iconst 1, 1) := by decide +kernel
theorem dX6_meanPowerOf_4 : decode cX6_meanPowerOf 4 = .ok (.iadd, 1) := by decide +kernel
theorem dX6_meanPowerOf_5 : decode cX6_meanPowerOf 5 = .ok (.istore_n 3, 1) := by decide +kernel
theorem dX6_meanPowerOf_6 : decode cX6_meanPowerOf 6 = .ok (.iload_n 3, 1) := by decide +kernel
theorem dX6_meanPowerOf_7 : decode cX6_meanPowerOf 7 = .ok (.ifCond .ne 7, 3) := by decide +kernel
theorem dX6_meanPowerOf_10 : decode cX6_meanPowerOf 10 = .ok (.dconst 0, 1) := by decide +kernel
theorem dX6_meanPowerOf_11 : decode cX6_meanPowerOf 11 = .ok (.goto 13, 3) := by decide +kernel
theorem dX6_meanPowerOf_14 : decode cX6_meanPowerOf 14 = .ok (.aload_n 0, 1) := by decide +kernel
theorem dX6_meanPowerOf_15 : decode cX6_meanPowerOf 15 = .ok (.iload_n 1, 1) := by decide +kernel
theorem dX6_meanPowerOf_16 : decode cX6_meanPowerOf 16 = .ok (.iload_n 2, 1) := by decide +kernel
theorem dX6_meanPowerOf_17 : decode cX6_meanPowerOf 17 = .ok (.invokestatic 9, 3) := by decide +kernel
theorem dX6_meanPowerOf_20 : decode cX6_meanPowerOf 20 = .ok (.l2d, 1) := by decide +kernel
theorem dX6_meanPowerOf_21 : decode cX6_meanPowerOf 21 = .ok (.iload_n 3, 1) := by decide +kernel
theorem dX6_meanPowerOf_22 : decode cX6_meanPowerOf 22 = .ok (.i2d, 1) := by decide +kernel
theorem dX6_meanPowerOf_23 : decode cX6_meanPowerOf 23 = .ok (.ddiv, 1) := by decide +kernel
theorem dX6_meanPowerOf_24 : decode cX6_meanPowerOf 24 = .ok (.dreturn, 1) := by decide +kernel
theorem dX6_crestOf_0 : decode cX6_crestOf 0 = .ok (.aload_n 0, 1) := by decide +kernel
theorem dX6_crestOf_1 : decode cX6_crestOf 1 = .ok (.iload_n 1, 1) := by decide +kernel
theorem dX6_crestOf_2 : decode cX6_crestOf 2 = .ok (.iload_n 2, 1) := by decide +kernel
theorem dX6_crestOf_3 : decode cX6_crestOf 3 = .ok (.invokestatic 50, 3) := by decide +kernel
theorem dX6_crestOf_6 : decode cX6_crestOf 6 = .ok (.dstore_n 3, 1) := by decide +kernel
theorem dX6_crestOf_7 : decode cX6_crestOf 7 = .ok (.dload_n 3, 1) := by decide +kernel
theorem dX6_crestOf_8 : decode cX6_crestOf 8 = .ok (.dconst 0, 1) := by decide +kernel
theorem dX6_crestOf_9 : decode cX6_crestOf 9 = .ok (.dcmp .l, 1) := by decide +kernel
theorem dX6_crestOf_10 : decode cX6_crestOf 10 = .ok (.ifCond .ne 5, 3) := by decide +kernel
theorem dX6_crestOf_13 : decode cX6_crestOf 13 = .ok (.fconst 0, 1) := by decide +kernel
theorem dX6_crestOf_14 : decode cX6_crestOf 14 = .ok (.freturn, 1) := by decide +kernel
theorem dX6_crestOf_15 : decode cX6_crestOf 15 = .ok (.aload_n 0, 1) := by decide +kernel
theorem dX6_crestOf_16 : decode cX6_crestOf 16 = .ok (.iload_n 1, 1) := by decide +kernel
theorem dX6_crestOf_17 : decode cX6_crestOf 17 = .ok (.iload_n 2, 1) := by decide +kernel
theorem dX6_crestOf_18 : decode cX6_crestOf 18 = .ok (.invokestatic 15, 3) := by decide +kernel
theorem dX6_crestOf_21 : decode cX6_crestOf 21 = .ok (.i2d, 1) := by decide +kernel
theorem dX6_crestOf_22 : decode cX6_crestOf 22 = .ok (.dstore 5, 2) := by decide +kernel
theorem dX6_crestOf_24 : decode cX6_crestOf 24 = .ok (.dload 5, 2) := by decide +kernel
theorem dX6_crestOf_26 : decode cX6_crestOf 26 = .ok (.dload 5, 2) := by decide +kernel
theorem dX6_crestOf_28 : decode cX6_crestOf 28 = .ok (.dmul, 1) := by decide +kernel
theorem dX6_crestOf_29 : decode cX6_crestOf 29 = .ok (.dload_n 3, 1) := by decide +kernel
theorem dX6_crestOf_30 : decode cX6_crestOf 30 = .ok (.ddiv, 1) := by decide +kernel
theorem dX6_crestOf_31 : decode cX6_crestOf 31 = .ok (.d2f, 1) := by decide +kernel
theorem dX6_crestOf_32 : decode cX6_crestOf 32 = .ok (.freturn, 1) := by decide +kernel
theorem dX6_productSum_0 : decode cX6_productSum 0 = .ok (.lconst 0, 1) := by decide +kernel
theorem dX6_productSum_1 : decode cX6_productSum 1 = .ok (.lstore_n 3, 1) := by decide +kernel
theorem dX6_productSum_2 : decode cX6_productSum 2 = .ok (.iconst 0, 1) := by decide +kernel
theorem dX6_productSum_3 : decode cX6_productSum 3 = .ok (.istore 5, 2) := by decide +kernel
theorem dX6_productSum_5 : decode cX6_productSum 5 = .ok (.iload 5, 2) := by decide +kernel
theorem dX6_productSum_7 : decode cX6_productSum 7 = .ok (.aload_n 0, 1) := by decide +kernel
theorem dX6_productSum_8 : decode cX6_productSum 8 = .ok (.arraylength, 1) := by decide +kernel
theorem dX6_productSum_9 : decode cX6_productSum 9 = .ok (.if_icmp .ge 27, 3) := by decide +kernel
theorem dX6_productSum_12 : decode cX6_productSum 12 = .ok (.lload_n 3, 1) := by decide +kernel
theorem dX6_productSum_13 : decode cX6_productSum 13 = .ok (.aload_n 0, 1) := by decide +kernel
theorem dX6_productSum_14 : decode cX6_productSum 14 = .ok (.iload 5, 2) := by decide +kernel
theorem dX6_productSum_16 : decode cX6_productSum 16 = .ok (.iaload, 1) := by decide +kernel
theorem dX6_productSum_17 : decode cX6_productSum 17 = .ok (.i2l, 1) := by decide +kernel
theorem dX6_productSum_18 : decode cX6_productSum 18 = .ok (.aload_n 1, 1) := by decide +kernel
theorem dX6_productSum_19 : decode cX6_productSum 19 = .ok (.iload 5, 2) := by decide +kernel
theorem dX6_productSum_21 : decode cX6_productSum 21 = .ok (.iload_n 2, 1) := by decide +kernel
theorem dX6_productSum_22 : decode cX6_productSum 22 = .ok (.iadd, 1) := by decide +kernel
theorem dX6_productSum_23 : decode cX6_productSum 23 = .ok (.invokestatic 54, 3) := by decide +kernel
theorem dX6_productSum_26 : decode cX6_productSum 26 = .ok (.i2l, 1) := by decide +kernel
theorem dX6_productSum_27 : decode cX6_productSum 27 = .ok (.lmul, 1) := by decide +kernel
theorem dX6_productSum_28 : decode cX6_productSum 28 = .ok (.ladd, 1) := by decide +kernel
theorem dX6_productSum_29 : decode cX6_productSum 29 = .ok (.lstore_n 3, 1) := by decide +kernel
theorem dX6_productSum_30 : decode cX6_productSum 30 = .ok (.iinc 5 1, 3) := by decide +kernel
theorem dX6_productSum_33 : decode cX6_productSum 33 = .ok (.goto (-28), 3) := by decide +kernel
theorem dX6_productSum_36 : decode cX6_productSum 36 = .ok (.lload_n 3, 1) := by decide +kernel
theorem dX6_productSum_37 : decode cX6_productSum 37 = .ok (.lreturn, 1) := by decide +kernel
theorem dX7_init_0 : decode cX7_init 0 = .ok (.aload_n 0, 1) := by decide +kernel
theorem dX7_init_1 : decode cX7_init 1 = .ok (.invokespecial 3, 3) := by decide +kernel
theorem dX7_init_4 : decode cX7_init 4 = .ok (.aload_n 0, 1) := by decide +kernel
theorem dX7_init_5 : decode cX7_init 5 = .ok (.new 9, 3) := by decide +kernel
theorem dX7_init_8 : decode cX7_init 8 = .ok (.dup, 1) := by decide +kernel
theorem dX7_init_9 : decode cX7_init 9 = .ok (.invokespecial 11, 3) := by decide +kernel
theorem dX7_init_12 : decode cX7_init 12 = .ok (.putfield 12, 3) := by decide +kernel
theorem dX7_init_15 : decode cX7_init 15 = .ok (.aload_n 0, 1) := by decide +kernel
theorem dX7_init_16 : decode cX7_init 16 = .ok (.bipush 16, 2) := by decide +kernel
theorem dX7_init_18 : decode cX7_init 18 = .ok (.newarray .int, 2) := by decide +kernel
theorem dX7_init_20 : decode cX7_init 20 = .ok (.putfield 18, 3) := by decide +kernel
theorem dX7_init_23 : decode cX7_init 23 = .ok (.return_, 1) := by decide +kernel
theorem dX7_append_0 : decode cX7_append 0 = .ok (.aload_n 0, 1) := by decide +kernel
theorem dX7_append_1 : decode cX7_append 1 = .ok (.getfield 22, 3) := by decide +kernel
theorem dX7_append_4 : decode cX7_append 4 = .ok (.ifCond .lt 15, 3) := by decide +kernel
theorem dX7_append_7 : decode cX7_append 7 = .ok (.aload_n 0, 1) := by decide +kernel
theorem dX7_append_8 : decode cX7_append 8 = .ok (.getfield 22, 3) := by decide +kernel
theorem dX7_append_11 : decode cX7_append 11 = .ok (.aload_n 0, 1) := by decide +kernel
theorem dX7_append_12 : decode cX7_append 12 = .ok (.getfield 18, 3) := by decide +kernel
theorem dX7_append_15 : decode cX7_append 15 = .ok (.arraylength, 1) := by decide +kernel
theorem dX7_append_16 : decode cX7_append 16 = .ok (.if_icmp .lt 5, 3) := by decide +kernel
theorem dX7_append_19 : decode cX7_append 19 = .ok (.iconst (-1), 1) := by decide +kernel
theorem dX7_append_20 : decode cX7_append 20 = .ok (.ireturn, 1) := by decide +kernel
theorem dX7_append_21 : decode cX7_append 21 = .ok (.aload_n 0, 1) := by decide +kernel
theorem dX7_append_22 : decode cX7_append 22 = .ok (.getfield 18, 3) := by decide +kernel
theorem dX7_append_25 : decode cX7_append 25 = .ok (.aload_n 0, 1) := by decide +kernel
theorem dX7_append_26 : decode cX7_append 26 = .ok (.getfield 22, 3) := by decide +kernel
theorem dX7_append_29 : decode cX7_append 29 = .ok (.iload_n 1, 1) := by decide +kernel
theorem dX7_append_30 : decode cX7_append 30 = .ok (.iastore, 1) := by decide +kernel
theorem dX7_append_31 : decode cX7_append 31 = .ok (.aload_n 0, 1) := by decide +kernel
theorem dX7_append_32 : decode cX7_append 32 = .ok (.dup, 1) := by decide +kernel
theorem dX7_append_33 : decode cX7_append 33 = .ok (.getfield 22, 3) := by decide +kernel
theorem dX7_append_36 : decode cX7_append 36 = .ok (.iconst 1, 1) := by decide +kernel
theorem dX7_append_37 : decode cX7_append 37 = .ok (.iadd, 1) := by decide +kernel
theorem dX7_append_38 : decode cX7_append 38 = .ok (.putfield 22, 3) := by decide +kernel
theorem dX7_append_41 : decode cX7_append 41 = .ok (.aload_n 0, 1) := by decide +kernel
theorem dX7_append_42 : decode cX7_append 42 = .ok (.getfield 22, 3) := by decide +kernel
theorem dX7_append_45 : decode cX7_append 45 = .ok (.ireturn, 1) := by decide +kernel
theorem dX7_valueAt_0 : decode cX7_valueAt 0 = .ok (.aload_n 0, 1) := by decide +kernel
theorem dX7_valueAt_1 : decode cX7_valueAt 1 = .ok (.getfield 22, 3) := by decide +kernel
theorem dX7_valueAt_4 : decode cX7_valueAt 4 = .ok (.ifCond .ne 5, 3) := by decide +kernel
theorem dX7_valueAt_7 : decode cX7_valueAt 7 = .ok (.iconst 0, 1) := by decide +kernel
theorem dX7_valueAt_8 : decode cX7_valueAt 8 = .ok (.ireturn, 1) := by decide +kernel
theorem dX7_valueAt_9 : decode cX7_valueAt 9 = .ok (.aload_n 0, 1) := by decide +kernel
theorem dX7_valueAt_10 : decode cX7_valueAt 10 = .ok (.getfield 18, 3) := by decide +kernel
theorem dX7_valueAt_13 : decode cX7_valueAt 13 = .ok (.iload_n 1, 1) := by decide +kernel
theorem dX7_valueAt_14 : decode cX7_valueAt 14 = .ok (.aload_n 0, 1) := by decide +kernel
theorem dX7_valueAt_15 : decode cX7_valueAt 15 = .ok (.getfield 22, 3) := by decide +kernel
theorem dX7_valueAt_18 : decode cX7_valueAt 18 = .ok (.irem, 1) := by decide +kernel
theorem dX7_valueAt_19 : decode cX7_valueAt 19 = .ok (.invokestatic 26, 3) := by decide +kernel
theorem dX7_valueAt_22 : decode cX7_valueAt 22 = .ok (.aload_n 0, 1) := by decide +kernel
theorem dX7_valueAt_23 : decode cX7_valueAt 23 = .ok (.getfield 30, 3) := by decide +kernel
theorem dX7_valueAt_26 : decode cX7_valueAt 26 = .ok (.imul, 1) := by decide +kernel
theorem dX7_valueAt_27 : decode cX7_valueAt 27 = .ok (.ireturn, 1) := by decide +kernel
theorem dX7_copyFrom_0 : decode cX7_copyFrom 0 = .ok (.aload_n 0, 1) := by decide +kernel
theorem dX7_copyFrom_1 : decode cX7_copyFrom 1 = .ok (.getfield 12, 3) := by decide +kernel
theorem dX7_copyFrom_4 : decode cX7_copyFrom 4 = .ok (.aload_n 1, 1) := by decide +kernel
theorem dX7_copyFrom_5 : decode cX7_copyFrom 5 = .ok (.getfield 12, 3) := by decide +kernel
theorem dX7_copyFrom_8 : decode cX7_copyFrom 8 = .ok (.invokevirtual 33, 3) := by decide +kernel
theorem dX7_copyFrom_11 : decode cX7_copyFrom 11 = .ok (.aload_n 1, 1) := by decide +kernel
theorem dX7_copyFrom_12 : decode cX7_copyFrom 12 = .ok (.getfield 18, 3) := by decide +kernel
theorem dX7_copyFrom_15 : decode cX7_copyFrom 15 = .ok (.iconst 0, 1) := by decide +kernel
theorem dX7_copyFrom_16 : decode cX7_copyFrom 16 = .ok (.aload_n 0, 1) := by decide +kernel
theorem dX7_copyFrom_17 : decode cX7_copyFrom 17 = .ok (.getfield 18, 3) := by decide +kernel
theorem dX7_copyFrom_20 : decode cX7_copyFrom 20 = .ok (.iconst 0, 1) := by decide +kernel
theorem dX7_copyFrom_21 : decode cX7_copyFrom 21 = .ok (.bipush 16, 2) := by decide +kernel
theorem dX7_copyFrom_23 : decode cX7_copyFrom 23 = .ok (.invokestatic 37, 3) := by decide +kernel
theorem dX7_copyFrom_26 : decode cX7_copyFrom 26 = .ok (.aload_n 0, 1) := by decide +kernel
theorem dX7_copyFrom_27 : decode cX7_copyFrom 27 = .ok (.aload_n 1, 1) := by decide +kernel
theorem dX7_copyFrom_28 : decode cX7_copyFrom 28 = .ok (.getfield 22, 3) := by decide +kernel
theorem dX7_copyFrom_31 : decode cX7_copyFrom 31 = .ok (.putfield 22, 3) := by decide +kernel
theorem dX7_copyFrom_34 : decode cX7_copyFrom 34 = .ok (.aload_n 0, 1) := by decide +kernel
theorem dX7_copyFrom_35 : decode cX7_copyFrom 35 = .ok (.aload_n 1, 1) := by decide +kernel
theorem dX7_copyFrom_36 : decode cX7_copyFrom 36 = .ok (.getfield 30, 3) := by decide +kernel
theorem dX7_copyFrom_39 : decode cX7_copyFrom 39 = .ok (.putfield 30, 3) := by decide +kernel
theorem dX7_copyFrom_42 : decode cX7_copyFrom 42 = .ok (.return_, 1) := by decide +kernel
theorem dX8_init_0 : decode cX8_init 0 = .ok (.aload_n 0, 1) := by decide +kernel
theorem dX8_init_1 : decode cX8_init 1 = .ok (.invokespecial 3, 3) := by decide +kernel
theorem dX8_init_4 : decode cX8_init 4 = .ok (.aload_n 0, 1) := by decide +kernel
theorem dX8_init_5 : decode cX8_init 5 = .ok (.sipush 500, 3) := by decide +kernel
theorem dX8_init_8 : decode cX8_init 8 = .ok (.newarray .int, 2) := by decide +kernel
theorem dX8_init_10 : decode cX8_init 10 = .ok (.putfield 9, 3) := by decide +kernel
theorem dX8_init_13 : decode cX8_init 13 = .ok (.return_, 1) := by decide +kernel
theorem dX8_append_0 : decode cX8_append 0 = .ok (.aload_n 0, 1) := by decide +kernel
theorem dX8_append_1 : decode cX8_append 1 = .ok (.getfield 15, 3) := by decide +kernel
theorem dX8_append_4 : decode cX8_append 4 = .ok (.ifCond .lt 17, 3) := by decide +kernel
theorem dX8_append_7 : decode cX8_append 7 = .ok (.aload_n 0, 1) := by decide +kernel
theorem dX8_append_8 : decode cX8_append 8 = .ok (.getfield 15, 3) := by decide +kernel
theorem dX8_append_11 : decode cX8_append 11 = .ok (.aload_n 0, 1) := by decide +kernel
theorem dX8_append_12 : decode cX8_append 12 = .ok (.getfield 9, 3) := by decide +kernel
theorem dX8_append_15 : decode cX8_append 15 = .ok (.arraylength, 1) := by decide +kernel
theorem dX8_append_16 : decode cX8_append 16 = .ok (.iconst 4, 1) := by decide +kernel
theorem dX8_append_17 : decode cX8_append 17 = .ok (.isub, 1) := by decide +kernel
theorem dX8_append_18 : decode cX8_append 18 = .ok (.if_icmp .le 5, 3) := by decide +kernel
theorem dX8_append_21 : decode cX8_append 21 = .ok (.iconst (-1), 1) := by decide +kernel
theorem dX8_append_22 : decode cX8_append 22 = .ok (.ireturn, 1) := by decide +kernel
theorem dX8_append_23 : decode cX8_append 23 = .ok (.aload_n 0, 1) := by decide +kernel
theorem dX8_append_24 : decode cX8_append 24 = .ok (.getfield 9, 3) := by decide +kernel
theorem dX8_append_27 : decode cX8_append 27 = .ok (.aload_n 0, 1) := by decide +kernel
theorem dX8_append_28 : decode cX8_append 28 = .ok (.getfield 15, 3) := by decide +kernel
theorem dX8_append_31 : decode cX8_append 31 = .ok (.iload_n 1, 1) := by decide +kernel
theorem dX8_append_32 : decode cX8_append 32 = .ok (.bipush 24, 2) := by decide +kernel
theorem dX8_append_34 : decode cX8_append 34 = .ok (.ishr, 1) := by decide +kernel
theorem dX8_append_35 : decode cX8_append 35 = .ok (.sipush 255, 3) := by decide +kernel
theorem dX8_append_38 : decode cX8_append 38 = .ok (.iand, 1) := by decide +kernel
theorem dX8_append_39 : decode cX8_append 39 = .ok (.iastore, 1) := by decide +kernel
theorem dX8_append_40 : decode cX8_append 40 = .ok (.aload_n 0, 1) := by decide +kernel
theorem dX8_append_41 : decode cX8_append 41 = .ok (.getfield 9, 3) := by decide +kernel
theorem dX8_append_44 : decode cX8_append 44 = .ok (.aload_n 0, 1) := by decide +kernel
theorem dX8_append_45 : decode cX8_append 45 = .ok (.getfield 15, 3) := by decide +kernel
theorem dX8_append_48 : decode cX8_append 48 = .ok (.iconst 1, 1) := by decide +kernel
theorem dX8_append_49 : decode cX8_append 49 = .ok (.iadd, 1) := by decide +kernel
theorem dX8_append_50 : decode cX8_append 50 = .ok (.iload_n 1, 1) := by decide +kernel
theorem dX8_append_51 : decode cX8_append 51 = .ok (.bipush 16, 2) := by decide +kernel
theorem dX8_append_53 : decode cX8_append 53 = .ok (.ishr, 1) := by decide +kernel
theorem dX8_append_54 : decode cX8_append 54 = .ok (.sipush 255, 3) := by decide +kernel
theorem dX8_append_57 : decode cX8_append 57 = .ok (.iand, 1) := by decide +kernel
theorem dX8_append_58 : decode cX8_append 58 = .ok (.iastore, 1) := by decide +kernel
theorem dX8_append_59 : decode cX8_append 59 = .ok (.aload_n 0, 1) := by decide +kernel
theorem dX8_append_60 : decode cX8_append 60 = .ok (.getfield 9, 3) := by decide +kernel
theorem dX8_append_63 : decode cX8_append 63 = .ok (.aload_n 0, 1) := by decide +kernel
theorem dX8_append_64 : decode cX8_append 64 = .ok (.getfield 15, 3) := by decide +kernel
theorem dX8_append_67 : decode cX8_append 67 = .ok (.iconst 2, 1) := by decide +kernel
theorem dX8_append_68 : decode cX8_append 68 = .ok (.iadd, 1) := by decide +kernel
theorem dX8_append_69 : decode cX8_append 69 = .ok (.iload_n 1, 1) := by decide +kernel
theorem dX8_append_70 : decode cX8_append 70 = .ok (.bipush 8, 2) := by decide +kernel
theorem dX8_append_72 : decode cX8_append 72 = .ok (.ishr, 1) := by decide +kernel
theorem dX8_append_73 : decode cX8_append 73 = .ok (.sipush 255, 3) := by decide +kernel
theorem dX8_append_76 : decode cX8_append 76 = .ok (.iand, 1) := by decide +kernel
theorem dX8_append_77 : decode cX8_append 77 = .ok (.iastore, 1) := by decide +kernel
theorem dX8_append_78 : decode cX8_append 78 = .ok (.aload_n 0, 1) := by decide +kernel
theorem dX8_append_79 : decode cX8_append 79 = .ok (.getfield 9, 3) := by decide +kernel
theorem dX8_append_82 : decode cX8_append 82 = .ok (.aload_n 0, 1) := by decide +kernel
theorem dX8_append_83 : decode cX8_append 83 = .ok (.getfield 15, 3) := by decide +kernel
theorem dX8_append_86 : decode cX8_append 86 = .ok (.iconst 3, 1) := by decide +kernel
theorem dX8_append_87 : decode cX8_append 87 = .ok (.iadd, 1) := by decide +kernel
theorem dX8_append_88 : decode cX8_append 88 = .ok (.iload_n 1, 1) := by decide +kernel
theorem dX8_append_89 : decode cX8_append 89 = .ok (.sipush 255, 3) := by decide +kernel
theorem dX8_append_92 : decode cX8_append 92 = .ok (.iand, 1) := by decide +kernel
theorem dX8_append_93 : decode cX8_append 93 = .ok (.iastore, 1) := by decide +kernel
theorem dX8_append_94 : decode cX8_append 94 = .ok (.aload_n 0, 1) := by decide +kernel
theorem dX8_append_95 : decode cX8_append 95 = .ok (.dup, 1) := by decide +kernel
theorem dX8_append_96 : decode cX8_append 96 = .ok (.getfield 15, 3) := by decide +kernel
theorem dX8_append_99 : decode cX8_append 99 = .ok (.iconst 4, 1) := by decide +kernel
theorem dX8_append_100 : decode cX8_append 100 = .ok (.iadd, 1) := by decide +kernel
theorem dX8_append_101 : decode cX8_append 101 = .ok (.putfield 15, 3) := by decide +kernel
theorem dX8_append_104 : decode cX8_append 104 = .ok (.aload_n 0, 1) := by decide +kernel
theorem dX8_append_105 : decode cX8_append 105 = .ok (.getfield 15, 3) := by decide +kernel
theorem dX8_append_108 : decode cX8_append 108 = .ok (.ireturn, 1) := by decide +kernel
theorem dX8_byteAt_0 : decode cX8_byteAt 0 = .ok (.iload_n 1, 1) := by decide +kernel
theorem dX8_byteAt_1 : decode cX8_byteAt 1 = .ok (.ifCond .lt 20, 3) := by decide +kernel
theorem dX8_byteAt_4 : decode cX8_byteAt 4 = .ok (.iload_n 1, 1) := by decide +kernel
theorem dX8_byteAt_5 : decode cX8_byteAt 5 = .ok (.aload_n 0, 1) := by decide +kernel
theorem dX8_byteAt_6 : decode cX8_byteAt 6 = .ok (.getfield 15, 3) := by decide +kernel
theorem dX8_byteAt_9 : decode cX8_byteAt 9 = .ok (.if_icmp .ge 12, 3) := by decide +kernel
theorem dX8_byteAt_12 : decode cX8_byteAt 12 = .ok (.iload_n 1, 1) := by decide +kernel
theorem dX8_byteAt_13 : decode cX8_byteAt 13 = .ok (.aload_n 0, 1) := by decide +kernel
theorem dX8_byteAt_14 : decode cX8_byteAt 14 = .ok (.getfield 9, 3) := by decide +kernel
theorem dX8_byteAt_17 : decode cX8_byteAt 17 = .ok (.arraylength, 1) := by decide +kernel
theorem dX8_byteAt_18 : decode cX8_byteAt 18 = .ok (.if_icmp .lt 7, 3) := by decide +kernel
theorem dX8_byteAt_21 : decode cX8_byteAt 21 = .ok (.iconst (-1), 1) := by decide +kernel
theorem dX8_byteAt_22 : decode cX8_byteAt 22 = .ok (.goto 9, 3) := by decide +kernel
theorem dX8_byteAt_25 : decode cX8_byteAt 25 = .ok (.aload_n 0, 1) := by decide +kernel
theorem dX8_byteAt_26 : decode cX8_byteAt 26 = .ok (.getfield 9, 3) := by decide +kernel
theorem dX8_byteAt_29 : decode cX8_byteAt 29 = .ok (.iload_n 1, 1) := by decide +kernel
theorem dX8_byteAt_30 : decode cX8_byteAt 30 = .ok (.iaload, 1) := by decide +kernel
theorem dX8_byteAt_31 : decode cX8_byteAt 31 = .ok (.ireturn, 1) := by decide +kernel
theorem dX8_holds_0 : decode cX8_holds 0 = .ok (.iload_n 3, 1) := by decide +kernel
theorem dX8_holds_1 : decode cX8_holds 1 = .ok (.iload_n 2, 1) := by decide +kernel
theorem dX8_holds_2 : decode cX8_holds 2 = .ok (.isub, 1) := by decide +kernel
theorem dX8_holds_3 : decode cX8_holds 3 = .ok (.aload_n 1, 1) := by decide +kernel
theorem dX8_holds_4 : decode cX8_holds 4 = .ok (.invokevirtual 19, 3) := by decide +kernel
theorem dX8_holds_7 : decode cX8_holds 7 = .ok (.if_icmp .eq 5, 3) := by decide +kernel
theorem dX8_holds_10 : decode cX8_holds 10 = .ok (.iconst 0, 1) := by decide +kernel
theorem dX8_holds_11 : decode cX8_holds 11 = .ok (.ireturn, 1) := by decide +kernel
theorem dX8_holds_12 : decode cX8_holds 12 = .ok (.iconst 0, 1) := by decide +kernel
theorem dX8_holds_13 : decode cX8_holds 13 = .ok (.istore 4, 2) := by decide +kernel
theorem dX8_holds_15 : decode cX8_holds 15 = .ok (.iload 4, 2) := by decide +kernel
theorem dX8_holds_17 : decode cX8_holds 17 = .ok (.aload_n 1, 1) := by decide +kernel
theorem dX8_holds_18 : decode cX8_holds 18 = .ok (.invokevirtual 19, 3) := by decide +kernel
theorem dX8_holds_21 : decode cX8_holds 21 = .ok (.if_icmp .ge 28, 3) := by decide +kernel
theorem dX8_holds_24 : decode cX8_holds 24 = .ok (.aload_n 0, 1) := by decide +kernel
theorem dX8_holds_25 : decode cX8_holds 25 = .ok (.iload_n 2, 1) := by decide +kernel
theorem dX8_holds_26 : decode cX8_holds 26 = .ok (.iload 4, 2) := by decide +kernel
theorem dX8_holds_28 : decode cX8_holds 28 = .ok (.iadd, 1) := by decide +kernel
theorem dX8_holds_29 : decode cX8_holds 29 = .ok (.invokevirtual 24, 3) := by decide +kernel
theorem dX8_holds_32 : decode cX8_holds 32 = .ok (.aload_n 1, 1) := by decide +kernel
theorem dX8_holds_33 : decode cX8_holds 33 = .ok (.iload 4, 2) := by decide +kernel
theorem dX8_holds_35 : decode cX8_holds 35 = .ok (.invokevirtual 28, 3) := by decide +kernel
theorem dX8_holds_38 : decode cX8_holds 38 = .ok (.if_icmp .eq 5, 3) := by decide +kernel
theorem dX8_holds_41 : decode cX8_holds 41 = .ok (.iconst 0, 1) := by decide +kernel
theorem dX8_holds_42 : decode cX8_holds 42 = .ok (.ireturn, 1) := by decide +kernel
theorem dX8_holds_43 : decode cX8_holds 43 = .ok (.iinc 4 1, 3) := by decide +kernel
theorem dX8_holds_46 : decode cX8_holds 46 = .ok (.goto (-31), 3) := by decide +kernel
theorem dX8_holds_49 : decode cX8_holds 49 = .ok (.iconst 1, 1) := by decide +kernel
theorem dX8_holds_50 : decode cX8_holds 50 = .ok (.ireturn, 1) := by decide +kernel
theorem dX9_init_0 : decode cX9_init 0 = .ok (.aload_n 0, 1) := by decide +kernel
theorem dX9_init_1 : decode cX9_init 1 = .ok (.invokespecial 3, 3) := by decide +kernel
theorem dX9_init_4 : decode cX9_init 4 = .ok (.aload_n 0, 1) := by decide +kernel
theorem dX9_init_5 : decode cX9_init 5 = .ok (.sipush 501, 3) := by decide +kernel
theorem dX9_init_8 : decode cX9_init 8 = .ok (.newarray .int, 2) := by decide +kernel
theorem dX9_init_10 : decode cX9_init 10 = .ok (.putfield 9, 3) := by decide +kernel
theorem dX9_init_13 : decode cX9_init 13 = .ok (.aload_n 0, 1) := by decide +kernel
theorem dX9_init_14 : decode cX9_init 14 = .ok (.sipush 501, 3) := by decide +kernel
theorem dX9_init_17 : decode cX9_init 17 = .ok (.newarray .int, 2) := by decide +kernel
theorem dX9_init_19 : decode cX9_init 19 = .ok (.putfield 15, 3) := by decide +kernel
theorem dX9_init_22 : decode cX9_init 22 = .ok (.aload_n 0, 1) := by decide +kernel
theorem dX9_init_23 : decode cX9_init 23 = .ok (.sipush 501, 3) := by decide +kernel
theorem dX9_init_26 : decode cX9_init 26 = .ok (.newarray .int, 2) := by decide +kernel
theorem dX9_init_28 : decode cX9_init 28 = .ok (.putfield 18, 3) := by decide +kernel
theorem dX9_init_31 : decode cX9_init 31 = .ok (.return_, 1) := by decide +kernel
theorem dX9_kindAt_0 : decode cX9_kindAt 0 = .ok (.iload_n 1, 1) := by decide +kernel
theorem dX9_kindAt_1 : decode cX9_kindAt 1 = .ok (.ifCond .lt 12, 3) := by decide +kernel
theorem dX9_kindAt_4 : decode cX9_kindAt 4 = .ok (.iload_n 1, 1) := by decide +kernel
theorem dX9_kindAt_5 : decode cX9_kindAt 5 = .ok (.aload_n 0, 1) := by decide +kernel
theorem dX9_kindAt_6 : decode cX9_kindAt 6 = .ok (.getfield 9, 3) := by decide +kernel
theorem dX9_kindAt_9 : decode cX9_kindAt 9 = .ok (.arraylength, 1) := by decide +kernel
theorem dX9_kindAt_10 : decode cX9_kindAt 10 = .ok (.if_icmp .lt 7, 3) := by decide +kernel
theorem dX9_kindAt_13 : decode cX9_kindAt 13 = .ok (.iconst 0, 1) := by decide +kernel
theorem dX9_kindAt_14 : decode cX9_kindAt 14 = .ok (.goto 9, 3) := by decide +kernel
theorem dX9_kindAt_17 : decode cX9_kindAt 17 = .ok (.aload_n 0, 1) := by decide +kernel
theorem dX9_kindAt_18 : decode cX9_kindAt 18 = .ok (.getfield 9, 3) := by decide +kernel
theorem dX9_kindAt_21 : decode cX9_kindAt 21 = .ok (.iload_n 1, 1) := by decide +kernel
theorem dX9_kindAt_22 : decode cX9_kindAt 22 = .ok (.iaload, 1) := by decide +kernel
theorem dX9_kindAt_23 : decode cX9_kindAt 23 = .ok (.ireturn, 1) := by decide +kernel
theorem dX9_startAt_0 : decode cX9_startAt 0 = .ok (.aload_n 0, 1) := by decide +kernel
theorem dX9_startAt_1 : decode cX9_startAt 1 = .ok (.getfield 15, 3) := by decide +kernel
theorem dX9_startAt_4 : decode cX9_startAt 4 = .ok (.iload_n 1, 1) := by decide +kernel
theorem dX9_startAt_5 : decode cX9_startAt 5 = .ok (.invokestatic 21, 3) := by decide +kernel
theorem dX9_startAt_8 : decode cX9_startAt 8 = .ok (.ireturn, 1) := by decide +kernel
theorem dX9_valueAt_0 : decode cX9_valueAt 0 = .ok (.aload_n 0, 1) := by decide +kernel
theorem dX9_valueAt_1 : decode cX9_valueAt 1 = .ok (.getfield 18, 3) := by decide +kernel
theorem dX9_valueAt_4 : decode cX9_valueAt 4 = .ok (.iload_n 1, 1) := by decide +kernel
theorem dX9_valueAt_5 : decode cX9_valueAt 5 = .ok (.invokestatic 21, 3) := by decide +kernel
theorem dX9_valueAt_8 : decode cX9_valueAt 8 = .ok (.ireturn, 1) := by decide +kernel
theorem dX9_split_0 : decode cX9_split 0 = .ok (.aload_n 0, 1) := by decide +kernel
theorem dX9_split_1 : decode cX9_split 1 = .ok (.iconst 0, 1) := by decide +kernel
theorem dX9_split_2 : decode cX9_split 2 = .ok (.putfield 25, 3) := by decide +kernel
theorem dX9_split_5 : decode cX9_split 5 = .ok (.iconst 0, 1) := by decide +kernel
theorem dX9_split_6 : decode cX9_split 6 = .ok (.istore_n 2, 1) := by decide +kernel
theorem dX9_split_7 : decode cX9_split 7 = .ok (.iconst 0, 1) := by decide +kernel
theorem dX9_split_8 : decode cX9_split 8 = .ok (.istore_n 3, 1) := by decide +kernel
theorem dX9_split_9 : decode cX9_split 9 = .ok (.iload_n 3, 1) := by decide +kernel
theorem dX9_split_10 : decode cX9_split 10 = .ok (.sipush 500, 3) := by decide +kernel
theorem dX9_split_13 : decode cX9_split 13 = .ok (.if_icmp .ge 70, 3) := by decide +kernel
theorem dX9_split_16 : decode cX9_split 16 = .ok (.iload_n 2, 1) := by decide +kernel
theorem dX9_split_17 : decode cX9_split 17 = .ok (.aload_n 1, 1) := by decide +kernel
theorem dX9_split_18 : decode cX9_split 18 = .ok (.getfield 29, 3) := by decide +kernel
theorem dX9_split_21 : decode cX9_split 21 = .ok (.if_icmp .ge 62, 3) := by decide +kernel
theorem dX9_split_24 : decode cX9_split 24 = .ok (.aload_n 1, 1) := by decide +kernel
theorem dX9_split_25 : decode cX9_split 25 = .ok (.iload_n 2, 1) := by decide +kernel
theorem dX9_split_26 : decode cX9_split 26 = .ok (.invokevirtual 34, 3) := by decide +kernel
theorem dX9_split_29 : decode cX9_split 29 = .ok (.istore 4, 2) := by decide +kernel
theorem dX9_split_31 : decode cX9_split 31 = .ok (.iload 4, 2) := by decide +kernel
theorem dX9_split_33 : decode cX9_split 33 = .ok (.invokestatic 38, 3) := by decide +kernel
theorem dX9_split_36 : decode cX9_split 36 = .ok (.ifCond .eq 13, 3) := by decide +kernel
theorem dX9_split_39 : decode cX9_split 39 = .ok (.aload_n 0, 1) := by decide +kernel
theorem dX9_split_40 : decode cX9_split 40 = .ok (.aload_n 1, 1) := by decide +kernel
theorem dX9_split_41 : decode cX9_split 41 = .ok (.iload_n 2, 1) := by decide +kernel
theorem dX9_split_42 : decode cX9_split 42 = .ok (.invokevirtual 42, 3) := by decide +kernel
theorem dX9_split_45 : decode cX9_split 45 = .ok (.istore_n 2, 1) := by decide +kernel
theorem dX9_split_46 : decode cX9_split 46 = .ok (.goto 31, 3) := by decide +kernel
theorem dX9_split_49 : decode cX9_split 49 = .ok (.iload 4, 2) := by decide +kernel
theorem dX9_split_51 : decode cX9_split 51 = .ok (.invokestatic 46, 3) := by decide +kernel
theorem dX9_split_54 : decode cX9_split 54 = .ok (.ifCond .eq 13, 3) := by decide +kernel
theorem dX9_split_57 : decode cX9_split 57 = .ok (.aload_n 0, 1) := by decide +kernel
theorem dX9_split_58 : decode cX9_split 58 = .ok (.aload_n 1, 1) := by decide +kernel
theorem dX9_split_59 : decode cX9_split 59 = .ok (.iload_n 2, 1) := by decide +kernel
theorem dX9_split_60 : decode cX9_split 60 = .ok (.invokevirtual 49, 3) := by decide +kernel
theorem dX9_split_63 : decode cX9_split 63 = .ok (.istore_n 2, 1) := by decide +kernel
theorem dX9_split_64 : decode cX9_split 64 = .ok (.goto 13, 3) := by decide +kernel
theorem dX9_split_67 : decode cX9_split 67 = .ok (.aload_n 0, 1) := by decide +kernel
theorem dX9_split_68 : decode cX9_split 68 = .ok (.iload 4, 2) := by decide +kernel
theorem dX9_split_70 : decode cX9_split 70 = .ok (.iload_n 2, 1) := by decide +kernel
theorem dX9_split_71 : decode cX9_split 71 = .ok (.invokevirtual 52, 3) := by decide +kernel
theorem dX9_split_74 : decode cX9_split 74 = .ok (.iinc 2 1, 3) := by decide +kernel
theorem dX9_split_77 : decode cX9_split 77 = .ok (.iinc 3 1, 3) := by decide +kernel
theorem dX9_split_80 : decode cX9_split 80 = .ok (.goto (-71), 3) := by decide +kernel
theorem dX9_split_83 : decode cX9_split 83 = .ok (.aload_n 0, 1) := by decide +kernel
theorem dX9_split_84 : decode cX9_split 84 = .ok (.iconst 0, 1) := by decide +kernel
theorem dX9_split_85 : decode cX9_split 85 = .ok (.aload_n 1, 1) := by decide +kernel
theorem dX9_split_86 : decode cX9_split 86 = .ok (.getfield 29, 3) := by decide +kernel
theorem dX9_split_89 : decode cX9_split 89 = .ok (.iconst 0, 1) := by decide +kernel
theorem dX9_split_90 : decode cX9_split 90 = .ok (.invokevirtual 56, 3) := by decide +kernel
theorem dX9_split_93 : decode cX9_split 93 = .ok (.return_, 1) := by decide +kernel
theorem dX9_append_0 : decode cX9_append 0 = .ok (.aload_n 0, 1) := by decide +kernel
theorem dX9_append_1 : decode cX9_append 1 = .ok (.getfield 25, 3) := by decide +kernel
theorem dX9_append_4 : decode cX9_append 4 = .ok (.ifCond .lt 15, 3) := by decide +kernel
theorem dX9_append_7 : decode cX9_append 7 = .ok (.aload_n 0, 1) := by decide +kernel
theorem dX9_append_8 : decode cX9_append 8 = .ok (.getfield 25, 3) := by decide +kernel
theorem dX9_append_11 : decode cX9_append 11 = .ok (.aload_n 0, 1) := by decide +kernel
theorem dX9_append_12 : decode cX9_append 12 = .ok (.getfield 9, 3) := by decide +kernel
theorem dX9_append_15 : decode cX9_append 15 = .ok (.arraylength, 1) := by decide +kernel
theorem dX9_append_16 : decode cX9_append 16 = .ok (.if_icmp .lt 4, 3) := by decide +kernel
theorem dX9_append_19 : decode cX9_append 19 = .ok (.return_, 1) := by decide +kernel
theorem dX9_append_20 : decode cX9_append 20 = .ok (.aload_n 0, 1) := by decide +kernel
theorem dX9_append_21 : decode cX9_append 21 = .ok (.getfield 9, 3) := by decide +kernel
theorem dX9_append_24 : decode cX9_append 24 = .ok (.aload_n 0, 1) := by decide +kernel
theorem dX9_append_25 : decode cX9_append 25 = .ok (.getfield 25, 3) := by decide +kernel
theorem dX9_append_28 : decode cX9_append 28 = .ok (.iload_n 1, 1) := by decide +kernel
theorem dX9_append_29 : decode cX9_append 29 = .ok (.iastore, 1) := by decide +kernel
theorem dX9_append_30 : decode cX9_append 30 = .ok (.aload_n 0, 1) := by decide +kernel
theorem dX9_append_31 : decode cX9_append 31 = .ok (.getfield 15, 3) := by decide +kernel
theorem dX9_append_34 : decode cX9_append 34 = .ok (.aload_n 0, 1) := by decide +kernel
theorem dX9_append_35 : decode cX9_append 35 = .ok (.getfield 25, 3) := by decide +kernel
theorem dX9_append_38 : decode cX9_append 38 = .ok (.iload_n 2, 1) := by decide +kernel
theorem dX9_append_39 : decode cX9_append 39 = .ok (.iastore, 1) := by decide +kernel
theorem dX9_append_40 : decode cX9_append 40 = .ok (.aload_n 0, 1) := by decide +kernel
theorem dX9_append_41 : decode cX9_append 41 = .ok (.getfield 18, 3) := by decide +kernel
theorem dX9_append_44 : decode cX9_append 44 = .ok (.aload_n 0, 1) := by decide +kernel
theorem dX9_append_45 : decode cX9_append 45 = .ok (.getfield 25, 3) := by decide +kernel
theorem dX9_append_48 : decode cX9_append 48 = .ok (.iload_n 3, 1) := by decide +kernel
theorem dX9_append_49 : decode cX9_append 49 = .ok (.iastore, 1) := by decide +kernel
theorem dX9_append_50 : decode cX9_append 50 = .ok (.aload_n 0, 1) := by decide +kernel
theorem dX9_append_51 : decode cX9_append 51 = .ok (.dup, 1) := by decide +kernel
theorem dX9_append_52 : decode cX9_append 52 = .ok (.getfield 25, 3) := by decide +kernel
theorem dX9_append_55 : decode cX9_append 55 = .ok (.iconst 1, 1) := by decide +kernel
theorem dX9_append_56 : decode cX9_append 56 = .ok (.iadd, 1) := by decide +kernel
theorem dX9_append_57 : decode cX9_append 57 = .ok (.putfield 25, 3) := by decide +kernel
theorem dX9_append_60 : decode cX9_append 60 = .ok (.return_, 1) := by decide +kernel
theorem dX9_takeSign_0 : decode cX9_takeSign 0 = .ok (.iload_n 1, 1) := by decide +kernel
theorem dX9_takeSign_1 : decode cX9_takeSign 1 = .ok (.bipush 32, 2) := by decide +kernel
theorem dX9_takeSign_3 : decode cX9_takeSign 3 = .ok (.if_icmp .eq 9, 3) := by decide +kernel
theorem dX9_takeSign_6 : decode cX9_takeSign 6 = .ok (.iload_n 1, 1) := by decide +kernel
theorem dX9_takeSign_7 : decode cX9_takeSign 7 = .ok (.bipush 10, 2) := by decide +kernel
theorem dX9_takeSign_9 : decode cX9_takeSign 9 = .ok (.if_icmp .ne 4, 3) := by decide +kernel
theorem dX9_takeSign_12 : decode cX9_takeSign 12 = .ok (.return_, 1) := by decide +kernel
theorem dX9_takeSign_13 : decode cX9_takeSign 13 = .ok (.aload_n 0, 1) := by decide +kernel
theorem dX9_takeSign_14 : decode cX9_takeSign 14 = .ok (.iload_n 1, 1) := by decide +kernel
theorem dX9_takeSign_15 : decode cX9_takeSign 15 = .ok (.bipush 59, 2) := by decide +kernel
theorem dX9_takeSign_17 : decode cX9_takeSign 17 = .ok (.if_icmp .ne 7, 3) := by decide +kernel
theorem dX9_takeSign_20 : decode cX9_takeSign 20 = .ok (.iconst 2, 1) := by decide +kernel
theorem dX9_takeSign_21 : decode cX9_takeSign 21 = .ok (.goto 14, 3) := by decide +kernel
theorem dX9_takeSign_24 : decode cX9_takeSign 24 = .ok (.iload_n 1, 1) := by decide +kernel
theorem dX9_takeSign_25 : decode cX9_takeSign 25 = .ok (.bipush 45, 2) := by decide +kernel
theorem dX9_takeSign_27 : decode cX9_takeSign 27 = .ok (.if_icmp .ne 7, 3) := by decide +kernel
theorem dX9_takeSign_30 : decode cX9_takeSign 30 = .ok (.iconst 3, 1) := by decide +kernel
theorem dX9_takeSign_31 : decode cX9_takeSign 31 = .ok (.goto 4, 3) := by decide +kernel
theorem dX9_takeSign_34 : decode cX9_takeSign 34 = .ok (.iconst 1, 1) := by decide +kernel
theorem dX9_takeSign_35 : decode cX9_takeSign 35 = .ok (.iload_n 2, 1) := by decide +kernel
theorem dX9_takeSign_36 : decode cX9_takeSign 36 = .ok (.iconst 0, 1) := by decide +kernel
theorem dX9_takeSign_37 : decode cX9_takeSign 37 = .ok (.invokevirtual 56, 3) := by decide +kernel
theorem dX9_takeSign_40 : decode cX9_takeSign 40 = .ok (.return_, 1) := by decide +kernel
theorem dX9_takeNumber_0 : decode cX9_takeNumber 0 = .ok (.iload_n 2, 1) := by decide +kernel
theorem dX9_takeNumber_1 : decode cX9_takeNumber 1 = .ok (.istore_n 3, 1) := by decide +kernel
theorem dX9_takeNumber_2 : decode cX9_takeNumber 2 = .ok (.iconst 0, 1) := by decide +kernel
theorem dX9_takeNumber_3 : decode cX9_takeNumber 3 = .ok (.istore 4, 2) := by decide +kernel
theorem dX9_takeNumber_5 : decode cX9_takeNumber 5 = .ok (.iload_n 3, 1) := by decide +kernel
theorem dX9_takeNumber_6 : decode cX9_takeNumber 6 = .ok (.aload_n 1, 1) := by decide +kernel
theorem dX9_takeNumber_7 : decode cX9_takeNumber 7 = .ok (.getfield 29, 3) := by decide +kernel
theorem dX9_takeNumber_10 : decode cX9_takeNumber 10 = .ok (.if_icmp .ge 41, 3) := by decide +kernel
theorem dX9_takeNumber_13 : decode cX9_takeNumber 13 = .ok (.aload_n 1, 1) := by decide +kernel
theorem dX9_takeNumber_14 : decode cX9_takeNumber 14 = .ok (.iload_n 3, 1) := by decide +kernel
theorem dX9_takeNumber_15 : decode cX9_takeNumber 15 = .ok (.invokevirtual 34, 3) := by decide +kernel
theorem dX9_takeNumber_18 : decode cX9_takeNumber 18 = .ok (.invokestatic 46, 3) := by decide +kernel
theorem dX9_takeNumber_21 : decode cX9_takeNumber 21 = .ok (.ifCond .eq 30, 3) := by decide +kernel
theorem dX9_takeNumber_24 : decode cX9_takeNumber 24 = .ok (.iload 4, 2) := by decide +kernel
theorem dX9_takeNumber_26 : decode cX9_takeNumber 26 = .ok (.bipush 10, 2) := by decide +kernel
theorem dX9_takeNumber_28 : decode cX9_takeNumber 28 = .ok (.imul, 1) := by decide +kernel
theorem dX9_takeNumber_29 : decode cX9_takeNumber 29 = .ok (.aload_n 1, 1) := by decide +kernel
theorem dX9_takeNumber_30 : decode cX9_takeNumber 30 = .ok (.iload_n 3, 1) := by decide +kernel
theorem dX9_takeNumber_31 : decode cX9_takeNumber 31 = .ok (.invokevirtual 34, 3) := by decide +kernel
theorem dX9_takeNumber_34 : decode cX9_takeNumber 34 = .ok (.iadd, 1) := by decide +kernel
theorem dX9_takeNumber_35 : decode cX9_takeNumber 35 = .ok (.bipush 48, 2) := by decide +kernel
theorem dX9_takeNumber_37 : decode cX9_takeNumber 37 = .ok (.isub, 1) := by decide +kernel
theorem dX9_takeNumber_38 : decode cX9_takeNumber 38 = .ok (.ldc 60, 2) := by decide +kernel
theorem dX9_takeNumber_40 : decode cX9_takeNumber 40 = .ok (.invokestatic 61, 3) := by decide +kernel
theorem dX9_takeNumber_43 : decode cX9_takeNumber 43 = .ok (.istore 4, 2) := by decide +kernel
theorem dX9_takeNumber_45 : decode cX9_takeNumber 45 = .ok (.iinc 3 1, 3) := by decide +kernel
theorem dX9_takeNumber_48 : decode cX9_takeNumber 48 = .ok (.goto (-43), 3) := by decide +kernel
theorem dX9_takeNumber_51 : decode cX9_takeNumber 51 = .ok (.aload_n 0, 1) := by decide +kernel
theorem dX9_takeNumber_52 : decode cX9_takeNumber 52 = .ok (.iconst 4, 1) := by decide +kernel
theorem dX9_takeNumber_53 : decode cX9_takeNumber 53 = .ok (.iload_n 2, 1) := by decide +kernel
theorem dX9_takeNumber_54 : decode cX9_takeNumber 54 = .ok (.iload 4, 2) := by decide +kernel
theorem dX9_takeNumber_56 : decode cX9_takeNumber 56 = .ok (.invokevirtual 56, 3) := by decide +kernel
theorem dX9_takeNumber_59 : decode cX9_takeNumber 59 = .ok (.iload_n 3, 1) := by decide +kernel
theorem dX9_takeNumber_60 : decode cX9_takeNumber 60 = .ok (.ireturn, 1) := by decide +kernel
theorem dX9_takeWord_0 : decode cX9_takeWord 0 = .ok (.iload_n 2, 1) := by decide +kernel
theorem dX9_takeWord_1 : decode cX9_takeWord 1 = .ok (.istore_n 3, 1) := by decide +kernel
theorem dX9_takeWord_2 : decode cX9_takeWord 2 = .ok (.iload_n 3, 1) := by decide +kernel
theorem dX9_takeWord_3 : decode cX9_takeWord 3 = .ok (.aload_n 1, 1) := by decide +kernel
theorem dX9_takeWord_4 : decode cX9_takeWord 4 = .ok (.getfield 29, 3) := by decide +kernel
theorem dX9_takeWord_7 : decode cX9_takeWord 7 = .ok (.if_icmp .ge 20, 3) := by decide +kernel
theorem dX9_takeWord_10 : decode cX9_takeWord 10 = .ok (.aload_n 1, 1) := by decide +kernel
theorem dX9_takeWord_11 : decode cX9_takeWord 11 = .ok (.iload_n 3, 1) := by decide +kernel
theorem dX9_takeWord_12 : decode cX9_takeWord 12 = .ok (.invokevirtual 34, 3) := by decide +kernel
theorem dX9_takeWord_15 : decode cX9_takeWord 15 = .ok (.invokestatic 38, 3) := by decide +kernel
theorem dX9_takeWord_18 : decode cX9_takeWord 18 = .ok (.ifCond .eq 9, 3) := by decide +kernel
theorem dX9_takeWord_21 : decode cX9_takeWord 21 = .ok (.iinc 3 1, 3) := by decide +kernel
theorem dX9_takeWord_24 : decode cX9_takeWord 24 = .ok (.goto (-22), 3) := by decide +kernel
theorem dX9_takeWord_27 : decode cX9_takeWord 27 = .ok (.aload_n 0, 1) := by decide +kernel
theorem dX9_takeWord_28 : decode cX9_takeWord 28 = .ok (.aload_n 1, 1) := by decide +kernel
theorem dX9_takeWord_29 : decode cX9_takeWord 29 = .ok (.iload_n 2, 1) := by decide +kernel
theorem dX9_takeWord_30 : decode cX9_takeWord 30 = .ok (.iload_n 3, 1) := by decide +kernel
theorem dX9_takeWord_31 : decode cX9_takeWord 31 = .ok (.invokestatic 67, 3) := by decide +kernel
theorem dX9_takeWord_34 : decode cX9_takeWord 34 = .ok (.iload_n 2, 1) := by decide +kernel
theorem dX9_takeWord_35 : decode cX9_takeWord 35 = .ok (.iconst 0, 1) := by decide +kernel
theorem dX9_takeWord_36 : decode cX9_takeWord 36 = .ok (.invokevirtual 56, 3) := by decide +kernel
theorem dX9_takeWord_39 : decode cX9_takeWord 39 = .ok (.iload_n 3, 1) := by decide +kernel
theorem dX9_takeWord_40 : decode cX9_takeWord 40 = .ok (.ireturn, 1) := by decide +kernel
theorem dX9_kindOfWord_0 : decode cX9_kindOfWord 0 = .ok (.aload_n 0, 1) := by decide +kernel
theorem dX9_kindOfWord_1 : decode cX9_kindOfWord 1 = .ok (.ldc 71, 2) := by decide +kernel
theorem dX9_kindOfWord_3 : decode cX9_kindOfWord 3 = .ok (.iload_n 1, 1) := by decide +kernel
theorem dX9_kindOfWord_4 : decode cX9_kindOfWord 4 = .ok (.iload_n 2, 1) := by decide +kernel
theorem dX9_kindOfWord_5 : decode cX9_kindOfWord 5 = .ok (.invokevirtual 73, 3) := by decide +kernel
theorem dX9_kindOfWord_8 : decode cX9_kindOfWord 8 = .ok (.ifCond .eq 5, 3) := by decide +kernel
theorem dX9_kindOfWord_11 : decode cX9_kindOfWord 11 = .ok (.iconst 5, 1) := by decide +kernel
theorem dX9_kindOfWord_12 : decode cX9_kindOfWord 12 = .ok (.ireturn, 1) := by decide +kernel
theorem dX9_kindOfWord_13 : decode cX9_kindOfWord 13 = .ok (.aload_n 0, 1) := by decide +kernel
theorem dX9_kindOfWord_14 : decode cX9_kindOfWord 14 = .ok (.ldc 77, 2) := by decide +kernel
theorem dX9_kindOfWord_16 : decode cX9_kindOfWord 16 = .ok (.iload_n 1, 1) := by decide +kernel
theorem dX9_kindOfWord_17 : decode cX9_kindOfWord 17 = .ok (.iload_n 2, 1) := by decide +kernel
theorem dX9_kindOfWord_18 : decode cX9_kindOfWord 18 = .ok (.invokevirtual 73, 3) := by decide +kernel
theorem dX9_kindOfWord_21 : decode cX9_kindOfWord 21 = .ok (.ifCond .eq 6, 3) := by decide +kernel
theorem dX9_kindOfWord_24 : decode cX9_kindOfWord 24 = .ok (.bipush 6, 2) := by decide +kernel
theorem dX9_kindOfWord_26 : decode cX9_kindOfWord 26 = .ok (.ireturn, 1) := by decide +kernel
theorem dX9_kindOfWord_27 : decode cX9_kindOfWord 27 = .ok (.aload_n 0, 1) := by decide +kernel
theorem dX9_kindOfWord_28 : decode cX9_kindOfWord 28 = .ok (.ldc 79, 2) := by decide +kernel
theorem dX9_kindOfWord_30 : decode cX9_kindOfWord 30 = .ok (.iload_n 1, 1) := by decide +kernel
theorem dX9_kindOfWord_31 : decode cX9_kindOfWord 31 = .ok (.iload_n 2, 1) := by decide +kernel
theorem dX9_kindOfWord_32 : decode cX9_kindOfWord 32 = .ok (.invokevirtual 73, 3) := by decide +kernel
theorem dX9_kindOfWord_35 : decode cX9_kindOfWord 35 = .ok (.ifCond .eq 6, 3) := by decide +kernel
theorem dX9_kindOfWord_38 : decode cX9_kindOfWord 38 = .ok (.bipush 7, 2) := by decide +kernel
theorem dX9_kindOfWord_40 : decode cX9_kindOfWord 40 = .ok (.ireturn, 1) := by decide +kernel
theorem dX9_kindOfWord_41 : decode cX9_kindOfWord 41 = .ok (.aload_n 0, 1) := by decide +kernel
theorem dX9_kindOfWord_42 : decode cX9_kindOfWord 42 = .ok (.ldc 81, 2) := by decide +kernel
theorem dX9_kindOfWord_44 : decode cX9_kindOfWord 44 = .ok (.iload_n 1, 1) := by decide +kernel
theorem dX9_kindOfWord_45 : decode cX9_kindOfWord 45 = .ok (.iload_n 2, 1) := by decide +kernel
theorem dX9_kindOfWord_46 : decode cX9_kindOfWord 46 = .ok (.invokevirtual 73, 3) := by decide +kernel
theorem dX9_kindOfWord_49 : decode cX9_kindOfWord 49 = .ok (.ifCond .eq 6, 3) := by decide +kernel
theorem dX9_kindOfWord_52 : decode cX9_kindOfWord 52 = .ok (.bipush 8, 2) := by decide +kernel
theorem dX9_kindOfWord_54 : decode cX9_kindOfWord 54 = .ok (.ireturn, 1) := by decide +kernel
theorem dX9_kindOfWord_55 : decode cX9_kindOfWord 55 = .ok (.aload_n 0, 1) := by decide +kernel
theorem dX9_kindOfWord_56 : decode cX9_kindOfWord 56 = .ok (.ldc 83, 2) := by decide +kernel
theorem dX9_kindOfWord_58 : decode cX9_kindOfWord 58 = .ok (.iload_n 1, 1) := by decide +kernel
theorem dX9_kindOfWord_59 : decode cX9_kindOfWord 59 = .ok (.iload_n 2, 1) := by decide +kernel
theorem dX9_kindOfWord_60 : decode cX9_kindOfWord 60 = .ok (.invokevirtual 73, 3) := by decide +kernel
theorem dX9_kindOfWord_63 : decode cX9_kindOfWord 63 = .ok (.ifCond .eq 6, 3) := by decide +kernel
theorem dX9_kindOfWord_66 : decode cX9_kindOfWord 66 = .ok (.bipush 9, 2) := by decide +kernel
theorem dX9_kindOfWord_68 : decode cX9_kindOfWord 68 = .ok (.ireturn, 1) := by decide +kernel
theorem dX9_kindOfWord_69 : decode cX9_kindOfWord 69 = .ok (.aload_n 0, 1) := by decide +kernel
theorem dX9_kindOfWord_70 : decode cX9_kindOfWord 70 = .ok (.ldc 85, 2) := by decide +kernel
theorem dX9_kindOfWord_72 : decode cX9_kindOfWord 72 = .ok (.iload_n 1, 1) := by decide +kernel
theorem dX9_kindOfWord_73 : decode cX9_kindOfWord 73 = .ok (.iload_n 2, 1) := by decide +kernel
theorem dX9_kindOfWord_74 : decode cX9_kindOfWord 74 = .ok (.invokevirtual 73, 3) := by decide +kernel
theorem dX9_kindOfWord_77 : decode cX9_kindOfWord 77 = .ok (.ifCond .eq 6, 3) := by decide +kernel
theorem dX9_kindOfWord_80 : decode cX9_kindOfWord 80 = .ok (.bipush 10, 2) := by decide +kernel
theorem dX9_kindOfWord_82 : decode cX9_kindOfWord 82 = .ok (.ireturn, 1) := by decide +kernel
theorem dX9_kindOfWord_83 : decode cX9_kindOfWord 83 = .ok (.aload_n 0, 1) := by decide +kernel
theorem dX9_kindOfWord_84 : decode cX9_kindOfWord 84 = .ok (.ldc 87, 2) := by decide +kernel
theorem dX9_kindOfWord_86 : decode cX9_kindOfWord 86 = .ok (.iload_n 1, 1) := by decide +kernel
theorem dX9_kindOfWord_87 : decode cX9_kindOfWord 87 = .ok (.iload_n 2, 1) := by decide +kernel
theorem dX9_kindOfWord_88 : decode cX9_kindOfWord 88 = .ok (.invokevirtual 73, 3) := by decide +kernel
theorem dX9_kindOfWord_91 : decode cX9_kindOfWord 91 = .ok (.ifCond .eq 8, 3) := by decide +kernel
theorem dX9_kindOfWord_94 : decode cX9_kindOfWord 94 = .ok (.bipush 11, 2) := by decide +kernel
theorem dX9_kindOfWord_96 : decode cX9_kindOfWord 96 = .ok (.goto 4, 3) := by decide +kernel
theorem dX9_kindOfWord_99 : decode cX9_kindOfWord 99 = .ok (.iconst 1, 1) := by decide +kernel
theorem dX9_kindOfWord_100 : decode cX9_kindOfWord 100 = .ok (.ireturn, 1) := by decide +kernel
theorem dX9_isLetter_0 : decode cX9_isLetter 0 = .ok (.iload_n 0, 1) := by decide +kernel
theorem dX9_isLetter_1 : decode cX9_isLetter 1 = .ok (.bipush 97, 2) := by decide +kernel
theorem dX9_isLetter_3 : decode cX9_isLetter 3 = .ok (.if_icmp .lt 13, 3) := by decide +kernel
theorem dX9_isLetter_6 : decode cX9_isLetter 6 = .ok (.iload_n 0, 1) := by decide +kernel
theorem dX9_isLetter_7 : decode cX9_isLetter 7 = .ok (.bipush 122, 2) := by decide +kernel
theorem dX9_isLetter_9 : decode cX9_isLetter 9 = .ok (.if_icmp .gt 7, 3) := by decide +kernel
theorem dX9_isLetter_12 : decode cX9_isLetter 12 = .ok (.iconst 1, 1) := by decide +kernel
theorem dX9_isLetter_13 : decode cX9_isLetter 13 = .ok (.goto 4, 3) := by decide +kernel
theorem dX9_isLetter_16 : decode cX9_isLetter 16 = .ok (.iconst 0, 1) := by decide +kernel
theorem dX9_isLetter_17 : decode cX9_isLetter 17 = .ok (.ireturn, 1) := by decide +kernel
theorem dX9_isDigit_0 : decode cX9_isDigit 0 = .ok (.iload_n 0, 1) := by decide +kernel
theorem dX9_isDigit_1 : decode cX9_isDigit 1 = .ok (.bipush 48, 2) := by decide +kernel
theorem dX9_isDigit_3 : decode cX9_isDigit 3 = .ok (.if_icmp .lt 13, 3) := by decide +kernel
theorem dX9_isDigit_6 : decode cX9_isDigit 6 = .ok (.iload_n 0, 1) := by decide +kernel
theorem dX9_isDigit_7 : decode cX9_isDigit 7 = .ok (.bipush 57, 2) := by decide +kernel
theorem dX9_isDigit_9 : decode cX9_isDigit 9 = .ok (.if_icmp .gt 7, 3) := by decide +kernel
theorem dX9_isDigit_12 : decode cX9_isDigit 12 = .ok (.iconst 1, 1) := by decide +kernel
theorem dX9_isDigit_13 : decode cX9_isDigit 13 = .ok (.goto 4, 3) := by decide +kernel
theorem dX9_isDigit_16 : decode cX9_isDigit 16 = .ok (.iconst 0, 1) := by decide +kernel
theorem dX9_isDigit_17 : decode cX9_isDigit 17 = .ok (.ireturn, 1) := by decide +kernel
theorem dX10_init_0 : decode cX10_init 0 = .ok (.aload_n 0, 1) := by decide +kernel
theorem dX10_init_1 : decode cX10_init 1 = .ok (.invokespecial 1, 3) := by decide +kernel
theorem dX10_init_4 : decode cX10_init 4 = .ok (.aload_n 0, 1) := by decide +kernel
theorem dX10_init_5 : decode cX10_init 5 = .ok (.new 7, 3) := by decide +kernel
theorem dX10_init_8 : decode cX10_init 8 = .ok (.dup, 1) := by decide +kernel
theorem dX10_init_9 : decode cX10_init 9 = .ok (.invokespecial 9, 3) := by decide +kernel
theorem dX10_init_12 : decode cX10_init 12 = .ok (.putfield 10, 3) := by decide +kernel
theorem dX10_init_15 : decode cX10_init 15 = .ok (.aload_n 0, 1) := by decide +kernel
theorem dX10_init_16 : decode cX10_init 16 = .ok (.new 7, 3) := by decide +kernel
theorem dX10_init_19 : decode cX10_init 19 = .ok (.dup, 1) := by decide +kernel
theorem dX10_init_20 : decode cX10_init 20 = .ok (.invokespecial 9, 3) := by decide +kernel
theorem dX10_init_23 : decode cX10_init 23 = .ok (.putfield 16, 3) := by decide +kernel
theorem dX10_init_26 : decode cX10_init 26 = .ok (.aload_n 0, 1) := by decide +kernel
theorem dX10_init_27 : decode cX10_init 27 = .ok (.iconst 2, 1) := by decide +kernel
theorem dX10_init_28 : decode cX10_init 28 = .ok (.anewarray 7, 3) := by decide +kernel
theorem dX10_init_31 : decode cX10_init 31 = .ok (.putfield 19, 3) := by decide +kernel
theorem dX10_init_34 : decode cX10_init 34 = .ok (.aload_n 0, 1) := by decide +kernel
theorem dX10_init_35 : decode cX10_init 35 = .ok (.iconst 2, 1) := by decide +kernel
theorem dX10_init_36 : decode cX10_init 36 = .ok (.newarray .boolean, 2) := by decide +kernel
theorem dX10_init_38 : decode cX10_init 38 = .ok (.putfield 23, 3) := by decide +kernel
theorem dX10_init_41 : decode cX10_init 41 = .ok (.aload_n 0, 1) := by decide +kernel
theorem dX10_init_42 : decode cX10_init 42 = .ok (.new 27, 3) := by decide +kernel
theorem dX10_init_45 : decode cX10_init 45 = .ok (.dup, 1) := by decide +kernel
theorem dX10_init_46 : decode cX10_init 46 = .ok (.invokespecial 29, 3) := by decide +kernel
theorem dX10_init_49 : decode cX10_init 49 = .ok (.putfield 30, 3) := by decide +kernel
theorem dX10_init_52 : decode cX10_init 52 = .ok (.aload_n 0, 1) := by decide +kernel
theorem dX10_init_53 : decode cX10_init 53 = .ok (.new 34, 3) := by decide +kernel
theorem dX10_init_56 : decode cX10_init 56 = .ok (.dup, 1) := by decide +kernel
theorem dX10_init_57 : decode cX10_init 57 = .ok (.invokespecial 36, 3) := by decide +kernel
theorem dX10_init_60 : decode cX10_init 60 = .ok (.putfield 37, 3) := by decide +kernel
theorem dX10_init_63 : decode cX10_init 63 = .ok (.aload_n 0, 1) := by decide +kernel
theorem dX10_init_64 : decode cX10_init 64 = .ok (.new 41, 3) := by decide +kernel
theorem dX10_init_67 : decode cX10_init 67 = .ok (.dup, 1) := by decide +kernel
theorem dX10_init_68 : decode cX10_init 68 = .ok (.invokespecial 43, 3) := by decide +kernel
theorem dX10_init_71 : decode cX10_init 71 = .ok (.putfield 44, 3) := by decide +kernel
theorem dX10_init_74 : decode cX10_init 74 = .ok (.aload_n 0, 1) := by decide +kernel
theorem dX10_init_75 : decode cX10_init 75 = .ok (.new 48, 3) := by decide +kernel
theorem dX10_init_78 : decode cX10_init 78 = .ok (.dup, 1) := by decide +kernel
theorem dX10_init_79 : decode cX10_init 79 = .ok (.invokespecial 50, 3) := by decide +kernel
theorem dX10_init_82 : decode cX10_init 82 = .ok (.putfield 51, 3) := by decide +kernel
theorem dX10_init_85 : decode cX10_init 85 = .ok (.iconst 0, 1) := by decide +kernel
theorem dX10_init_86 : decode cX10_init 86 = .ok (.istore_n 1, 1) := by decide +kernel
theorem dX10_init_87 : decode cX10_init 87 = .ok (.iload_n 1, 1) := by decide +kernel
theorem dX10_init_88 : decode cX10_init 88 = .ok (.iconst 2, 1) := by decide +kernel
theorem dX10_init_89 : decode cX10_init 89 = .ok (.if_icmp .ge 22, 3) := by decide +kernel
theorem dX10_init_92 : decode cX10_init 92 = .ok (.aload_n 0, 1) := by decide +kernel
theorem dX10_init_93 : decode cX10_init 93 = .ok (.getfield 19, 3) := by decide +kernel
theorem dX10_init_96 : decode cX10_init 96 = .ok (.iload_n 1, 1) := by decide +kernel
theorem dX10_init_97 : decode cX10_init 97 = .ok (.new 7, 3) := by decide +kernel
theorem dX10_init_100 : decode cX10_init 100 = .ok (.dup, 1) := by decide +kernel
theorem dX10_init_101 : decode cX10_init 101 = .ok (.invokespecial 9, 3) := by decide +kernel
theorem dX10_init_104 : decode cX10_init 104 = .ok (.aastore, 1) := by decide +kernel
theorem dX10_init_105 : decode cX10_init 105 = .ok (.iinc 1 1, 3) := by decide +kernel
theorem dX10_init_108 : decode cX10_init 108 = .ok (.goto (-21), 3) := by decide +kernel
theorem dX10_init_111 : decode cX10_init 111 = .ok (.return_, 1) := by decide +kernel
theorem dX10_setSound_0 : decode cX10_setSound 0 = .ok (.iload_n 1, 1) := by decide +kernel
theorem dX10_setSound_1 : decode cX10_setSound 1 = .ok (.bipush 100, 2) := by decide +kernel
theorem dX10_setSound_3 : decode cX10_setSound 3 = .ok (.sipush 1000, 3) := by decide +kernel
theorem dX10_setSound_6 : decode cX10_setSound 6 = .ok (.invokestatic 55, 3) := by decide +kernel
theorem dX10_setSound_9 : decode cX10_setSound 9 = .ok (.aload_n 0, 1) := by decide +kernel
theorem dX10_setSound_10 : decode cX10_setSound 10 = .ok (.getfield 10, 3) := by decide +kernel
theorem dX10_setSound_13 : decode cX10_setSound 13 = .ok (.getfield 59, 3) := by decide +kernel
theorem dX10_setSound_16 : decode cX10_setSound 16 = .ok (.istore_n 2, 1) := by decide +kernel
theorem dX10_setSound_17 : decode cX10_setSound 17 = .ok (.aload_n 0, 1) := by decide +kernel
theorem dX10_setSound_18 : decode cX10_setSound 18 = .ok (.getfield 10, 3) := by decide +kernel
theorem dX10_setSound_21 : decode cX10_setSound 21 = .ok (.iload_n 1, 1) := by decide +kernel
theorem dX10_setSound_22 : decode cX10_setSound 22 = .ok (.putfield 59, 3) := by decide +kernel
theorem dX10_setSound_25 : decode cX10_setSound 25 = .ok (.iload_n 2, 1) := by decide +kernel
theorem dX10_setSound_26 : decode cX10_setSound 26 = .ok (.ireturn, 1) := by decide +kernel
theorem dX10_setGround_0 : decode cX10_setGround 0 = .ok (.iload_n 1, 1) := by decide +kernel
theorem dX10_setGround_1 : decode cX10_setGround 1 = .ok (.bipush (-90), 2) := by decide +kernel
theorem dX10_setGround_3 : decode cX10_setGround 3 = .ok (.bipush 90, 2) := by decide +kernel
theorem dX10_setGround_5 : decode cX10_setGround 5 = .ok (.invokestatic 55, 3) := by decide +kernel
theorem dX10_setGround_8 : decode cX10_setGround 8 = .ok (.aload_n 0, 1) := by decide +kernel
theorem dX10_setGround_9 : decode cX10_setGround 9 = .ok (.getfield 10, 3) := by decide +kernel
theorem dX10_setGround_12 : decode cX10_setGround 12 = .ok (.getfield 63, 3) := by decide +kernel
theorem dX10_setGround_15 : decode cX10_setGround 15 = .ok (.istore_n 2, 1) := by decide +kernel
theorem dX10_setGround_16 : decode cX10_setGround 16 = .ok (.aload_n 0, 1) := by decide +kernel
theorem dX10_setGround_17 : decode cX10_setGround 17 = .ok (.getfield 10, 3) := by decide +kernel
theorem dX10_setGround_20 : decode cX10_setGround 20 = .ok (.iload_n 1, 1) := by decide +kernel
theorem dX10_setGround_21 : decode cX10_setGround 21 = .ok (.putfield 63, 3) := by decide +kernel
theorem dX10_setGround_24 : decode cX10_setGround 24 = .ok (.iload_n 2, 1) := by decide +kernel
theorem dX10_setGround_25 : decode cX10_setGround 25 = .ok (.ireturn, 1) := by decide +kernel
theorem dX10_setSpreading_0 : decode cX10_setSpreading 0 = .ok (.aload_n 0, 1) := by decide +kernel
theorem dX10_setSpreading_1 : decode cX10_setSpreading 1 = .ok (.getfield 10, 3) := by decide +kernel
theorem dX10_setSpreading_4 : decode cX10_setSpreading 4 = .ok (.getfield 66, 3) := by decide +kernel
theorem dX10_setSpreading_7 : decode cX10_setSpreading 7 = .ok (.istore_n 2, 1) := by decide +kernel
theorem dX10_setSpreading_8 : decode cX10_setSpreading 8 = .ok (.aload_n 0, 1) := by decide +kernel
theorem dX10_setSpreading_9 : decode cX10_setSpreading 9 = .ok (.getfield 10, 3) := by decide +kernel
theorem dX10_setSpreading_12 : decode cX10_setSpreading 12 = .ok (.iload_n 1, 1) := by decide +kernel
theorem dX10_setSpreading_13 : decode cX10_setSpreading 13 = .ok (.putfield 66, 3) := by decide +kernel
theorem dX10_setSpreading_16 : decode cX10_setSpreading 16 = .ok (.iload_n 2, 1) := by decide +kernel
theorem dX10_setSpreading_17 : decode cX10_setSpreading 17 = .ok (.ireturn, 1) := by decide +kernel
theorem dX10_setNoise_0 : decode cX10_setNoise 0 = .ok (.iload_n 1, 1) := by decide +kernel
theorem dX10_setNoise_1 : decode cX10_setNoise 1 = .ok (.iconst 0, 1) := by decide +kernel
theorem dX10_setNoise_2 : decode cX10_setNoise 2 = .ok (.ldc 72, 2) := by decide +kernel
theorem dX10_setNoise_4 : decode cX10_setNoise 4 = .ok (.invokestatic 55, 3) := by decide +kernel
theorem dX10_setNoise_7 : decode cX10_setNoise 7 = .ok (.iload_n 2, 1) := by decide +kernel
theorem dX10_setNoise_8 : decode cX10_setNoise 8 = .ok (.iconst 0, 1) := by decide +kernel
theorem dX10_setNoise_9 : decode cX10_setNoise 9 = .ok (.bipush 99, 2) := by decide +kernel
theorem dX10_setNoise_11 : decode cX10_setNoise 11 = .ok (.invokestatic 55, 3) := by decide +kernel
theorem dX10_setNoise_14 : decode cX10_setNoise 14 = .ok (.aload_n 0, 1) := by decide +kernel
theorem dX10_setNoise_15 : decode cX10_setNoise 15 = .ok (.getfield 10, 3) := by decide +kernel
theorem dX10_setNoise_18 : decode cX10_setNoise 18 = .ok (.iload_n 1, 1) := by decide +kernel
theorem dX10_setNoise_19 : decode cX10_setNoise 19 = .ok (.i2l, 1) := by decide +kernel
theorem dX10_setNoise_20 : decode cX10_setNoise 20 = .ok (.putfield 73, 3) := by decide +kernel
theorem dX10_setNoise_23 : decode cX10_setNoise 23 = .ok (.aload_n 0, 1) := by decide +kernel
theorem dX10_setNoise_24 : decode cX10_setNoise 24 = .ok (.getfield 10, 3) := by decide +kernel
theorem dX10_setNoise_27 : decode cX10_setNoise 27 = .ok (.iload_n 2, 1) := by decide +kernel
theorem dX10_setNoise_28 : decode cX10_setNoise 28 = .ok (.putfield 77, 3) := by decide +kernel
theorem dX10_setNoise_31 : decode cX10_setNoise 31 = .ok (.return_, 1) := by decide +kernel
theorem dX10_addVehicle_0 : decode cX10_addVehicle 0 = .ok (.iload_n 1, 1) := by decide +kernel
theorem dX10_addVehicle_1 : decode cX10_addVehicle 1 = .ok (.sipush (-20000), 3) := by decide +kernel
theorem dX10_addVehicle_4 : decode cX10_addVehicle 4 = .ok (.sipush 20000, 3) := by decide +kernel
theorem dX10_addVehicle_7 : decode cX10_addVehicle 7 = .ok (.invokestatic 55, 3) := by decide +kernel
theorem dX10_addVehicle_10 : decode cX10_addVehicle 10 = .ok (.iload_n 2, 1) := by decide +kernel
theorem dX10_addVehicle_11 : decode cX10_addVehicle 11 = .ok (.bipush (-50), 2) := by decide +kernel
theorem dX10_addVehicle_13 : decode cX10_addVehicle 13 = .ok (.bipush 50, 2) := by decide +kernel
theorem dX10_addVehicle_15 : decode cX10_addVehicle 15 = .ok (.invokestatic 55, 3) := by decide +kernel
theorem dX10_addVehicle_18 : decode cX10_addVehicle 18 = .ok (.iload_n 3, 1) := by decide +kernel
theorem dX10_addVehicle_19 : decode cX10_addVehicle 19 = .ok (.bipush 100, 2) := by decide +kernel
theorem dX10_addVehicle_21 : decode cX10_addVehicle 21 = .ok (.sipush 5000, 3) := by decide +kernel
theorem dX10_addVehicle_24 : decode cX10_addVehicle 24 = .ok (.invokestatic 55, 3) := by decide +kernel
theorem dX10_addVehicle_27 : decode cX10_addVehicle 27 = .ok (.aload_n 0, 1) := by decide +kernel
theorem dX10_addVehicle_28 : decode cX10_addVehicle 28 = .ok (.getfield 10, 3) := by decide +kernel
theorem dX10_addVehicle_31 : decode cX10_addVehicle 31 = .ok (.iload_n 1, 1) := by decide +kernel
theorem dX10_addVehicle_32 : decode cX10_addVehicle 32 = .ok (.iload_n 2, 1) := by decide +kernel
theorem dX10_addVehicle_33 : decode cX10_addVehicle 33 = .ok (.iload_n 3, 1) := by decide +kernel
theorem dX10_addVehicle_34 : decode cX10_addVehicle 34 = .ok (.invokevirtual 80, 3) := by decide +kernel
theorem dX10_addVehicle_37 : decode cX10_addVehicle 37 = .ok (.invokestatic 84, 3) := by decide +kernel
theorem dX10_addVehicle_40 : decode cX10_addVehicle 40 = .ok (.ireturn, 1) := by decide +kernel
theorem dX10_addSource_0 : decode cX10_addSource 0 = .ok (.iload_n 1, 1) := by decide +kernel
theorem dX10_addSource_1 : decode cX10_addSource 1 = .ok (.aload_n 0, 1) := by decide +kernel
theorem dX10_addSource_2 : decode cX10_addSource 2 = .ok (.getfield 10, 3) := by decide +kernel
theorem dX10_addSource_5 : decode cX10_addSource 5 = .ok (.getfield 88, 3) := by decide +kernel
theorem dX10_addSource_8 : decode cX10_addSource 8 = .ok (.invokestatic 91, 3) := by decide +kernel
theorem dX10_addSource_11 : decode cX10_addSource 11 = .ok (.iload_n 2, 1) := by decide +kernel
theorem dX10_addSource_12 : decode cX10_addSource 12 = .ok (.sipush (-1000), 3) := by decide +kernel
theorem dX10_addSource_15 : decode cX10_addSource 15 = .ok (.sipush 1000, 3) := by decide +kernel
theorem dX10_addSource_18 : decode cX10_addSource 18 = .ok (.invokestatic 55, 3) := by decide +kernel
theorem dX10_addSource_21 : decode cX10_addSource 21 = .ok (.iload_n 3, 1) := by decide +kernel
theorem dX10_addSource_22 : decode cX10_addSource 22 = .ok (.iconst 0, 1) := by decide +kernel
theorem dX10_addSource_23 : decode cX10_addSource 23 = .ok (.sipush 500, 3) := by decide +kernel
theorem dX10_addSource_26 : decode cX10_addSource 26 = .ok (.invokestatic 55, 3) := by decide +kernel
theorem dX10_addSource_29 : decode cX10_addSource 29 = .ok (.iload 4, 2) := by decide +kernel
theorem dX10_addSource_31 : decode cX10_addSource 31 = .ok (.iconst 1, 1) := by decide +kernel
theorem dX10_addSource_32 : decode cX10_addSource 32 = .ok (.bipush 10, 2) := by decide +kernel
theorem dX10_addSource_34 : decode cX10_addSource 34 = .ok (.invokestatic 55, 3) := by decide +kernel
theorem dX10_addSource_37 : decode cX10_addSource 37 = .ok (.iload 5, 2) := by decide +kernel
theorem dX10_addSource_39 : decode cX10_addSource 39 = .ok (.bipush (-99), 2) := by decide +kernel
theorem dX10_addSource_41 : decode cX10_addSource 41 = .ok (.bipush 99, 2) := by decide +kernel
theorem dX10_addSource_43 : decode cX10_addSource 43 = .ok (.invokestatic 55, 3) := by decide +kernel
theorem dX10_addSource_46 : decode cX10_addSource 46 = .ok (.aload_n 0, 1) := by decide +kernel
theorem dX10_addSource_47 : decode cX10_addSource 47 = .ok (.getfield 10, 3) := by decide +kernel
theorem dX10_addSource_50 : decode cX10_addSource 50 = .ok (.iload_n 1, 1) := by decide +kernel
theorem dX10_addSource_51 : decode cX10_addSource 51 = .ok (.iload_n 2, 1) := by decide +kernel
theorem dX10_addSource_52 : decode cX10_addSource 52 = .ok (.iload_n 3, 1) := by decide +kernel
theorem dX10_addSource_53 : decode cX10_addSource 53 = .ok (.iload 4, 2) := by decide +kernel
theorem dX10_addSource_55 : decode cX10_addSource 55 = .ok (.iload 5, 2) := by decide +kernel
theorem dX10_addSource_57 : decode cX10_addSource 57 = .ok (.invokevirtual 95, 3) := by decide +kernel
theorem dX10_addSource_60 : decode cX10_addSource 60 = .ok (.invokestatic 84, 3) := by decide +kernel
theorem dX10_addSource_63 : decode cX10_addSource 63 = .ok (.ireturn, 1) := by decide +kernel
theorem dX10_addValue_0 : decode cX10_addValue 0 = .ok (.aload_n 0, 1) := by decide +kernel
theorem dX10_addValue_1 : decode cX10_addValue 1 = .ok (.iload_n 1, 1) := by decide +kernel
theorem dX10_addValue_2 : decode cX10_addValue 2 = .ok (.invokevirtual 99, 3) := by decide +kernel
theorem dX10_addValue_5 : decode cX10_addValue 5 = .ok (.astore_n 3, 1) := by decide +kernel
theorem dX10_addValue_6 : decode cX10_addValue 6 = .ok (.iload_n 2, 1) := by decide +kernel
theorem dX10_addValue_7 : decode cX10_addValue 7 = .ok (.bipush (-99), 2) := by decide +kernel
theorem dX10_addValue_9 : decode cX10_addValue 9 = .ok (.bipush 99, 2) := by decide +kernel
theorem dX10_addValue_11 : decode cX10_addValue 11 = .ok (.invokestatic 55, 3) := by decide +kernel
theorem dX10_addValue_14 : decode cX10_addValue 14 = .ok (.aload_n 3, 1) := by decide +kernel
theorem dX10_addValue_15 : decode cX10_addValue 15 = .ok (.iload_n 2, 1) := by decide +kernel
theorem dX10_addValue_16 : decode cX10_addValue 16 = .ok (.invokevirtual 103, 3) := by decide +kernel
theorem dX10_addValue_19 : decode cX10_addValue 19 = .ok (.invokestatic 84, 3) := by decide +kernel
theorem dX10_addValue_22 : decode cX10_addValue 22 = .ok (.ireturn, 1) := by decide +kernel
theorem dX10_addMicrophone_0 : decode cX10_addMicrophone 0 = .ok (.iload_n 1, 1) := by decide +kernel
theorem dX10_addMicrophone_1 : decode cX10_addMicrophone 1 = .ok (.sipush (-5000), 3) := by decide +kernel
theorem dX10_addMicrophone_4 : decode cX10_addMicrophone 4 = .ok (.sipush 5000, 3) := by decide +kernel
theorem dX10_addMicrophone_7 : decode cX10_addMicrophone 7 = .ok (.invokestatic 55, 3) := by decide +kernel
theorem dX10_addMicrophone_10 : decode cX10_addMicrophone 10 = .ok (.iload_n 2, 1) := by decide +kernel
theorem dX10_addMicrophone_11 : decode cX10_addMicrophone 11 = .ok (.bipush (-100), 2) := by decide +kernel
theorem dX10_addMicrophone_13 : decode cX10_addMicrophone 13 = .ok (.bipush 99, 2) := by decide +kernel
theorem dX10_addMicrophone_15 : decode cX10_addMicrophone 15 = .ok (.invokestatic 55, 3) := by decide +kernel
theorem dX10_addMicrophone_18 : decode cX10_addMicrophone 18 = .ok (.iload_n 3, 1) := by decide +kernel
theorem dX10_addMicrophone_19 : decode cX10_addMicrophone 19 = .ok (.iconst 0, 1) := by decide +kernel
theorem dX10_addMicrophone_20 : decode cX10_addMicrophone 20 = .ok (.sipush 500, 3) := by decide +kernel
theorem dX10_addMicrophone_23 : decode cX10_addMicrophone 23 = .ok (.invokestatic 55, 3) := by decide +kernel
theorem dX10_addMicrophone_26 : decode cX10_addMicrophone 26 = .ok (.iload 4, 2) := by decide +kernel
theorem dX10_addMicrophone_28 : decode cX10_addMicrophone 28 = .ok (.iconst 0, 1) := by decide +kernel
theorem dX10_addMicrophone_29 : decode cX10_addMicrophone 29 = .ok (.bipush 9, 2) := by decide +kernel
theorem dX10_addMicrophone_31 : decode cX10_addMicrophone 31 = .ok (.invokestatic 55, 3) := by decide +kernel
theorem dX10_addMicrophone_34 : decode cX10_addMicrophone 34 = .ok (.aload_n 0, 1) := by decide +kernel
theorem dX10_addMicrophone_35 : decode cX10_addMicrophone 35 = .ok (.getfield 10, 3) := by decide +kernel
theorem dX10_addMicrophone_38 : decode cX10_addMicrophone 38 = .ok (.iload_n 1, 1) := by decide +kernel
theorem dX10_addMicrophone_39 : decode cX10_addMicrophone 39 = .ok (.iload_n 2, 1) := by decide +kernel
theorem dX10_addMicrophone_40 : decode cX10_addMicrophone 40 = .ok (.iload_n 3, 1) := by decide +kernel
theorem dX10_addMicrophone_41 : decode cX10_addMicrophone 41 = .ok (.iload 4, 2) := by decide +kernel
theorem dX10_addMicrophone_43 : decode cX10_addMicrophone 43 = .ok (.invokevirtual 108, 3) := by decide +kernel
theorem dX10_addMicrophone_46 : decode cX10_addMicrophone 46 = .ok (.invokestatic 84, 3) := by decide +kernel
theorem dX10_addMicrophone_49 : decode cX10_addMicrophone 49 = .ok (.ireturn, 1) := by decide +kernel
theorem dX10_setWeight_0 : decode cX10_setWeight 0 = .ok (.aload_n 0, 1) := by decide +kernel
theorem dX10_setWeight_1 : decode cX10_setWeight 1 = .ok (.iload_n 1, 1) := by decide +kernel
theorem dX10_setWeight_2 : decode cX10_setWeight 2 = .ok (.invokevirtual 112, 3) := by decide +kernel
theorem dX10_setWeight_5 : decode cX10_setWeight 5 = .ok (.astore_n 3, 1) := by decide +kernel
theorem dX10_setWeight_6 : decode cX10_setWeight 6 = .ok (.iload_n 2, 1) := by decide +kernel
theorem dX10_setWeight_7 : decode cX10_setWeight 7 = .ok (.iconst 0, 1) := by decide +kernel
theorem dX10_setWeight_8 : decode cX10_setWeight 8 = .ok (.bipush 9, 2) := by decide +kernel
theorem dX10_setWeight_10 : decode cX10_setWeight 10 = .ok (.invokestatic 55, 3) := by decide +kernel
theorem dX10_setWeight_13 : decode cX10_setWeight 13 = .ok (.aload_n 3, 1) := by decide +kernel
theorem dX10_setWeight_14 : decode cX10_setWeight 14 = .ok (.getfield 116, 3) := by decide +kernel
theorem dX10_setWeight_17 : decode cX10_setWeight 17 = .ok (.istore 4, 2) := by decide +kernel
theorem dX10_setWeight_19 : decode cX10_setWeight 19 = .ok (.aload_n 3, 1) := by decide +kernel
theorem dX10_setWeight_20 : decode cX10_setWeight 20 = .ok (.iload_n 2, 1) := by decide +kernel
theorem dX10_setWeight_21 : decode cX10_setWeight 21 = .ok (.putfield 116, 3) := by decide +kernel
theorem dX10_setWeight_24 : decode cX10_setWeight 24 = .ok (.iload 4, 2) := by decide +kernel
theorem dX10_setWeight_26 : decode cX10_setWeight 26 = .ok (.ireturn, 1) := by decide +kernel
theorem dX10_count_0 : decode cX10_count 0 = .ok (.iload_n 1, 1) := by decide +kernel
theorem dX10_count_1 : decode cX10_count 1 = .ok (.tableswitch 63 0 3 #[31, 39, 47, 55], 31) := by decide +kernel
theorem dX10_count_32 : decode cX10_count 32 = .ok (.aload_n 0, 1) := by decide +kernel
theorem dX10_count_33 : decode cX10_count 33 = .ok (.getfield 10, 3) := by decide +kernel
theorem dX10_count_36 : decode cX10_count 36 = .ok (.getfield 88, 3) := by decide +kernel
theorem dX10_count_39 : decode cX10_count 39 = .ok (.ireturn, 1) := by decide +kernel
theorem dX10_count_40 : decode cX10_count 40 = .ok (.aload_n 0, 1) := by decide +kernel
theorem dX10_count_41 : decode cX10_count 41 = .ok (.getfield 10, 3) := by decide +kernel
theorem dX10_count_44 : decode cX10_count 44 = .ok (.getfield 121, 3) := by decide +kernel
theorem dX10_count_47 : decode cX10_count 47 = .ok (.ireturn, 1) := by decide +kernel
theorem dX10_count_48 : decode cX10_count 48 = .ok (.aload_n 0, 1) := by decide +kernel
theorem dX10_count_49 : decode cX10_count 49 = .ok (.getfield 10, 3) := by decide +kernel
theorem dX10_count_52 : decode cX10_count 52 = .ok (.getfield 124, 3) := by decide +kernel
theorem dX10_count_55 : decode cX10_count 55 = .ok (.ireturn, 1) := by decide +kernel
theorem dX10_count_56 : decode cX10_count 56 = .ok (.aload_n 0, 1) := by decide +kernel
theorem dX10_count_57 : decode cX10_count 57 = .ok (.getfield 10, 3) := by decide +kernel
theorem dX10_count_60 : decode cX10_count 60 = .ok (.getfield 127, 3) := by decide +kernel
theorem dX10_count_63 : decode cX10_count 63 = .ok (.ireturn, 1) := by decide +kernel
theorem dX10_count_64 : decode cX10_count 64 = .ok (.new 130, 3) := by decide +kernel
theorem dX10_count_67 : decode cX10_count 67 = .ok (.dup, 1) := by decide +kernel
theorem dX10_count_68 : decode cX10_count 68 = .ok (.ldc 132, 2) := by decide +kernel
theorem dX10_count_70 : decode cX10_count 70 = .ok (.invokespecial 134, 3) := by decide +kernel
theorem dX10_count_73 : decode cX10_count 73 = .ok (.athrow, 1) := by decide +kernel
theorem dX10_emitted_0 : decode cX10_emitted 0 = .ok (.aload_n 0, 1) := by decide +kernel
theorem dX10_emitted_1 : decode cX10_emitted 1 = .ok (.iload_n 1, 1) := by decide +kernel
theorem dX10_emitted_2 : decode cX10_emitted 2 = .ok (.invokevirtual 99, 3) := by decide +kernel
theorem dX10_emitted_5 : decode cX10_emitted 5 = .ok (.astore_n 3, 1) := by decide +kernel
theorem dX10_emitted_6 : decode cX10_emitted 6 = .ok (.iload_n 2, 1) := by decide +kernel
theorem dX10_emitted_7 : decode cX10_emitted 7 = .ok (.invokestatic 137, 3) := by decide +kernel
theorem dX10_emitted_10 : decode cX10_emitted 10 = .ok (.aload_n 3, 1) := by decide +kernel
theorem dX10_emitted_11 : decode cX10_emitted 11 = .ok (.iload_n 2, 1) := by decide +kernel
theorem dX10_emitted_12 : decode cX10_emitted 12 = .ok (.invokevirtual 141, 3) := by decide +kernel
theorem dX10_emitted_15 : decode cX10_emitted 15 = .ok (.ireturn, 1) := by decide +kernel
theorem dX10_distance_0 : decode cX10_distance 0 = .ok (.aload_n 0, 1) := by decide +kernel
theorem dX10_distance_1 : decode cX10_distance 1 = .ok (.iload_n 1, 1) := by decide +kernel
theorem dX10_distance_2 : decode cX10_distance 2 = .ok (.iload_n 2, 1) := by decide +kernel
theorem dX10_distance_3 : decode cX10_distance 3 = .ok (.iload 4, 2) := by decide +kernel
theorem dX10_distance_5 : decode cX10_distance 5 = .ok (.invokevirtual 144, 3) := by decide +kernel
theorem dX10_distance_8 : decode cX10_distance 8 = .ok (.iload_n 3, 1) := by decide +kernel
theorem dX10_distance_9 : decode cX10_distance 9 = .ok (.invokestatic 137, 3) := by decide +kernel
theorem dX10_distance_12 : decode cX10_distance 12 = .ok (.aload_n 0, 1) := by decide +kernel
theorem dX10_distance_13 : decode cX10_distance 13 = .ok (.getfield 30, 3) := by decide +kernel
theorem dX10_distance_16 : decode cX10_distance 16 = .ok (.iload_n 3, 1) := by decide +kernel
theorem dX10_distance_17 : decode cX10_distance 17 = .ok (.invokevirtual 148, 3) := by decide +kernel
theorem dX10_distance_20 : decode cX10_distance 20 = .ok (.ireturn, 1) := by decide +kernel
theorem dX10_emissionTime_0 : decode cX10_emissionTime 0 = .ok (.aload_n 0, 1) := by decide +kernel
theorem dX10_emissionTime_1 : decode cX10_emissionTime 1 = .ok (.iload_n 1, 1) := by decide +kernel
theorem dX10_emissionTime_2 : decode cX10_emissionTime 2 = .ok (.iload_n 2, 1) := by decide +kernel
theorem dX10_emissionTime_3 : decode cX10_emissionTime 3 = .ok (.iload 4, 2) := by decide +kernel
theorem dX10_emissionTime_5 : decode cX10_emissionTime 5 = .ok (.invokevirtual 144, 3) := by decide +kernel
theorem dX10_emissionTime_8 : decode cX10_emissionTime 8 = .ok (.iload_n 3, 1) := by decide +kernel
theorem dX10_emissionTime_9 : decode cX10_emissionTime 9 = .ok (.invokestatic 137, 3) := by decide +kernel
theorem dX10_emissionTime_12 : decode cX10_emissionTime 12 = .ok (.aload_n 0, 1) := by decide +kernel
theorem dX10_emissionTime_13 : decode cX10_emissionTime 13 = .ok (.getfield 30, 3) := by decide +kernel
theorem dX10_emissionTime_16 : decode cX10_emissionTime 16 = .ok (.iload_n 3, 1) := by decide +kernel
theorem dX10_emissionTime_17 : decode cX10_emissionTime 17 = .ok (.aload_n 0, 1) := by decide +kernel
theorem dX10_emissionTime_18 : decode cX10_emissionTime 18 = .ok (.getfield 10, 3) := by decide +kernel
theorem dX10_emissionTime_21 : decode cX10_emissionTime 21 = .ok (.getfield 59, 3) := by decide +kernel
theorem dX10_emissionTime_24 : decode cX10_emissionTime 24 = .ok (.invokevirtual 151, 3) := by decide +kernel
theorem dX10_emissionTime_27 : decode cX10_emissionTime 27 = .ok (.ireturn, 1) := by decide +kernel
theorem dX10_passTime_0 : decode cX10_passTime 0 = .ok (.iload_n 1, 1) := by decide +kernel
theorem dX10_passTime_1 : decode cX10_passTime 1 = .ok (.aload_n 0, 1) := by decide +kernel
theorem dX10_passTime_2 : decode cX10_passTime 2 = .ok (.getfield 10, 3) := by decide +kernel
theorem dX10_passTime_5 : decode cX10_passTime 5 = .ok (.getfield 88, 3) := by decide +kernel
theorem dX10_passTime_8 : decode cX10_passTime 8 = .ok (.invokestatic 91, 3) := by decide +kernel
theorem dX10_passTime_11 : decode cX10_passTime 11 = .ok (.aload_n 0, 1) := by decide +kernel
theorem dX10_passTime_12 : decode cX10_passTime 12 = .ok (.iload_n 2, 1) := by decide +kernel
theorem dX10_passTime_13 : decode cX10_passTime 13 = .ok (.invokevirtual 112, 3) := by decide +kernel
theorem dX10_passTime_16 : decode cX10_passTime 16 = .ok (.astore_n 3, 1) := by decide +kernel
theorem dX10_passTime_17 : decode cX10_passTime 17 = .ok (.aload_n 0, 1) := by decide +kernel
theorem dX10_passTime_18 : decode cX10_passTime 18 = .ok (.getfield 10, 3) := by decide +kernel
theorem dX10_passTime_21 : decode cX10_passTime 21 = .ok (.getfield 155, 3) := by decide +kernel
theorem dX10_passTime_24 : decode cX10_passTime 24 = .ok (.iload_n 1, 1) := by decide +kernel
theorem dX10_passTime_25 : decode cX10_passTime 25 = .ok (.aaload, 1) := by decide +kernel
theorem dX10_passTime_26 : decode cX10_passTime 26 = .ok (.aload_n 3, 1) := by decide +kernel
theorem dX10_passTime_27 : decode cX10_passTime 27 = .ok (.getfield 159, 3) := by decide +kernel
theorem dX10_passTime_30 : decode cX10_passTime 30 = .ok (.invokevirtual 162, 3) := by decide +kernel
theorem dX10_passTime_33 : decode cX10_passTime 33 = .ok (.ireturn, 1) := by decide +kernel
theorem dX10_makeRecording_0 : decode cX10_makeRecording 0 = .ok (.aload_n 0, 1) := by decide +kernel
theorem dX10_makeRecording_1 : decode cX10_makeRecording 1 = .ok (.getfield 10, 3) := by decide +kernel
theorem dX10_makeRecording_4 : decode cX10_makeRecording 4 = .ok (.aload_n 0, 1) := by decide +kernel
theorem dX10_makeRecording_5 : decode cX10_makeRecording 5 = .ok (.getfield 30, 3) := by decide +kernel
theorem dX10_makeRecording_8 : decode cX10_makeRecording 8 = .ok (.invokevirtual 167, 3) := by decide +kernel
theorem dX10_makeRecording_11 : decode cX10_makeRecording 11 = .ok (.aload_n 0, 1) := by decide +kernel
theorem dX10_makeRecording_12 : decode cX10_makeRecording 12 = .ok (.getfield 10, 3) := by decide +kernel
theorem dX10_makeRecording_15 : decode cX10_makeRecording 15 = .ok (.getfield 127, 3) := by decide +kernel
theorem dX10_makeRecording_18 : decode cX10_makeRecording 18 = .ok (.ireturn, 1) := by decide +kernel
theorem dX10_sample_0 : decode cX10_sample 0 = .ok (.aload_n 0, 1) := by decide +kernel
theorem dX10_sample_1 : decode cX10_sample 1 = .ok (.iload_n 1, 1) := by decide +kernel
theorem dX10_sample_2 : decode cX10_sample 2 = .ok (.invokevirtual 112, 3) := by decide +kernel
theorem dX10_sample_5 : decode cX10_sample 5 = .ok (.astore_n 3, 1) := by decide +kernel
theorem dX10_sample_6 : decode cX10_sample 6 = .ok (.iload_n 2, 1) := by decide +kernel
theorem dX10_sample_7 : decode cX10_sample 7 = .ok (.invokestatic 137, 3) := by decide +kernel
theorem dX10_sample_10 : decode cX10_sample 10 = .ok (.aload_n 3, 1) := by decide +kernel
theorem dX10_sample_11 : decode cX10_sample 11 = .ok (.getfield 171, 3) := by decide +kernel
theorem dX10_sample_14 : decode cX10_sample 14 = .ok (.iload_n 2, 1) := by decide +kernel
theorem dX10_sample_15 : decode cX10_sample 15 = .ok (.iaload, 1) := by decide +kernel
theorem dX10_sample_16 : decode cX10_sample 16 = .ok (.ireturn, 1) := by decide +kernel
theorem dX10_measureRecord_0 : decode cX10_measureRecord 0 = .ok (.aload_n 0, 1) := by decide +kernel
theorem dX10_measureRecord_1 : decode cX10_measureRecord 1 = .ok (.iload_n 1, 1) := by decide +kernel
theorem dX10_measureRecord_2 : decode cX10_measureRecord 2 = .ok (.invokevirtual 112, 3) := by decide +kernel
theorem dX10_measureRecord_5 : decode cX10_measureRecord 5 = .ok (.astore 5, 2) := by decide +kernel
theorem dX10_measureRecord_7 : decode cX10_measureRecord 7 = .ok (.iload_n 2, 1) := by decide +kernel
theorem dX10_measureRecord_8 : decode cX10_measureRecord 8 = .ok (.iconst 0, 1) := by decide +kernel
theorem dX10_measureRecord_9 : decode cX10_measureRecord 9 = .ok (.iconst 4, 1) := by decide +kernel
theorem dX10_measureRecord_10 : decode cX10_measureRecord 10 = .ok (.invokestatic 55, 3) := by decide +kernel
theorem dX10_measureRecord_13 : decode cX10_measureRecord 13 = .ok (.iload_n 3, 1) := by decide +kernel
theorem dX10_measureRecord_14 : decode cX10_measureRecord 14 = .ok (.iload 4, 2) := by decide +kernel
theorem dX10_measureRecord_16 : decode cX10_measureRecord 16 = .ok (.invokestatic 175, 3) := by decide +kernel
theorem dX10_measureRecord_19 : decode cX10_measureRecord 19 = .ok (.aload 5, 2) := by decide +kernel
theorem dX10_measureRecord_21 : decode cX10_measureRecord 21 = .ok (.getfield 171, 3) := by decide +kernel
theorem dX10_measureRecord_24 : decode cX10_measureRecord 24 = .ok (.iload_n 2, 1) := by decide +kernel
theorem dX10_measureRecord_25 : decode cX10_measureRecord 25 = .ok (.iload_n 3, 1) := by decide +kernel
theorem dX10_measureRecord_26 : decode cX10_measureRecord 26 = .ok (.iload 4, 2) := by decide +kernel
theorem dX10_measureRecord_28 : decode cX10_measureRecord 28 = .ok (.invokestatic 178, 3) := by decide +kernel
theorem dX10_measureRecord_31 : decode cX10_measureRecord 31 = .ok (.lreturn, 1) := by decide +kernel
theorem dX10_loudestMicrophone_0 : decode cX10_loudestMicrophone 0 = .ok (.iload_n 1, 1) := by decide +kernel
theorem dX10_loudestMicrophone_1 : decode cX10_loudestMicrophone 1 = .ok (.iload_n 2, 1) := by decide +kernel
theorem dX10_loudestMicrophone_2 : decode cX10_loudestMicrophone 2 = .ok (.invokestatic 175, 3) := by decide +kernel
theorem dX10_loudestMicrophone_5 : decode cX10_loudestMicrophone 5 = .ok (.iconst (-1), 1) := by decide +kernel
theorem dX10_loudestMicrophone_6 : decode cX10_loudestMicrophone 6 = .ok (.istore_n 3, 1) := by decide +kernel
theorem dX10_loudestMicrophone_7 : decode cX10_loudestMicrophone 7 = .ok (.ldc2_w 184, 3) := by decide +kernel
theorem dX10_loudestMicrophone_10 : decode cX10_loudestMicrophone 10 = .ok (.lstore 4, 2) := by decide +kernel
theorem dX10_loudestMicrophone_12 : decode cX10_loudestMicrophone 12 = .ok (.iconst 0, 1) := by decide +kernel
theorem dX10_loudestMicrophone_13 : decode cX10_loudestMicrophone 13 = .ok (.istore 6, 2) := by decide +kernel
theorem dX10_loudestMicrophone_15 : decode cX10_loudestMicrophone 15 = .ok (.iload 6, 2) := by decide +kernel
theorem dX10_loudestMicrophone_17 : decode cX10_loudestMicrophone 17 = .ok (.aload_n 0, 1) := by decide +kernel
theorem dX10_loudestMicrophone_18 : decode cX10_loudestMicrophone 18 = .ok (.getfield 10, 3) := by decide +kernel
theorem dX10_loudestMicrophone_21 : decode cX10_loudestMicrophone 21 = .ok (.getfield 124, 3) := by decide +kernel
theorem dX10_loudestMicrophone_24 : decode cX10_loudestMicrophone 24 = .ok (.if_icmp .ge 44, 3) := by decide +kernel
theorem dX10_loudestMicrophone_27 : decode cX10_loudestMicrophone 27 = .ok (.aload_n 0, 1) := by decide +kernel
theorem dX10_loudestMicrophone_28 : decode cX10_loudestMicrophone 28 = .ok (.getfield 10, 3) := by decide +kernel
theorem dX10_loudestMicrophone_31 : decode cX10_loudestMicrophone 31 = .ok (.getfield 186, 3) := by decide +kernel
theorem dX10_loudestMicrophone_34 : decode cX10_loudestMicrophone 34 = .ok (.iload 6, 2) := by decide +kernel
theorem dX10_loudestMicrophone_36 : decode cX10_loudestMicrophone 36 = .ok (.aaload, 1) := by decide +kernel
theorem dX10_loudestMicrophone_37 : decode cX10_loudestMicrophone 37 = .ok (.getfield 171, 3) := by decide +kernel
theorem dX10_loudestMicrophone_40 : decode cX10_loudestMicrophone 40 = .ok (.iload_n 1, 1) := by decide +kernel
theorem dX10_loudestMicrophone_41 : decode cX10_loudestMicrophone 41 = .ok (.iload_n 2, 1) := by decide +kernel
theorem dX10_loudestMicrophone_42 : decode cX10_loudestMicrophone 42 = .ok (.invokestatic 190, 3) := by decide +kernel
theorem dX10_loudestMicrophone_45 : decode cX10_loudestMicrophone 45 = .ok (.lstore 7, 2) := by decide +kernel
theorem dX10_loudestMicrophone_47 : decode cX10_loudestMicrophone 47 = .ok (.lload 7, 2) := by decide +kernel
theorem dX10_loudestMicrophone_49 : decode cX10_loudestMicrophone 49 = .ok (.lload 4, 2) := by decide +kernel
theorem dX10_loudestMicrophone_51 : decode cX10_loudestMicrophone 51 = .ok (.lcmp, 1) := by decide +kernel
theorem dX10_loudestMicrophone_52 : decode cX10_loudestMicrophone 52 = .ok (.ifCond .le 10, 3) := by decide +kernel
theorem dX10_loudestMicrophone_55 : decode cX10_loudestMicrophone 55 = .ok (.lload 7, 2) := by decide +kernel
theorem dX10_loudestMicrophone_57 : decode cX10_loudestMicrophone 57 = .ok (.lstore 4, 2) := by decide +kernel
theorem dX10_loudestMicrophone_59 : decode cX10_loudestMicrophone 59 = .ok (.iload 6, 2) := by decide +kernel
theorem dX10_loudestMicrophone_61 : decode cX10_loudestMicrophone 61 = .ok (.istore_n 3, 1) := by decide +kernel
theorem dX10_loudestMicrophone_62 : decode cX10_loudestMicrophone 62 = .ok (.iinc 6 1, 3) := by decide +kernel
theorem dX10_loudestMicrophone_65 : decode cX10_loudestMicrophone 65 = .ok (.goto (-50), 3) := by decide +kernel
theorem dX10_loudestMicrophone_68 : decode cX10_loudestMicrophone 68 = .ok (.iload_n 3, 1) := by decide +kernel
theorem dX10_loudestMicrophone_69 : decode cX10_loudestMicrophone 69 = .ok (.ireturn, 1) := by decide +kernel
theorem dX10_loudestWindow_0 : decode cX10_loudestWindow 0 = .ok (.aload_n 0, 1) := by decide +kernel
theorem dX10_loudestWindow_1 : decode cX10_loudestWindow 1 = .ok (.iload_n 1, 1) := by decide +kernel
theorem dX10_loudestWindow_2 : decode cX10_loudestWindow 2 = .ok (.invokevirtual 112, 3) := by decide +kernel
theorem dX10_loudestWindow_5 : decode cX10_loudestWindow 5 = .ok (.getfield 171, 3) := by decide +kernel
theorem dX10_loudestWindow_8 : decode cX10_loudestWindow 8 = .ok (.astore_n 3, 1) := by decide +kernel
theorem dX10_loudestWindow_9 : decode cX10_loudestWindow 9 = .ok (.iload_n 2, 1) := by decide +kernel
theorem dX10_loudestWindow_10 : decode cX10_loudestWindow 10 = .ok (.iconst 1, 1) := by decide +kernel
theorem dX10_loudestWindow_11 : decode cX10_loudestWindow 11 = .ok (.sipush 256, 3) := by decide +kernel
theorem dX10_loudestWindow_14 : decode cX10_loudestWindow 14 = .ok (.invokestatic 55, 3) := by decide +kernel
theorem dX10_loudestWindow_17 : decode cX10_loudestWindow 17 = .ok (.iconst 0, 1) := by decide +kernel
theorem dX10_loudestWindow_18 : decode cX10_loudestWindow 18 = .ok (.istore 4, 2) := by decide +kernel
theorem dX10_loudestWindow_20 : decode cX10_loudestWindow 20 = .ok (.ldc2_w 184, 3) := by decide +kernel
theorem dX10_loudestWindow_23 : decode cX10_loudestWindow 23 = .ok (.lstore 5, 2) := by decide +kernel
theorem dX10_loudestWindow_25 : decode cX10_loudestWindow 25 = .ok (.iconst 0, 1) := by decide +kernel
theorem dX10_loudestWindow_26 : decode cX10_loudestWindow 26 = .ok (.istore 7, 2) := by decide +kernel
theorem dX10_loudestWindow_28 : decode cX10_loudestWindow 28 = .ok (.iload 7, 2) := by decide +kernel
theorem dX10_loudestWindow_30 : decode cX10_loudestWindow 30 = .ok (.sipush 256, 3) := by decide +kernel
theorem dX10_loudestWindow_33 : decode cX10_loudestWindow 33 = .ok (.iload_n 2, 1) := by decide +kernel
theorem dX10_loudestWindow_34 : decode cX10_loudestWindow 34 = .ok (.isub, 1) := by decide +kernel
theorem dX10_loudestWindow_35 : decode cX10_loudestWindow 35 = .ok (.if_icmp .gt 39, 3) := by decide +kernel
theorem dX10_loudestWindow_38 : decode cX10_loudestWindow 38 = .ok (.aload_n 3, 1) := by decide +kernel
theorem dX10_loudestWindow_39 : decode cX10_loudestWindow 39 = .ok (.iload 7, 2) := by decide +kernel
theorem dX10_loudestWindow_41 : decode cX10_loudestWindow 41 = .ok (.iload 7, 2) := by decide +kernel
theorem dX10_loudestWindow_43 : decode cX10_loudestWindow 43 = .ok (.iload_n 2, 1) := by decide +kernel
theorem dX10_loudestWindow_44 : decode cX10_loudestWindow 44 = .ok (.iadd, 1) := by decide +kernel
theorem dX10_loudestWindow_45 : decode cX10_loudestWindow 45 = .ok (.iconst 1, 1) := by decide +kernel
theorem dX10_loudestWindow_46 : decode cX10_loudestWindow 46 = .ok (.isub, 1) := by decide +kernel
theorem dX10_loudestWindow_47 : decode cX10_loudestWindow 47 = .ok (.invokestatic 190, 3) := by decide +kernel
theorem dX10_loudestWindow_50 : decode cX10_loudestWindow 50 = .ok (.lstore 8, 2) := by decide +kernel
theorem dX10_loudestWindow_52 : decode cX10_loudestWindow 52 = .ok (.lload 8, 2) := by decide +kernel
theorem dX10_loudestWindow_54 : decode cX10_loudestWindow 54 = .ok (.lload 5, 2) := by decide +kernel
theorem dX10_loudestWindow_56 : decode cX10_loudestWindow 56 = .ok (.lcmp, 1) := by decide +kernel
theorem dX10_loudestWindow_57 : decode cX10_loudestWindow 57 = .ok (.ifCond .le 11, 3) := by decide +kernel
theorem dX10_loudestWindow_60 : decode cX10_loudestWindow 60 = .ok (.lload 8, 2) := by decide +kernel
theorem dX10_loudestWindow_62 : decode cX10_loudestWindow 62 = .ok (.lstore 5, 2) := by decide +kernel
theorem dX10_loudestWindow_64 : decode cX10_loudestWindow 64 = .ok (.iload 7, 2) := by decide +kernel
theorem dX10_loudestWindow_66 : decode cX10_loudestWindow 66 = .ok (.istore 4, 2) := by decide +kernel
theorem dX10_loudestWindow_68 : decode cX10_loudestWindow 68 = .ok (.iinc 7 1, 3) := by decide +kernel
theorem dX10_loudestWindow_71 : decode cX10_loudestWindow 71 = .ok (.goto (-43), 3) := by decide +kernel
theorem dX10_loudestWindow_74 : decode cX10_loudestWindow 74 = .ok (.iload 4, 2) := by decide +kernel
theorem dX10_loudestWindow_76 : decode cX10_loudestWindow 76 = .ok (.ireturn, 1) := by decide +kernel
theorem dX10_correlation_0 : decode cX10_correlation 0 = .ok (.aload_n 0, 1) := by decide +kernel
theorem dX10_correlation_1 : decode cX10_correlation 1 = .ok (.iload_n 1, 1) := by decide +kernel
theorem dX10_correlation_2 : decode cX10_correlation 2 = .ok (.invokevirtual 112, 3) := by decide +kernel
theorem dX10_correlation_5 : decode cX10_correlation 5 = .ok (.getfield 171, 3) := by decide +kernel
theorem dX10_correlation_8 : decode cX10_correlation 8 = .ok (.astore 4, 2) := by decide +kernel
theorem dX10_correlation_10 : decode cX10_correlation 10 = .ok (.aload_n 0, 1) := by decide +kernel
theorem dX10_correlation_11 : decode cX10_correlation 11 = .ok (.iload_n 2, 1) := by decide +kernel
theorem dX10_correlation_12 : decode cX10_correlation 12 = .ok (.invokevirtual 112, 3) := by decide +kernel
theorem dX10_correlation_15 : decode cX10_correlation 15 = .ok (.getfield 171, 3) := by decide +kernel
theorem dX10_correlation_18 : decode cX10_correlation 18 = .ok (.astore 5, 2) := by decide +kernel
theorem dX10_correlation_20 : decode cX10_correlation 20 = .ok (.iload_n 3, 1) := by decide +kernel
theorem dX10_correlation_21 : decode cX10_correlation 21 = .ok (.sipush (-255), 3) := by decide +kernel
theorem dX10_correlation_24 : decode cX10_correlation 24 = .ok (.sipush 255, 3) := by decide +kernel
theorem dX10_correlation_27 : decode cX10_correlation 27 = .ok (.invokestatic 55, 3) := by decide +kernel
theorem dX10_correlation_30 : decode cX10_correlation 30 = .ok (.aload 4, 2) := by decide +kernel
theorem dX10_correlation_32 : decode cX10_correlation 32 = .ok (.aload 5, 2) := by decide +kernel
theorem dX10_correlation_34 : decode cX10_correlation 34 = .ok (.iload_n 3, 1) := by decide +kernel
theorem dX10_correlation_35 : decode cX10_correlation 35 = .ok (.invokestatic 194, 3) := by decide +kernel
theorem dX10_correlation_38 : decode cX10_correlation 38 = .ok (.lreturn, 1) := by decide +kernel
theorem dX10_bestLag_0 : decode cX10_bestLag 0 = .ok (.aload_n 0, 1) := by decide +kernel
theorem dX10_bestLag_1 : decode cX10_bestLag 1 = .ok (.iload_n 1, 1) := by decide +kernel
theorem dX10_bestLag_2 : decode cX10_bestLag 2 = .ok (.invokevirtual 112, 3) := by decide +kernel
theorem dX10_bestLag_5 : decode cX10_bestLag 5 = .ok (.getfield 171, 3) := by decide +kernel
theorem dX10_bestLag_8 : decode cX10_bestLag 8 = .ok (.astore 4, 2) := by decide +kernel
theorem dX10_bestLag_10 : decode cX10_bestLag 10 = .ok (.aload_n 0, 1) := by decide +kernel
theorem dX10_bestLag_11 : decode cX10_bestLag 11 = .ok (.iload_n 2, 1) := by decide +kernel
theorem dX10_bestLag_12 : decode cX10_bestLag 12 = .ok (.invokevirtual 112, 3) := by decide +kernel
theorem dX10_bestLag_15 : decode cX10_bestLag 15 = .ok (.getfield 171, 3) := by decide +kernel
theorem dX10_bestLag_18 : decode cX10_bestLag 18 = .ok (.astore 5, 2) := by decide +kernel
theorem dX10_bestLag_20 : decode cX10_bestLag 20 = .ok (.iload_n 3, 1) := by decide +kernel
theorem dX10_bestLag_21 : decode cX10_bestLag 21 = .ok (.iconst 0, 1) := by decide +kernel
theorem dX10_bestLag_22 : decode cX10_bestLag 22 = .ok (.sipush 255, 3) := by decide +kernel
theorem dX10_bestLag_25 : decode cX10_bestLag 25 = .ok (.invokestatic 55, 3) := by decide +kernel
theorem dX10_bestLag_28 : decode cX10_bestLag 28 = .ok (.iconst 0, 1) := by decide +kernel
theorem dX10_bestLag_29 : decode cX10_bestLag 29 = .ok (.istore 6, 2) := by decide +kernel
theorem dX10_bestLag_31 : decode cX10_bestLag 31 = .ok (.ldc2_w 200, 3) := by decide +kernel
theorem dX10_bestLag_34 : decode cX10_bestLag 34 = .ok (.lstore 7, 2) := by decide +kernel
theorem dX10_bestLag_36 : decode cX10_bestLag 36 = .ok (.iconst 1, 1) := by decide +kernel
theorem dX10_bestLag_37 : decode cX10_bestLag 37 = .ok (.istore 9, 2) := by decide +kernel
theorem dX10_bestLag_39 : decode cX10_bestLag 39 = .ok (.iload 9, 2) := by decide +kernel
theorem dX10_bestLag_41 : decode cX10_bestLag 41 = .ok (.iconst 2, 1) := by decide +kernel
theorem dX10_bestLag_42 : decode cX10_bestLag 42 = .ok (.iload_n 3, 1) := by decide +kernel
theorem dX10_bestLag_43 : decode cX10_bestLag 43 = .ok (.imul, 1) := by decide +kernel
theorem dX10_bestLag_44 : decode cX10_bestLag 44 = .ok (.iconst 1, 1) := by decide +kernel
theorem dX10_bestLag_45 : decode cX10_bestLag 45 = .ok (.iadd, 1) := by decide +kernel
theorem dX10_bestLag_46 : decode cX10_bestLag 46 = .ok (.if_icmp .gt 43, 3) := by decide +kernel
theorem dX10_bestLag_49 : decode cX10_bestLag 49 = .ok (.iload 9, 2) := by decide +kernel
theorem dX10_bestLag_51 : decode cX10_bestLag 51 = .ok (.invokestatic 202, 3) := by decide +kernel
theorem dX10_bestLag_54 : decode cX10_bestLag 54 = .ok (.istore 10, 2) := by decide +kernel
theorem dX10_bestLag_56 : decode cX10_bestLag 56 = .ok (.aload 4, 2) := by decide +kernel
theorem dX10_bestLag_58 : decode cX10_bestLag 58 = .ok (.aload 5, 2) := by decide +kernel
theorem dX10_bestLag_60 : decode cX10_bestLag 60 = .ok (.iload 10, 2) := by decide +kernel
theorem dX10_bestLag_62 : decode cX10_bestLag 62 = .ok (.invokestatic 194, 3) := by decide +kernel
theorem dX10_bestLag_65 : decode cX10_bestLag 65 = .ok (.lstore 11, 2) := by decide +kernel
theorem dX10_bestLag_67 : decode cX10_bestLag 67 = .ok (.lload 11, 2) := by decide +kernel
theorem dX10_bestLag_69 : decode cX10_bestLag 69 = .ok (.lload 7, 2) := by decide +kernel
theorem dX10_bestLag_71 : decode cX10_bestLag 71 = .ok (.lcmp, 1) := by decide +kernel
theorem dX10_bestLag_72 : decode cX10_bestLag 72 = .ok (.ifCond .le 11, 3) := by decide +kernel
theorem dX10_bestLag_75 : decode cX10_bestLag 75 = .ok (.lload 11, 2) := by decide +kernel
theorem dX10_bestLag_77 : decode cX10_bestLag 77 = .ok (.lstore 7, 2) := by decide +kernel
theorem dX10_bestLag_79 : decode cX10_bestLag 79 = .ok (.iload 10, 2) := by decide +kernel
theorem dX10_bestLag_81 : decode cX10_bestLag 81 = .ok (.istore 6, 2) := by decide +kernel
theorem dX10_bestLag_83 : decode cX10_bestLag 83 = .ok (.iinc 9 1, 3) := by decide +kernel
theorem dX10_bestLag_86 : decode cX10_bestLag 86 = .ok (.goto (-47), 3) := by decide +kernel
theorem dX10_bestLag_89 : decode cX10_bestLag 89 = .ok (.iload 6, 2) := by decide +kernel
theorem dX10_bestLag_91 : decode cX10_bestLag 91 = .ok (.ireturn, 1) := by decide +kernel
theorem dX10_focusOnVehicle_0 : decode cX10_focusOnVehicle 0 = .ok (.iload_n 1, 1) := by decide +kernel
theorem dX10_focusOnVehicle_1 : decode cX10_focusOnVehicle 1 = .ok (.aload_n 0, 1) := by decide +kernel
theorem dX10_focusOnVehicle_2 : decode cX10_focusOnVehicle 2 = .ok (.getfield 10, 3) := by decide +kernel
theorem dX10_focusOnVehicle_5 : decode cX10_focusOnVehicle 5 = .ok (.getfield 88, 3) := by decide +kernel
theorem dX10_focusOnVehicle_8 : decode cX10_focusOnVehicle 8 = .ok (.invokestatic 91, 3) := by decide +kernel
theorem dX10_focusOnVehicle_11 : decode cX10_focusOnVehicle 11 = .ok (.iload_n 2, 1) := by decide +kernel
theorem dX10_focusOnVehicle_12 : decode cX10_focusOnVehicle 12 = .ok (.sipush (-1000), 3) := by decide +kernel
theorem dX10_focusOnVehicle_15 : decode cX10_focusOnVehicle 15 = .ok (.sipush 1000, 3) := by decide +kernel
theorem dX10_focusOnVehicle_18 : decode cX10_focusOnVehicle 18 = .ok (.invokestatic 55, 3) := by decide +kernel
theorem dX10_focusOnVehicle_21 : decode cX10_focusOnVehicle 21 = .ok (.iload_n 3, 1) := by decide +kernel
theorem dX10_focusOnVehicle_22 : decode cX10_focusOnVehicle 22 = .ok (.iconst 0, 1) := by decide +kernel
theorem dX10_focusOnVehicle_23 : decode cX10_focusOnVehicle 23 = .ok (.sipush 500, 3) := by decide +kernel
theorem dX10_focusOnVehicle_26 : decode cX10_focusOnVehicle 26 = .ok (.invokestatic 55, 3) := by decide +kernel
theorem dX10_focusOnVehicle_29 : decode cX10_focusOnVehicle 29 = .ok (.aload_n 0, 1) := by decide +kernel
theorem dX10_focusOnVehicle_30 : decode cX10_focusOnVehicle 30 = .ok (.getfield 10, 3) := by decide +kernel
theorem dX10_focusOnVehicle_33 : decode cX10_focusOnVehicle 33 = .ok (.getfield 205, 3) := by decide +kernel
theorem dX10_focusOnVehicle_36 : decode cX10_focusOnVehicle 36 = .ok (.aload_n 0, 1) := by decide +kernel
theorem dX10_focusOnVehicle_37 : decode cX10_focusOnVehicle 37 = .ok (.getfield 10, 3) := by decide +kernel
theorem dX10_focusOnVehicle_40 : decode cX10_focusOnVehicle 40 = .ok (.getfield 155, 3) := by decide +kernel
theorem dX10_focusOnVehicle_43 : decode cX10_focusOnVehicle 43 = .ok (.iload_n 1, 1) := by decide +kernel
theorem dX10_focusOnVehicle_44 : decode cX10_focusOnVehicle 44 = .ok (.aaload, 1) := by decide +kernel
theorem dX10_focusOnVehicle_45 : decode cX10_focusOnVehicle 45 = .ok (.iload_n 2, 1) := by decide +kernel
theorem dX10_focusOnVehicle_46 : decode cX10_focusOnVehicle 46 = .ok (.iload_n 3, 1) := by decide +kernel
theorem dX10_focusOnVehicle_47 : decode cX10_focusOnVehicle 47 = .ok (.invokevirtual 209, 3) := by decide +kernel
theorem dX10_focusOnVehicle_50 : decode cX10_focusOnVehicle 50 = .ok (.aload_n 0, 1) := by decide +kernel
theorem dX10_focusOnVehicle_51 : decode cX10_focusOnVehicle 51 = .ok (.getfield 10, 3) := by decide +kernel
theorem dX10_focusOnVehicle_54 : decode cX10_focusOnVehicle 54 = .ok (.iconst 0, 1) := by decide +kernel
theorem dX10_focusOnVehicle_55 : decode cX10_focusOnVehicle 55 = .ok (.putfield 213, 3) := by decide +kernel
theorem dX10_focusOnVehicle_58 : decode cX10_focusOnVehicle 58 = .ok (.return_, 1) := by decide +kernel
theorem dX10_focusOnPlace_0 : decode cX10_focusOnPlace 0 = .ok (.iload_n 1, 1) := by decide +kernel
theorem dX10_focusOnPlace_1 : decode cX10_focusOnPlace 1 = .ok (.sipush (-20000), 3) := by decide +kernel
theorem dX10_focusOnPlace_4 : decode cX10_focusOnPlace 4 = .ok (.sipush 20000, 3) := by decide +kernel
theorem dX10_focusOnPlace_7 : decode cX10_focusOnPlace 7 = .ok (.invokestatic 55, 3) := by decide +kernel
theorem dX10_focusOnPlace_10 : decode cX10_focusOnPlace 10 = .ok (.iload_n 2, 1) := by decide +kernel
theorem dX10_focusOnPlace_11 : decode cX10_focusOnPlace 11 = .ok (.bipush 100, 2) := by decide +kernel
theorem dX10_focusOnPlace_13 : decode cX10_focusOnPlace 13 = .ok (.sipush 5000, 3) := by decide +kernel
theorem dX10_focusOnPlace_16 : decode cX10_focusOnPlace 16 = .ok (.invokestatic 55, 3) := by decide +kernel
theorem dX10_focusOnPlace_19 : decode cX10_focusOnPlace 19 = .ok (.iload_n 3, 1) := by decide +kernel
theorem dX10_focusOnPlace_20 : decode cX10_focusOnPlace 20 = .ok (.iconst 0, 1) := by decide +kernel
theorem dX10_focusOnPlace_21 : decode cX10_focusOnPlace 21 = .ok (.sipush 500, 3) := by decide +kernel
theorem dX10_focusOnPlace_24 : decode cX10_focusOnPlace 24 = .ok (.invokestatic 55, 3) := by decide +kernel
theorem dX10_focusOnPlace_27 : decode cX10_focusOnPlace 27 = .ok (.aload_n 0, 1) := by decide +kernel
theorem dX10_focusOnPlace_28 : decode cX10_focusOnPlace 28 = .ok (.getfield 10, 3) := by decide +kernel
theorem dX10_focusOnPlace_31 : decode cX10_focusOnPlace 31 = .ok (.getfield 205, 3) := by decide +kernel
theorem dX10_focusOnPlace_34 : decode cX10_focusOnPlace 34 = .ok (.iload_n 1, 1) := by decide +kernel
theorem dX10_focusOnPlace_35 : decode cX10_focusOnPlace 35 = .ok (.iconst 0, 1) := by decide +kernel
theorem dX10_focusOnPlace_36 : decode cX10_focusOnPlace 36 = .ok (.iload_n 2, 1) := by decide +kernel
theorem dX10_focusOnPlace_37 : decode cX10_focusOnPlace 37 = .ok (.iload_n 3, 1) := by decide +kernel
theorem dX10_focusOnPlace_38 : decode cX10_focusOnPlace 38 = .ok (.invokevirtual 216, 3) := by decide +kernel
theorem dX10_focusOnPlace_41 : decode cX10_focusOnPlace 41 = .ok (.aload_n 0, 1) := by decide +kernel
theorem dX10_focusOnPlace_42 : decode cX10_focusOnPlace 42 = .ok (.getfield 10, 3) := by decide +kernel
theorem dX10_focusOnPlace_45 : decode cX10_focusOnPlace 45 = .ok (.iconst 0, 1) := by decide +kernel
theorem dX10_focusOnPlace_46 : decode cX10_focusOnPlace 46 = .ok (.putfield 213, 3) := by decide +kernel
theorem dX10_focusOnPlace_49 : decode cX10_focusOnPlace 49 = .ok (.return_, 1) := by decide +kernel
theorem dX10_focusOnDirection_0 : decode cX10_focusOnDirection 0 = .ok (.iload_n 1, 1) := by decide +kernel
theorem dX10_focusOnDirection_1 : decode cX10_focusOnDirection 1 = .ok (.bipush (-100), 2) := by decide +kernel
theorem dX10_focusOnDirection_3 : decode cX10_focusOnDirection 3 = .ok (.bipush 100, 2) := by decide +kernel
theorem dX10_focusOnDirection_5 : decode cX10_focusOnDirection 5 = .ok (.invokestatic 55, 3) := by decide +kernel
theorem dX10_focusOnDirection_8 : decode cX10_focusOnDirection 8 = .ok (.aload_n 0, 1) := by decide +kernel
theorem dX10_focusOnDirection_9 : decode cX10_focusOnDirection 9 = .ok (.getfield 10, 3) := by decide +kernel
theorem dX10_focusOnDirection_12 : decode cX10_focusOnDirection 12 = .ok (.iload_n 1, 1) := by decide +kernel
theorem dX10_focusOnDirection_13 : decode cX10_focusOnDirection 13 = .ok (.putfield 220, 3) := by decide +kernel
theorem dX10_focusOnDirection_16 : decode cX10_focusOnDirection 16 = .ok (.aload_n 0, 1) := by decide +kernel
theorem dX10_focusOnDirection_17 : decode cX10_focusOnDirection 17 = .ok (.getfield 10, 3) := by decide +kernel
theorem dX10_focusOnDirection_20 : decode cX10_focusOnDirection 20 = .ok (.iconst 1, 1) := by decide +kernel
theorem dX10_focusOnDirection_21 : decode cX10_focusOnDirection 21 = .ok (.putfield 213, 3) := by decide +kernel
theorem dX10_focusOnDirection_24 : decode cX10_focusOnDirection 24 = .ok (.return_, 1) := by decide +kernel
theorem dX10_setCut_0 : decode cX10_setCut 0 = .ok (.aload_n 0, 1) := by decide +kernel
theorem dX10_setCut_1 : decode cX10_setCut 1 = .ok (.getfield 10, 3) := by decide +kernel
theorem dX10_setCut_4 : decode cX10_setCut 4 = .ok (.getfield 223, 3) := by decide +kernel
theorem dX10_setCut_7 : decode cX10_setCut 7 = .ok (.istore_n 2, 1) := by decide +kernel
theorem dX10_setCut_8 : decode cX10_setCut 8 = .ok (.aload_n 0, 1) := by decide +kernel
theorem dX10_setCut_9 : decode cX10_setCut 9 = .ok (.getfield 10, 3) := by decide +kernel
theorem dX10_setCut_12 : decode cX10_setCut 12 = .ok (.iload_n 1, 1) := by decide +kernel
theorem dX10_setCut_13 : decode cX10_setCut 13 = .ok (.putfield 223, 3) := by decide +kernel
theorem dX10_setCut_16 : decode cX10_setCut 16 = .ok (.iload_n 2, 1) := by decide +kernel
theorem dX10_setCut_17 : decode cX10_setCut 17 = .ok (.ireturn, 1) := by decide +kernel
theorem dX10_sampleNumber_0 : decode cX10_sampleNumber 0 = .ok (.aload_n 0, 1) := by decide +kernel
theorem dX10_sampleNumber_1 : decode cX10_sampleNumber 1 = .ok (.iload_n 1, 1) := by decide +kernel
theorem dX10_sampleNumber_2 : decode cX10_sampleNumber 2 = .ok (.invokevirtual 112, 3) := by decide +kernel
theorem dX10_sampleNumber_5 : decode cX10_sampleNumber 5 = .ok (.astore_n 3, 1) := by decide +kernel
theorem dX10_sampleNumber_6 : decode cX10_sampleNumber 6 = .ok (.iload_n 2, 1) := by decide +kernel
theorem dX10_sampleNumber_7 : decode cX10_sampleNumber 7 = .ok (.invokestatic 137, 3) := by decide +kernel
theorem dX10_sampleNumber_10 : decode cX10_sampleNumber 10 = .ok (.aload_n 0, 1) := by decide +kernel
theorem dX10_sampleNumber_11 : decode cX10_sampleNumber 11 = .ok (.getfield 37, 3) := by decide +kernel
theorem dX10_sampleNumber_14 : decode cX10_sampleNumber 14 = .ok (.aload_n 0, 1) := by decide +kernel
theorem dX10_sampleNumber_15 : decode cX10_sampleNumber 15 = .ok (.getfield 10, 3) := by decide +kernel
theorem dX10_sampleNumber_18 : decode cX10_sampleNumber 18 = .ok (.aload_n 3, 1) := by decide +kernel
theorem dX10_sampleNumber_19 : decode cX10_sampleNumber 19 = .ok (.iload_n 2, 1) := by decide +kernel
theorem dX10_sampleNumber_20 : decode cX10_sampleNumber 20 = .ok (.invokevirtual 226, 3) := by decide +kernel
theorem dX10_sampleNumber_23 : decode cX10_sampleNumber 23 = .ok (.ireturn, 1) := by decide +kernel
theorem dX10_part_0 : decode cX10_part 0 = .ok (.aload_n 0, 1) := by decide +kernel
theorem dX10_part_1 : decode cX10_part 1 = .ok (.iload_n 1, 1) := by decide +kernel
theorem dX10_part_2 : decode cX10_part 2 = .ok (.invokevirtual 112, 3) := by decide +kernel
theorem dX10_part_5 : decode cX10_part 5 = .ok (.astore_n 3, 1) := by decide +kernel
theorem dX10_part_6 : decode cX10_part 6 = .ok (.iload_n 2, 1) := by decide +kernel
theorem dX10_part_7 : decode cX10_part 7 = .ok (.invokestatic 137, 3) := by decide +kernel
theorem dX10_part_10 : decode cX10_part 10 = .ok (.aload_n 0, 1) := by decide +kernel
theorem dX10_part_11 : decode cX10_part 11 = .ok (.getfield 37, 3) := by decide +kernel
theorem dX10_part_14 : decode cX10_part 14 = .ok (.aload_n 0, 1) := by decide +kernel
theorem dX10_part_15 : decode cX10_part 15 = .ok (.getfield 10, 3) := by decide +kernel
theorem dX10_part_18 : decode cX10_part 18 = .ok (.aload_n 3, 1) := by decide +kernel
theorem dX10_part_19 : decode cX10_part 19 = .ok (.iload_n 2, 1) := by decide +kernel
theorem dX10_part_20 : decode cX10_part 20 = .ok (.invokevirtual 230, 3) := by decide +kernel
theorem dX10_part_23 : decode cX10_part 23 = .ok (.ireturn, 1) := by decide +kernel
theorem dX10_beam_0 : decode cX10_beam 0 = .ok (.iload_n 1, 1) := by decide +kernel
theorem dX10_beam_1 : decode cX10_beam 1 = .ok (.invokestatic 137, 3) := by decide +kernel
theorem dX10_beam_4 : decode cX10_beam 4 = .ok (.aload_n 0, 1) := by decide +kernel
theorem dX10_beam_5 : decode cX10_beam 5 = .ok (.getfield 37, 3) := by decide +kernel
theorem dX10_beam_8 : decode cX10_beam 8 = .ok (.aload_n 0, 1) := by decide +kernel
theorem dX10_beam_9 : decode cX10_beam 9 = .ok (.getfield 10, 3) := by decide +kernel
theorem dX10_beam_12 : decode cX10_beam 12 = .ok (.iconst 0, 1) := by decide +kernel
theorem dX10_beam_13 : decode cX10_beam 13 = .ok (.iload_n 1, 1) := by decide +kernel
theorem dX10_beam_14 : decode cX10_beam 14 = .ok (.iload_n 1, 1) := by decide +kernel
theorem dX10_beam_15 : decode cX10_beam 15 = .ok (.invokevirtual 233, 3) := by decide +kernel
theorem dX10_beam_18 : decode cX10_beam 18 = .ok (.iload_n 1, 1) := by decide +kernel
theorem dX10_beam_19 : decode cX10_beam 19 = .ok (.iaload, 1) := by decide +kernel
theorem dX10_beam_20 : decode cX10_beam 20 = .ok (.ireturn, 1) := by decide +kernel
theorem dX10_measureBeam_0 : decode cX10_measureBeam 0 = .ok (.iload_n 1, 1) := by decide +kernel
theorem dX10_measureBeam_1 : decode cX10_measureBeam 1 = .ok (.iconst 0, 1) := by decide +kernel
theorem dX10_measureBeam_2 : decode cX10_measureBeam 2 = .ok (.iconst 4, 1) := by decide +kernel
theorem dX10_measureBeam_3 : decode cX10_measureBeam 3 = .ok (.invokestatic 55, 3) := by decide +kernel
theorem dX10_measureBeam_6 : decode cX10_measureBeam 6 = .ok (.iload_n 2, 1) := by decide +kernel
theorem dX10_measureBeam_7 : decode cX10_measureBeam 7 = .ok (.iload_n 3, 1) := by decide +kernel
theorem dX10_measureBeam_8 : decode cX10_measureBeam 8 = .ok (.invokestatic 175, 3) := by decide +kernel
theorem dX10_measureBeam_11 : decode cX10_measureBeam 11 = .ok (.aload_n 0, 1) := by decide +kernel
theorem dX10_measureBeam_12 : decode cX10_measureBeam 12 = .ok (.getfield 37, 3) := by decide +kernel
theorem dX10_measureBeam_15 : decode cX10_measureBeam 15 = .ok (.aload_n 0, 1) := by decide +kernel
theorem dX10_measureBeam_16 : decode cX10_measureBeam 16 = .ok (.getfield 10, 3) := by decide +kernel
theorem dX10_measureBeam_19 : decode cX10_measureBeam 19 = .ok (.iconst 0, 1) := by decide +kernel
theorem dX10_measureBeam_20 : decode cX10_measureBeam 20 = .ok (.iload_n 2, 1) := by decide +kernel
theorem dX10_measureBeam_21 : decode cX10_measureBeam 21 = .ok (.iload_n 3, 1) := by decide +kernel
theorem dX10_measureBeam_22 : decode cX10_measureBeam 22 = .ok (.invokevirtual 233, 3) := by decide +kernel
theorem dX10_measureBeam_25 : decode cX10_measureBeam 25 = .ok (.iload_n 1, 1) := by decide +kernel
theorem dX10_measureBeam_26 : decode cX10_measureBeam 26 = .ok (.iload_n 2, 1) := by decide +kernel
theorem dX10_measureBeam_27 : decode cX10_measureBeam 27 = .ok (.iload_n 3, 1) := by decide +kernel
theorem dX10_measureBeam_28 : decode cX10_measureBeam 28 = .ok (.invokestatic 178, 3) := by decide +kernel
theorem dX10_measureBeam_31 : decode cX10_measureBeam 31 = .ok (.lreturn, 1) := by decide +kernel
theorem dX10_periodPower_0 : decode cX10_periodPower 0 = .ok (.iload_n 1, 1) := by decide +kernel
theorem dX10_periodPower_1 : decode cX10_periodPower 1 = .ok (.iconst 1, 1) := by decide +kernel
theorem dX10_periodPower_2 : decode cX10_periodPower 2 = .ok (.bipush 64, 2) := by decide +kernel
theorem dX10_periodPower_4 : decode cX10_periodPower 4 = .ok (.invokestatic 55, 3) := by decide +kernel
theorem dX10_periodPower_7 : decode cX10_periodPower 7 = .ok (.iload_n 2, 1) := by decide +kernel
theorem dX10_periodPower_8 : decode cX10_periodPower 8 = .ok (.iload_n 3, 1) := by decide +kernel
theorem dX10_periodPower_9 : decode cX10_periodPower 9 = .ok (.invokestatic 175, 3) := by decide +kernel
theorem dX10_periodPower_12 : decode cX10_periodPower 12 = .ok (.aload_n 0, 1) := by decide +kernel
theorem dX10_periodPower_13 : decode cX10_periodPower 13 = .ok (.getfield 37, 3) := by decide +kernel
theorem dX10_periodPower_16 : decode cX10_periodPower 16 = .ok (.aload_n 0, 1) := by decide +kernel
theorem dX10_periodPower_17 : decode cX10_periodPower 17 = .ok (.getfield 10, 3) := by decide +kernel
theorem dX10_periodPower_20 : decode cX10_periodPower 20 = .ok (.iconst 0, 1) := by decide +kernel
theorem dX10_periodPower_21 : decode cX10_periodPower 21 = .ok (.iload_n 2, 1) := by decide +kernel
theorem dX10_periodPower_22 : decode cX10_periodPower 22 = .ok (.iload_n 3, 1) := by decide +kernel
theorem dX10_periodPower_23 : decode cX10_periodPower 23 = .ok (.invokevirtual 233, 3) := by decide +kernel
theorem dX10_periodPower_26 : decode cX10_periodPower 26 = .ok (.iload_n 1, 1) := by decide +kernel
theorem dX10_periodPower_27 : decode cX10_periodPower 27 = .ok (.iload_n 2, 1) := by decide +kernel
theorem dX10_periodPower_28 : decode cX10_periodPower 28 = .ok (.iload_n 3, 1) := by decide +kernel
theorem dX10_periodPower_29 : decode cX10_periodPower 29 = .ok (.invokestatic 237, 3) := by decide +kernel
theorem dX10_periodPower_32 : decode cX10_periodPower 32 = .ok (.lreturn, 1) := by decide +kernel
theorem dX10_bestPeriod_0 : decode cX10_bestPeriod 0 = .ok (.iload_n 1, 1) := by decide +kernel
theorem dX10_bestPeriod_1 : decode cX10_bestPeriod 1 = .ok (.iconst 1, 1) := by decide +kernel
theorem dX10_bestPeriod_2 : decode cX10_bestPeriod 2 = .ok (.bipush 64, 2) := by decide +kernel
theorem dX10_bestPeriod_4 : decode cX10_bestPeriod 4 = .ok (.invokestatic 55, 3) := by decide +kernel
theorem dX10_bestPeriod_7 : decode cX10_bestPeriod 7 = .ok (.iload_n 2, 1) := by decide +kernel
theorem dX10_bestPeriod_8 : decode cX10_bestPeriod 8 = .ok (.iload_n 3, 1) := by decide +kernel
theorem dX10_bestPeriod_9 : decode cX10_bestPeriod 9 = .ok (.invokestatic 175, 3) := by decide +kernel
theorem dX10_bestPeriod_12 : decode cX10_bestPeriod 12 = .ok (.aload_n 0, 1) := by decide +kernel
theorem dX10_bestPeriod_13 : decode cX10_bestPeriod 13 = .ok (.getfield 37, 3) := by decide +kernel
theorem dX10_bestPeriod_16 : decode cX10_bestPeriod 16 = .ok (.aload_n 0, 1) := by decide +kernel
theorem dX10_bestPeriod_17 : decode cX10_bestPeriod 17 = .ok (.getfield 10, 3) := by decide +kernel
theorem dX10_bestPeriod_20 : decode cX10_bestPeriod 20 = .ok (.iconst 0, 1) := by decide +kernel
theorem dX10_bestPeriod_21 : decode cX10_bestPeriod 21 = .ok (.iload_n 2, 1) := by decide +kernel
theorem dX10_bestPeriod_22 : decode cX10_bestPeriod 22 = .ok (.iload_n 3, 1) := by decide +kernel
theorem dX10_bestPeriod_23 : decode cX10_bestPeriod 23 = .ok (.invokevirtual 233, 3) := by decide +kernel
theorem dX10_bestPeriod_26 : decode cX10_bestPeriod 26 = .ok (.astore 4, 2) := by decide +kernel
theorem dX10_bestPeriod_28 : decode cX10_bestPeriod 28 = .ok (.iconst 1, 1) := by decide +kernel
theorem dX10_bestPeriod_29 : decode cX10_bestPeriod 29 = .ok (.istore 5, 2) := by decide +kernel
theorem dX10_bestPeriod_31 : decode cX10_bestPeriod 31 = .ok (.ldc2_w 184, 3) := by decide +kernel
theorem dX10_bestPeriod_34 : decode cX10_bestPeriod 34 = .ok (.lstore 6, 2) := by decide +kernel
theorem dX10_bestPeriod_36 : decode cX10_bestPeriod 36 = .ok (.iconst 1, 1) := by decide +kernel
theorem dX10_bestPeriod_37 : decode cX10_bestPeriod 37 = .ok (.istore 8, 2) := by decide +kernel
theorem dX10_bestPeriod_39 : decode cX10_bestPeriod 39 = .ok (.iload 8, 2) := by decide +kernel
theorem dX10_bestPeriod_41 : decode cX10_bestPeriod 41 = .ok (.iload_n 1, 1) := by decide +kernel
theorem dX10_bestPeriod_42 : decode cX10_bestPeriod 42 = .ok (.if_icmp .gt 36, 3) := by decide +kernel
theorem dX10_bestPeriod_45 : decode cX10_bestPeriod 45 = .ok (.aload 4, 2) := by decide +kernel
theorem dX10_bestPeriod_47 : decode cX10_bestPeriod 47 = .ok (.iload 8, 2) := by decide +kernel
theorem dX10_bestPeriod_49 : decode cX10_bestPeriod 49 = .ok (.iload_n 2, 1) := by decide +kernel
theorem dX10_bestPeriod_50 : decode cX10_bestPeriod 50 = .ok (.iload_n 3, 1) := by decide +kernel
theorem dX10_bestPeriod_51 : decode cX10_bestPeriod 51 = .ok (.invokestatic 240, 3) := by decide +kernel
theorem dX10_bestPeriod_54 : decode cX10_bestPeriod 54 = .ok (.lstore 9, 2) := by decide +kernel
theorem dX10_bestPeriod_56 : decode cX10_bestPeriod 56 = .ok (.lload 9, 2) := by decide +kernel
theorem dX10_bestPeriod_58 : decode cX10_bestPeriod 58 = .ok (.lload 6, 2) := by decide +kernel
theorem dX10_bestPeriod_60 : decode cX10_bestPeriod 60 = .ok (.lcmp, 1) := by decide +kernel
theorem dX10_bestPeriod_61 : decode cX10_bestPeriod 61 = .ok (.ifCond .le 11, 3) := by decide +kernel
theorem dX10_bestPeriod_64 : decode cX10_bestPeriod 64 = .ok (.lload 9, 2) := by decide +kernel
theorem dX10_bestPeriod_66 : decode cX10_bestPeriod 66 = .ok (.lstore 6, 2) := by decide +kernel
theorem dX10_bestPeriod_68 : decode cX10_bestPeriod 68 = .ok (.iload 8, 2) := by decide +kernel
theorem dX10_bestPeriod_70 : decode cX10_bestPeriod 70 = .ok (.istore 5, 2) := by decide +kernel
theorem dX10_bestPeriod_72 : decode cX10_bestPeriod 72 = .ok (.iinc 8 1, 3) := by decide +kernel
theorem dX10_bestPeriod_75 : decode cX10_bestPeriod 75 = .ok (.goto (-36), 3) := by decide +kernel
theorem dX10_bestPeriod_78 : decode cX10_bestPeriod 78 = .ok (.iload 5, 2) := by decide +kernel
theorem dX10_bestPeriod_80 : decode cX10_bestPeriod 80 = .ok (.ireturn, 1) := by decide +kernel
theorem dX10_energyBeside_0 : decode cX10_energyBeside 0 = .ok (.iload_n 1, 1) := by decide +kernel
theorem dX10_energyBeside_1 : decode cX10_energyBeside 1 = .ok (.sipush (-2000), 3) := by decide +kernel
theorem dX10_energyBeside_4 : decode cX10_energyBeside 4 = .ok (.sipush 2000, 3) := by decide +kernel
theorem dX10_energyBeside_7 : decode cX10_energyBeside 7 = .ok (.invokestatic 55, 3) := by decide +kernel
theorem dX10_energyBeside_10 : decode cX10_energyBeside 10 = .ok (.iload_n 2, 1) := by decide +kernel
theorem dX10_energyBeside_11 : decode cX10_energyBeside 11 = .ok (.iload_n 3, 1) := by decide +kernel
theorem dX10_energyBeside_12 : decode cX10_energyBeside 12 = .ok (.invokestatic 175, 3) := by decide +kernel
theorem dX10_energyBeside_15 : decode cX10_energyBeside 15 = .ok (.aload_n 0, 1) := by decide +kernel
theorem dX10_energyBeside_16 : decode cX10_energyBeside 16 = .ok (.getfield 37, 3) := by decide +kernel
theorem dX10_energyBeside_19 : decode cX10_energyBeside 19 = .ok (.aload_n 0, 1) := by decide +kernel
theorem dX10_energyBeside_20 : decode cX10_energyBeside 20 = .ok (.getfield 10, 3) := by decide +kernel
theorem dX10_energyBeside_23 : decode cX10_energyBeside 23 = .ok (.iload_n 1, 1) := by decide +kernel
theorem dX10_energyBeside_24 : decode cX10_energyBeside 24 = .ok (.iload_n 2, 1) := by decide +kernel
theorem dX10_energyBeside_25 : decode cX10_energyBeside 25 = .ok (.iload_n 3, 1) := by decide +kernel
theorem dX10_energyBeside_26 : decode cX10_energyBeside 26 = .ok (.invokevirtual 233, 3) := by decide +kernel
theorem dX10_energyBeside_29 : decode cX10_energyBeside 29 = .ok (.iload_n 2, 1) := by decide +kernel
theorem dX10_energyBeside_30 : decode cX10_energyBeside 30 = .ok (.iload_n 3, 1) := by decide +kernel
theorem dX10_energyBeside_31 : decode cX10_energyBeside 31 = .ok (.invokestatic 190, 3) := by decide +kernel
theorem dX10_energyBeside_34 : decode cX10_energyBeside 34 = .ok (.lreturn, 1) := by decide +kernel
theorem dX10_scan_0 : decode cX10_scan 0 = .ok (.iload_n 1, 1) := by decide +kernel
theorem dX10_scan_1 : decode cX10_scan 1 = .ok (.iconst 1, 1) := by decide +kernel
theorem dX10_scan_2 : decode cX10_scan 2 = .ok (.bipush 100, 2) := by decide +kernel
theorem dX10_scan_4 : decode cX10_scan 4 = .ok (.invokestatic 55, 3) := by decide +kernel
theorem dX10_scan_7 : decode cX10_scan 7 = .ok (.iload_n 2, 1) := by decide +kernel
theorem dX10_scan_8 : decode cX10_scan 8 = .ok (.iconst 0, 1) := by decide +kernel
theorem dX10_scan_9 : decode cX10_scan 9 = .ok (.bipush 20, 2) := by decide +kernel
theorem dX10_scan_11 : decode cX10_scan 11 = .ok (.invokestatic 55, 3) := by decide +kernel
theorem dX10_scan_14 : decode cX10_scan 14 = .ok (.iload_n 3, 1) := by decide +kernel
theorem dX10_scan_15 : decode cX10_scan 15 = .ok (.iload 4, 2) := by decide +kernel
theorem dX10_scan_17 : decode cX10_scan 17 = .ok (.invokestatic 175, 3) := by decide +kernel
theorem dX10_scan_20 : decode cX10_scan 20 = .ok (.iconst 0, 1) := by decide +kernel
theorem dX10_scan_21 : decode cX10_scan 21 = .ok (.istore 5, 2) := by decide +kernel
theorem dX10_scan_23 : decode cX10_scan 23 = .ok (.ldc2_w 184, 3) := by decide +kernel
theorem dX10_scan_26 : decode cX10_scan 26 = .ok (.lstore 6, 2) := by decide +kernel
theorem dX10_scan_28 : decode cX10_scan 28 = .ok (.iconst 1, 1) := by decide +kernel
theorem dX10_scan_29 : decode cX10_scan 29 = .ok (.istore 8, 2) := by decide +kernel
theorem dX10_scan_31 : decode cX10_scan 31 = .ok (.iload 8, 2) := by decide +kernel
theorem dX10_scan_33 : decode cX10_scan 33 = .ok (.iconst 2, 1) := by decide +kernel
theorem dX10_scan_34 : decode cX10_scan 34 = .ok (.iload_n 2, 1) := by decide +kernel
theorem dX10_scan_35 : decode cX10_scan 35 = .ok (.imul, 1) := by decide +kernel
theorem dX10_scan_36 : decode cX10_scan 36 = .ok (.iconst 1, 1) := by decide +kernel
theorem dX10_scan_37 : decode cX10_scan 37 = .ok (.iadd, 1) := by decide +kernel
theorem dX10_scan_38 : decode cX10_scan 38 = .ok (.if_icmp .gt 62, 3) := by decide +kernel
theorem dX10_scan_41 : decode cX10_scan 41 = .ok (.iload 8, 2) := by decide +kernel
theorem dX10_scan_43 : decode cX10_scan 43 = .ok (.invokestatic 202, 3) := by decide +kernel
theorem dX10_scan_46 : decode cX10_scan 46 = .ok (.istore 9, 2) := by decide +kernel
theorem dX10_scan_48 : decode cX10_scan 48 = .ok (.aload_n 0, 1) := by decide +kernel
theorem dX10_scan_49 : decode cX10_scan 49 = .ok (.getfield 37, 3) := by decide +kernel
theorem dX10_scan_52 : decode cX10_scan 52 = .ok (.aload_n 0, 1) := by decide +kernel
theorem dX10_scan_53 : decode cX10_scan 53 = .ok (.getfield 10, 3) := by decide +kernel
theorem dX10_scan_56 : decode cX10_scan 56 = .ok (.iload 9, 2) := by decide +kernel
theorem dX10_scan_58 : decode cX10_scan 58 = .ok (.iload_n 1, 1) := by decide +kernel
theorem dX10_scan_59 : decode cX10_scan 59 = .ok (.imul, 1) := by decide +kernel
theorem dX10_scan_60 : decode cX10_scan 60 = .ok (.iload_n 3, 1) := by decide +kernel
theorem dX10_scan_61 : decode cX10_scan 61 = .ok (.iload 4, 2) := by decide +kernel
theorem dX10_scan_63 : decode cX10_scan 63 = .ok (.invokevirtual 233, 3) := by decide +kernel
theorem dX10_scan_66 : decode cX10_scan 66 = .ok (.astore 10, 2) := by decide +kernel
theorem dX10_scan_68 : decode cX10_scan 68 = .ok (.aload 10, 2) := by decide +kernel
theorem dX10_scan_70 : decode cX10_scan 70 = .ok (.iload_n 3, 1) := by decide +kernel
theorem dX10_scan_71 : decode cX10_scan 71 = .ok (.iload 4, 2) := by decide +kernel
theorem dX10_scan_73 : decode cX10_scan 73 = .ok (.invokestatic 190, 3) := by decide +kernel
theorem dX10_scan_76 : decode cX10_scan 76 = .ok (.lstore 11, 2) := by decide +kernel
theorem dX10_scan_78 : decode cX10_scan 78 = .ok (.lload 11, 2) := by decide +kernel
theorem dX10_scan_80 : decode cX10_scan 80 = .ok (.lload 6, 2) := by decide +kernel
theorem dX10_scan_82 : decode cX10_scan 82 = .ok (.lcmp, 1) := by decide +kernel
theorem dX10_scan_83 : decode cX10_scan 83 = .ok (.ifCond .le 11, 3) := by decide +kernel
theorem dX10_scan_86 : decode cX10_scan 86 = .ok (.lload 11, 2) := by decide +kernel
theorem dX10_scan_88 : decode cX10_scan 88 = .ok (.lstore 6, 2) := by decide +kernel
theorem dX10_scan_90 : decode cX10_scan 90 = .ok (.iload 9, 2) := by decide +kernel
theorem dX10_scan_92 : decode cX10_scan 92 = .ok (.istore 5, 2) := by decide +kernel
theorem dX10_scan_94 : decode cX10_scan 94 = .ok (.iinc 8 1, 3) := by decide +kernel
theorem dX10_scan_97 : decode cX10_scan 97 = .ok (.goto (-66), 3) := by decide +kernel
theorem dX10_scan_100 : decode cX10_scan 100 = .ok (.iload 5, 2) := by decide +kernel
theorem dX10_scan_102 : decode cX10_scan 102 = .ok (.ireturn, 1) := by decide +kernel
theorem dX10_bestDirection_0 : decode cX10_bestDirection 0 = .ok (.iload_n 1, 1) := by decide +kernel
theorem dX10_bestDirection_1 : decode cX10_bestDirection 1 = .ok (.iconst 1, 1) := by decide +kernel
theorem dX10_bestDirection_2 : decode cX10_bestDirection 2 = .ok (.bipush 100, 2) := by decide +kernel
theorem dX10_bestDirection_4 : decode cX10_bestDirection 4 = .ok (.invokestatic 55, 3) := by decide +kernel
theorem dX10_bestDirection_7 : decode cX10_bestDirection 7 = .ok (.iload_n 2, 1) := by decide +kernel
theorem dX10_bestDirection_8 : decode cX10_bestDirection 8 = .ok (.iload_n 3, 1) := by decide +kernel
theorem dX10_bestDirection_9 : decode cX10_bestDirection 9 = .ok (.invokestatic 175, 3) := by decide +kernel
theorem dX10_bestDirection_12 : decode cX10_bestDirection 12 = .ok (.bipush (-100), 2) := by decide +kernel
theorem dX10_bestDirection_14 : decode cX10_bestDirection 14 = .ok (.istore 4, 2) := by decide +kernel
theorem dX10_bestDirection_16 : decode cX10_bestDirection 16 = .ok (.ldc2_w 184, 3) := by decide +kernel
theorem dX10_bestDirection_19 : decode cX10_bestDirection 19 = .ok (.lstore 5, 2) := by decide +kernel
theorem dX10_bestDirection_21 : decode cX10_bestDirection 21 = .ok (.bipush (-100), 2) := by decide +kernel
theorem dX10_bestDirection_23 : decode cX10_bestDirection 23 = .ok (.istore 7, 2) := by decide +kernel
theorem dX10_bestDirection_25 : decode cX10_bestDirection 25 = .ok (.iload 7, 2) := by decide +kernel
theorem dX10_bestDirection_27 : decode cX10_bestDirection 27 = .ok (.bipush 100, 2) := by decide +kernel
theorem dX10_bestDirection_29 : decode cX10_bestDirection 29 = .ok (.if_icmp .gt 54, 3) := by decide +kernel
theorem dX10_bestDirection_32 : decode cX10_bestDirection 32 = .ok (.aload_n 0, 1) := by decide +kernel
theorem dX10_bestDirection_33 : decode cX10_bestDirection 33 = .ok (.getfield 37, 3) := by decide +kernel
theorem dX10_bestDirection_36 : decode cX10_bestDirection 36 = .ok (.aload_n 0, 1) := by decide +kernel
theorem dX10_bestDirection_37 : decode cX10_bestDirection 37 = .ok (.getfield 10, 3) := by decide +kernel
theorem dX10_bestDirection_40 : decode cX10_bestDirection 40 = .ok (.iload 7, 2) := by decide +kernel
theorem dX10_bestDirection_42 : decode cX10_bestDirection 42 = .ok (.iload_n 2, 1) := by decide +kernel
theorem dX10_bestDirection_43 : decode cX10_bestDirection 43 = .ok (.iload_n 3, 1) := by decide +kernel
theorem dX10_bestDirection_44 : decode cX10_bestDirection 44 = .ok (.invokevirtual 243, 3) := by decide +kernel
theorem dX10_bestDirection_47 : decode cX10_bestDirection 47 = .ok (.astore 8, 2) := by decide +kernel
theorem dX10_bestDirection_49 : decode cX10_bestDirection 49 = .ok (.aload 8, 2) := by decide +kernel
theorem dX10_bestDirection_51 : decode cX10_bestDirection 51 = .ok (.iload_n 2, 1) := by decide +kernel
theorem dX10_bestDirection_52 : decode cX10_bestDirection 52 = .ok (.iload_n 3, 1) := by decide +kernel
theorem dX10_bestDirection_53 : decode cX10_bestDirection 53 = .ok (.invokestatic 190, 3) := by decide +kernel
theorem dX10_bestDirection_56 : decode cX10_bestDirection 56 = .ok (.lstore 9, 2) := by decide +kernel
theorem dX10_bestDirection_58 : decode cX10_bestDirection 58 = .ok (.lload 9, 2) := by decide +kernel
theorem dX10_bestDirection_60 : decode cX10_bestDirection 60 = .ok (.lload 5, 2) := by decide +kernel
theorem dX10_bestDirection_62 : decode cX10_bestDirection 62 = .ok (.lcmp, 1) := by decide +kernel
theorem dX10_bestDirection_63 : decode cX10_bestDirection 63 = .ok (.ifCond .le 11, 3) := by decide +kernel
theorem dX10_bestDirection_66 : decode cX10_bestDirection 66 = .ok (.lload 9, 2) := by decide +kernel
theorem dX10_bestDirection_68 : decode cX10_bestDirection 68 = .ok (.lstore 5, 2) := by decide +kernel
theorem dX10_bestDirection_70 : decode cX10_bestDirection 70 = .ok (.iload 7, 2) := by decide +kernel
theorem dX10_bestDirection_72 : decode cX10_bestDirection 72 = .ok (.istore 4, 2) := by decide +kernel
theorem dX10_bestDirection_74 : decode cX10_bestDirection 74 = .ok (.iload 7, 2) := by decide +kernel
theorem dX10_bestDirection_76 : decode cX10_bestDirection 76 = .ok (.iload_n 1, 1) := by decide +kernel
theorem dX10_bestDirection_77 : decode cX10_bestDirection 77 = .ok (.iadd, 1) := by decide +kernel
theorem dX10_bestDirection_78 : decode cX10_bestDirection 78 = .ok (.istore 7, 2) := by decide +kernel
theorem dX10_bestDirection_80 : decode cX10_bestDirection 80 = .ok (.goto (-55), 3) := by decide +kernel
theorem dX10_bestDirection_83 : decode cX10_bestDirection 83 = .ok (.iload 4, 2) := by decide +kernel
theorem dX10_bestDirection_85 : decode cX10_bestDirection 85 = .ok (.ireturn, 1) := by decide +kernel
theorem dX10_spectrum_0 : decode cX10_spectrum 0 = .ok (.iload_n 1, 1) := by decide +kernel
theorem dX10_spectrum_1 : decode cX10_spectrum 1 = .ok (.bipush (-100), 2) := by decide +kernel
theorem dX10_spectrum_3 : decode cX10_spectrum 3 = .ok (.bipush 100, 2) := by decide +kernel
theorem dX10_spectrum_5 : decode cX10_spectrum 5 = .ok (.invokestatic 55, 3) := by decide +kernel
theorem dX10_spectrum_8 : decode cX10_spectrum 8 = .ok (.iload_n 2, 1) := by decide +kernel
theorem dX10_spectrum_9 : decode cX10_spectrum 9 = .ok (.iconst 1, 1) := by decide +kernel
theorem dX10_spectrum_10 : decode cX10_spectrum 10 = .ok (.bipush 64, 2) := by decide +kernel
theorem dX10_spectrum_12 : decode cX10_spectrum 12 = .ok (.invokestatic 55, 3) := by decide +kernel
theorem dX10_spectrum_15 : decode cX10_spectrum 15 = .ok (.iload_n 3, 1) := by decide +kernel
theorem dX10_spectrum_16 : decode cX10_spectrum 16 = .ok (.iload 4, 2) := by decide +kernel
theorem dX10_spectrum_18 : decode cX10_spectrum 18 = .ok (.invokestatic 175, 3) := by decide +kernel
theorem dX10_spectrum_21 : decode cX10_spectrum 21 = .ok (.aload_n 0, 1) := by decide +kernel
theorem dX10_spectrum_22 : decode cX10_spectrum 22 = .ok (.getfield 37, 3) := by decide +kernel
theorem dX10_spectrum_25 : decode cX10_spectrum 25 = .ok (.aload_n 0, 1) := by decide +kernel
theorem dX10_spectrum_26 : decode cX10_spectrum 26 = .ok (.getfield 10, 3) := by decide +kernel
theorem dX10_spectrum_29 : decode cX10_spectrum 29 = .ok (.iload_n 1, 1) := by decide +kernel
theorem dX10_spectrum_30 : decode cX10_spectrum 30 = .ok (.iload_n 3, 1) := by decide +kernel
theorem dX10_spectrum_31 : decode cX10_spectrum 31 = .ok (.iload 4, 2) := by decide +kernel
theorem dX10_spectrum_33 : decode cX10_spectrum 33 = .ok (.invokevirtual 243, 3) := by decide +kernel
theorem dX10_spectrum_36 : decode cX10_spectrum 36 = .ok (.astore 5, 2) := by decide +kernel
theorem dX10_spectrum_38 : decode cX10_spectrum 38 = .ok (.aload 5, 2) := by decide +kernel
theorem dX10_spectrum_40 : decode cX10_spectrum 40 = .ok (.iload_n 2, 1) := by decide +kernel
theorem dX10_spectrum_41 : decode cX10_spectrum 41 = .ok (.iload_n 3, 1) := by decide +kernel
theorem dX10_spectrum_42 : decode cX10_spectrum 42 = .ok (.iload 4, 2) := by decide +kernel
theorem dX10_spectrum_44 : decode cX10_spectrum 44 = .ok (.invokestatic 240, 3) := by decide +kernel
theorem dX10_spectrum_47 : decode cX10_spectrum 47 = .ok (.lreturn, 1) := by decide +kernel
theorem dX10_meanPower_0 : decode cX10_meanPower 0 = .ok (.iload_n 1, 1) := by decide +kernel
theorem dX10_meanPower_1 : decode cX10_meanPower 1 = .ok (.iload_n 2, 1) := by decide +kernel
theorem dX10_meanPower_2 : decode cX10_meanPower 2 = .ok (.invokestatic 175, 3) := by decide +kernel
theorem dX10_meanPower_5 : decode cX10_meanPower 5 = .ok (.aload_n 0, 1) := by decide +kernel
theorem dX10_meanPower_6 : decode cX10_meanPower 6 = .ok (.getfield 37, 3) := by decide +kernel
theorem dX10_meanPower_9 : decode cX10_meanPower 9 = .ok (.aload_n 0, 1) := by decide +kernel
theorem dX10_meanPower_10 : decode cX10_meanPower 10 = .ok (.getfield 10, 3) := by decide +kernel
theorem dX10_meanPower_13 : decode cX10_meanPower 13 = .ok (.iconst 0, 1) := by decide +kernel
theorem dX10_meanPower_14 : decode cX10_meanPower 14 = .ok (.iload_n 1, 1) := by decide +kernel
theorem dX10_meanPower_15 : decode cX10_meanPower 15 = .ok (.iload_n 2, 1) := by decide +kernel
theorem dX10_meanPower_16 : decode cX10_meanPower 16 = .ok (.invokevirtual 233, 3) := by decide +kernel
theorem dX10_meanPower_19 : decode cX10_meanPower 19 = .ok (.iload_n 1, 1) := by decide +kernel
theorem dX10_meanPower_20 : decode cX10_meanPower 20 = .ok (.iload_n 2, 1) := by decide +kernel
theorem dX10_meanPower_21 : decode cX10_meanPower 21 = .ok (.invokestatic 246, 3) := by decide +kernel
theorem dX10_meanPower_24 : decode cX10_meanPower 24 = .ok (.dreturn, 1) := by decide +kernel
theorem dX10_crest_0 : decode cX10_crest 0 = .ok (.iload_n 1, 1) := by decide +kernel
theorem dX10_crest_1 : decode cX10_crest 1 = .ok (.iload_n 2, 1) := by decide +kernel
theorem dX10_crest_2 : decode cX10_crest 2 = .ok (.invokestatic 175, 3) := by decide +kernel
theorem dX10_crest_5 : decode cX10_crest 5 = .ok (.aload_n 0, 1) := by decide +kernel
theorem dX10_crest_6 : decode cX10_crest 6 = .ok (.getfield 37, 3) := by decide +kernel
theorem dX10_crest_9 : decode cX10_crest 9 = .ok (.aload_n 0, 1) := by decide +kernel
theorem dX10_crest_10 : decode cX10_crest 10 = .ok (.getfield 10, 3) := by decide +kernel
theorem dX10_crest_13 : decode cX10_crest 13 = .ok (.iconst 0, 1) := by decide +kernel
theorem dX10_crest_14 : decode cX10_crest 14 = .ok (.iload_n 1, 1) := by decide +kernel
theorem dX10_crest_15 : decode cX10_crest 15 = .ok (.iload_n 2, 1) := by decide +kernel
theorem dX10_crest_16 : decode cX10_crest 16 = .ok (.invokevirtual 233, 3) := by decide +kernel
theorem dX10_crest_19 : decode cX10_crest 19 = .ok (.iload_n 1, 1) := by decide +kernel
theorem dX10_crest_20 : decode cX10_crest 20 = .ok (.iload_n 2, 1) := by decide +kernel
theorem dX10_crest_21 : decode cX10_crest 21 = .ok (.invokestatic 250, 3) := by decide +kernel
theorem dX10_crest_24 : decode cX10_crest 24 = .ok (.freturn, 1) := by decide +kernel
theorem dX10_appendText_0 : decode cX10_appendText 0 = .ok (.aload_n 0, 1) := by decide +kernel
theorem dX10_appendText_1 : decode cX10_appendText 1 = .ok (.getfield 44, 3) := by decide +kernel
theorem dX10_appendText_4 : decode cX10_appendText 4 = .ok (.iload_n 1, 1) := by decide +kernel
theorem dX10_appendText_5 : decode cX10_appendText 5 = .ok (.invokevirtual 254, 3) := by decide +kernel
theorem dX10_appendText_8 : decode cX10_appendText 8 = .ok (.invokestatic 84, 3) := by decide +kernel
theorem dX10_appendText_11 : decode cX10_appendText 11 = .ok (.ireturn, 1) := by decide +kernel
theorem dX10_truncateText_0 : decode cX10_truncateText 0 = .ok (.iload_n 1, 1) := by decide +kernel
theorem dX10_truncateText_1 : decode cX10_truncateText 1 = .ok (.iconst 0, 1) := by decide +kernel
theorem dX10_truncateText_2 : decode cX10_truncateText 2 = .ok (.aload_n 0, 1) := by decide +kernel
theorem dX10_truncateText_3 : decode cX10_truncateText 3 = .ok (.getfield 44, 3) := by decide +kernel
theorem dX10_truncateText_6 : decode cX10_truncateText 6 = .ok (.getfield 255, 3) := by decide +kernel
theorem dX10_truncateText_9 : decode cX10_truncateText 9 = .ok (.invokestatic 55, 3) := by decide +kernel
theorem dX10_truncateText_12 : decode cX10_truncateText 12 = .ok (.aload_n 0, 1) := by decide +kernel
theorem dX10_truncateText_13 : decode cX10_truncateText 13 = .ok (.getfield 44, 3) := by decide +kernel
theorem dX10_truncateText_16 : decode cX10_truncateText 16 = .ok (.iload_n 1, 1) := by decide +kernel
theorem dX10_truncateText_17 : decode cX10_truncateText 17 = .ok (.putfield 255, 3) := by decide +kernel
theorem dX10_truncateText_20 : decode cX10_truncateText 20 = .ok (.iload_n 1, 1) := by decide +kernel
theorem dX10_truncateText_21 : decode cX10_truncateText 21 = .ok (.ireturn, 1) := by decide +kernel
theorem dX10_load_0 : decode cX10_load 0 = .ok (.aload_n 0, 1) := by decide +kernel
theorem dX10_load_1 : decode cX10_load 1 = .ok (.getfield 51, 3) := by decide +kernel
theorem dX10_load_4 : decode cX10_load 4 = .ok (.aload_n 0, 1) := by decide +kernel
theorem dX10_load_5 : decode cX10_load 5 = .ok (.getfield 44, 3) := by decide +kernel
theorem dX10_load_8 : decode cX10_load 8 = .ok (.aload_n 0, 1) := by decide +kernel
theorem dX10_load_9 : decode cX10_load 9 = .ok (.getfield 16, 3) := by decide +kernel
theorem dX10_load_12 : decode cX10_load 12 = .ok (.invokevirtual 258, 3) := by decide +kernel
theorem dX10_load_15 : decode cX10_load 15 = .ok (.istore_n 1, 1) := by decide +kernel
theorem dX10_load_16 : decode cX10_load 16 = .ok (.aload_n 0, 1) := by decide +kernel
theorem dX10_load_17 : decode cX10_load 17 = .ok (.getfield 44, 3) := by decide +kernel
theorem dX10_load_20 : decode cX10_load 20 = .ok (.iconst 0, 1) := by decide +kernel
theorem dX10_load_21 : decode cX10_load 21 = .ok (.putfield 255, 3) := by decide +kernel
theorem dX10_load_24 : decode cX10_load 24 = .ok (.iload_n 1, 1) := by decide +kernel
theorem dX10_load_25 : decode cX10_load 25 = .ok (.iconst (-1), 1) := by decide +kernel
theorem dX10_load_26 : decode cX10_load 26 = .ok (.if_icmp .eq 14, 3) := by decide +kernel
theorem dX10_load_29 : decode cX10_load 29 = .ok (.aload_n 0, 1) := by decide +kernel
theorem dX10_load_30 : decode cX10_load 30 = .ok (.getfield 10, 3) := by decide +kernel
theorem dX10_load_33 : decode cX10_load 33 = .ok (.aload_n 0, 1) := by decide +kernel
theorem dX10_load_34 : decode cX10_load 34 = .ok (.getfield 16, 3) := by decide +kernel
theorem dX10_load_37 : decode cX10_load 37 = .ok (.invokevirtual 262, 3) := by decide +kernel
theorem dX10_load_40 : decode cX10_load 40 = .ok (.iload_n 1, 1) := by decide +kernel
theorem dX10_load_41 : decode cX10_load 41 = .ok (.ireturn, 1) := by decide +kernel
theorem dX10_errorCode_0 : decode cX10_errorCode 0 = .ok (.aload_n 0, 1) := by decide +kernel
theorem dX10_errorCode_1 : decode cX10_errorCode 1 = .ok (.getfield 51, 3) := by decide +kernel
theorem dX10_errorCode_4 : decode cX10_errorCode 4 = .ok (.getfield 266, 3) := by decide +kernel
theorem dX10_errorCode_7 : decode cX10_errorCode 7 = .ok (.ireturn, 1) := by decide +kernel
theorem dX10_errorPosition_0 : decode cX10_errorPosition 0 = .ok (.aload_n 0, 1) := by decide +kernel
theorem dX10_errorPosition_1 : decode cX10_errorPosition 1 = .ok (.getfield 51, 3) := by decide +kernel
theorem dX10_errorPosition_4 : decode cX10_errorPosition 4 = .ok (.getfield 269, 3) := by decide +kernel
theorem dX10_errorPosition_7 : decode cX10_errorPosition 7 = .ok (.ireturn, 1) := by decide +kernel
theorem dX10_save_0 : decode cX10_save 0 = .ok (.iload_n 1, 1) := by decide +kernel
theorem dX10_save_1 : decode cX10_save 1 = .ok (.iconst 0, 1) := by decide +kernel
theorem dX10_save_2 : decode cX10_save 2 = .ok (.iconst 1, 1) := by decide +kernel
theorem dX10_save_3 : decode cX10_save 3 = .ok (.invokestatic 55, 3) := by decide +kernel
theorem dX10_save_6 : decode cX10_save 6 = .ok (.aload_n 0, 1) := by decide +kernel
theorem dX10_save_7 : decode cX10_save 7 = .ok (.getfield 19, 3) := by decide +kernel
theorem dX10_save_10 : decode cX10_save 10 = .ok (.iload_n 1, 1) := by decide +kernel
theorem dX10_save_11 : decode cX10_save 11 = .ok (.aaload, 1) := by decide +kernel
theorem dX10_save_12 : decode cX10_save 12 = .ok (.aload_n 0, 1) := by decide +kernel
theorem dX10_save_13 : decode cX10_save 13 = .ok (.getfield 10, 3) := by decide +kernel
theorem dX10_save_16 : decode cX10_save 16 = .ok (.invokevirtual 262, 3) := by decide +kernel
theorem dX10_save_19 : decode cX10_save 19 = .ok (.aload_n 0, 1) := by decide +kernel
theorem dX10_save_20 : decode cX10_save 20 = .ok (.getfield 23, 3) := by decide +kernel
theorem dX10_save_23 : decode cX10_save 23 = .ok (.iload_n 1, 1) := by decide +kernel
theorem dX10_save_24 : decode cX10_save 24 = .ok (.iconst 1, 1) := by decide +kernel
theorem dX10_save_25 : decode cX10_save 25 = .ok (.bastore, 1) := by decide +kernel
theorem dX10_save_26 : decode cX10_save 26 = .ok (.return_, 1) := by decide +kernel
theorem dX10_restore_0 : decode cX10_restore 0 = .ok (.iload_n 1, 1) := by decide +kernel
theorem dX10_restore_1 : decode cX10_restore 1 = .ok (.iconst 0, 1) := by decide +kernel
theorem dX10_restore_2 : decode cX10_restore 2 = .ok (.iconst 1, 1) := by decide +kernel
theorem dX10_restore_3 : decode cX10_restore 3 = .ok (.invokestatic 55, 3) := by decide +kernel
theorem dX10_restore_6 : decode cX10_restore 6 = .ok (.aload_n 0, 1) := by decide +kernel
theorem dX10_restore_7 : decode cX10_restore 7 = .ok (.getfield 23, 3) := by decide +kernel
theorem dX10_restore_10 : decode cX10_restore 10 = .ok (.iload_n 1, 1) := by decide +kernel
theorem dX10_restore_11 : decode cX10_restore 11 = .ok (.baload, 1) := by decide +kernel
theorem dX10_restore_12 : decode cX10_restore 12 = .ok (.ifCond .ne 14, 3) := by decide +kernel
theorem dX10_restore_15 : decode cX10_restore 15 = .ok (.new 272, 3) := by decide +kernel
theorem dX10_restore_18 : decode cX10_restore 18 = .ok (.dup, 1) := by decide +kernel
theorem dX10_restore_19 : decode cX10_restore 19 = .ok (.ldc_w 274, 3) := by decide +kernel
theorem dX10_restore_22 : decode cX10_restore 22 = .ok (.invokespecial 276, 3) := by decide +kernel
theorem dX10_restore_25 : decode cX10_restore 25 = .ok (.athrow, 1) := by decide +kernel
theorem dX10_restore_26 : decode cX10_restore 26 = .ok (.aload_n 0, 1) := by decide +kernel
theorem dX10_restore_27 : decode cX10_restore 27 = .ok (.getfield 10, 3) := by decide +kernel
theorem dX10_restore_30 : decode cX10_restore 30 = .ok (.aload_n 0, 1) := by decide +kernel
theorem dX10_restore_31 : decode cX10_restore 31 = .ok (.getfield 19, 3) := by decide +kernel
theorem dX10_restore_34 : decode cX10_restore 34 = .ok (.iload_n 1, 1) := by decide +kernel
theorem dX10_restore_35 : decode cX10_restore 35 = .ok (.aaload, 1) := by decide +kernel
theorem dX10_restore_36 : decode cX10_restore 36 = .ok (.invokevirtual 262, 3) := by decide +kernel
theorem dX10_restore_39 : decode cX10_restore 39 = .ok (.return_, 1) := by decide +kernel
theorem dX10_requireRange_0 : decode cX10_requireRange 0 = .ok (.iload_n 0, 1) := by decide +kernel
theorem dX10_requireRange_1 : decode cX10_requireRange 1 = .ok (.iload_n 1, 1) := by decide +kernel
theorem dX10_requireRange_2 : decode cX10_requireRange 2 = .ok (.if_icmp .lt 8, 3) := by decide +kernel
theorem dX10_requireRange_5 : decode cX10_requireRange 5 = .ok (.iload_n 0, 1) := by decide +kernel
theorem dX10_requireRange_6 : decode cX10_requireRange 6 = .ok (.iload_n 2, 1) := by decide +kernel
theorem dX10_requireRange_7 : decode cX10_requireRange 7 = .ok (.if_icmp .le 14, 3) := by decide +kernel
theorem dX10_requireRange_10 : decode cX10_requireRange 10 = .ok (.new 130, 3) := by decide +kernel
theorem dX10_requireRange_13 : decode cX10_requireRange 13 = .ok (.dup, 1) := by decide +kernel
theorem dX10_requireRange_14 : decode cX10_requireRange 14 = .ok (.ldc_w 277, 3) := by decide +kernel
theorem dX10_requireRange_17 : decode cX10_requireRange 17 = .ok (.invokespecial 134, 3) := by decide +kernel
theorem dX10_requireRange_20 : decode cX10_requireRange 20 = .ok (.athrow, 1) := by decide +kernel
theorem dX10_requireRange_21 : decode cX10_requireRange 21 = .ok (.return_, 1) := by decide +kernel
theorem dX10_requireTime_0 : decode cX10_requireTime 0 = .ok (.iload_n 0, 1) := by decide +kernel
theorem dX10_requireTime_1 : decode cX10_requireTime 1 = .ok (.iconst 0, 1) := by decide +kernel
theorem dX10_requireTime_2 : decode cX10_requireTime 2 = .ok (.sipush 255, 3) := by decide +kernel
theorem dX10_requireTime_5 : decode cX10_requireTime 5 = .ok (.invokestatic 55, 3) := by decide +kernel
theorem dX10_requireTime_8 : decode cX10_requireTime 8 = .ok (.return_, 1) := by decide +kernel
theorem dX10_requireWindow_0 : decode cX10_requireWindow 0 = .ok (.iload_n 0, 1) := by decide +kernel
theorem dX10_requireWindow_1 : decode cX10_requireWindow 1 = .ok (.invokestatic 137, 3) := by decide +kernel
theorem dX10_requireWindow_4 : decode cX10_requireWindow 4 = .ok (.iload_n 1, 1) := by decide +kernel
theorem dX10_requireWindow_5 : decode cX10_requireWindow 5 = .ok (.iload_n 0, 1) := by decide +kernel
theorem dX10_requireWindow_6 : decode cX10_requireWindow 6 = .ok (.sipush 255, 3) := by decide +kernel
theorem dX10_requireWindow_9 : decode cX10_requireWindow 9 = .ok (.invokestatic 55, 3) := by decide +kernel
theorem dX10_requireWindow_12 : decode cX10_requireWindow 12 = .ok (.return_, 1) := by decide +kernel
theorem dX10_requireNumber_0 : decode cX10_requireNumber 0 = .ok (.iload_n 0, 1) := by decide +kernel
theorem dX10_requireNumber_1 : decode cX10_requireNumber 1 = .ok (.ifCond .lt 8, 3) := by decide +kernel
theorem dX10_requireNumber_4 : decode cX10_requireNumber 4 = .ok (.iload_n 0, 1) := by decide +kernel
theorem dX10_requireNumber_5 : decode cX10_requireNumber 5 = .ok (.iload_n 1, 1) := by decide +kernel
theorem dX10_requireNumber_6 : decode cX10_requireNumber 6 = .ok (.if_icmp .lt 14, 3) := by decide +kernel
theorem dX10_requireNumber_9 : decode cX10_requireNumber 9 = .ok (.new 279, 3) := by decide +kernel
theorem dX10_requireNumber_12 : decode cX10_requireNumber 12 = .ok (.dup, 1) := by decide +kernel
theorem dX10_requireNumber_13 : decode cX10_requireNumber 13 = .ok (.ldc_w 281, 3) := by decide +kernel
theorem dX10_requireNumber_16 : decode cX10_requireNumber 16 = .ok (.invokespecial 283, 3) := by decide +kernel
theorem dX10_requireNumber_19 : decode cX10_requireNumber 19 = .ok (.athrow, 1) := by decide +kernel
theorem dX10_requireNumber_20 : decode cX10_requireNumber 20 = .ok (.return_, 1) := by decide +kernel
theorem dX10_requireRoom_0 : decode cX10_requireRoom 0 = .ok (.iload_n 0, 1) := by decide +kernel
theorem dX10_requireRoom_1 : decode cX10_requireRoom 1 = .ok (.iconst (-1), 1) := by decide +kernel
theorem dX10_requireRoom_2 : decode cX10_requireRoom 2 = .ok (.if_icmp .ne 14, 3) := by decide +kernel
theorem dX10_requireRoom_5 : decode cX10_requireRoom 5 = .ok (.new 272, 3) := by decide +kernel
theorem dX10_requireRoom_8 : decode cX10_requireRoom 8 = .ok (.dup, 1) := by decide +kernel
theorem dX10_requireRoom_9 : decode cX10_requireRoom 9 = .ok (.ldc_w 284, 3) := by decide +kernel
theorem dX10_requireRoom_12 : decode cX10_requireRoom 12 = .ok (.invokespecial 276, 3) := by decide +kernel
theorem dX10_requireRoom_15 : decode cX10_requireRoom 15 = .ok (.athrow, 1) := by decide +kernel
theorem dX10_requireRoom_16 : decode cX10_requireRoom 16 = .ok (.iload_n 0, 1) := by decide +kernel
theorem dX10_requireRoom_17 : decode cX10_requireRoom 17 = .ok (.ireturn, 1) := by decide +kernel
theorem dX10_requireSource_0 : decode cX10_requireSource 0 = .ok (.iload_n 1, 1) := by decide +kernel
theorem dX10_requireSource_1 : decode cX10_requireSource 1 = .ok (.aload_n 0, 1) := by decide +kernel
theorem dX10_requireSource_2 : decode cX10_requireSource 2 = .ok (.getfield 10, 3) := by decide +kernel
theorem dX10_requireSource_5 : decode cX10_requireSource 5 = .ok (.getfield 121, 3) := by decide +kernel
theorem dX10_requireSource_8 : decode cX10_requireSource 8 = .ok (.invokestatic 91, 3) := by decide +kernel
theorem dX10_requireSource_11 : decode cX10_requireSource 11 = .ok (.aload_n 0, 1) := by decide +kernel
theorem dX10_requireSource_12 : decode cX10_requireSource 12 = .ok (.getfield 10, 3) := by decide +kernel
theorem dX10_requireSource_15 : decode cX10_requireSource 15 = .ok (.getfield 286, 3) := by decide +kernel
theorem dX10_requireSource_18 : decode cX10_requireSource 18 = .ok (.iload_n 1, 1) := by decide +kernel
theorem dX10_requireSource_19 : decode cX10_requireSource 19 = .ok (.aaload, 1) := by decide +kernel
theorem dX10_requireSource_20 : decode cX10_requireSource 20 = .ok (.areturn, 1) := by decide +kernel
theorem dX10_requireMicrophone_0 : decode cX10_requireMicrophone 0 = .ok (.iload_n 1, 1) := by decide +kernel
theorem dX10_requireMicrophone_1 : decode cX10_requireMicrophone 1 = .ok (.aload_n 0, 1) := by decide +kernel
theorem dX10_requireMicrophone_2 : decode cX10_requireMicrophone 2 = .ok (.getfield 10, 3) := by decide +kernel
theorem dX10_requireMicrophone_5 : decode cX10_requireMicrophone 5 = .ok (.getfield 124, 3) := by decide +kernel
theorem dX10_requireMicrophone_8 : decode cX10_requireMicrophone 8 = .ok (.invokestatic 91, 3) := by decide +kernel
theorem dX10_requireMicrophone_11 : decode cX10_requireMicrophone 11 = .ok (.aload_n 0, 1) := by decide +kernel
theorem dX10_requireMicrophone_12 : decode cX10_requireMicrophone 12 = .ok (.getfield 10, 3) := by decide +kernel
theorem dX10_requireMicrophone_15 : decode cX10_requireMicrophone 15 = .ok (.getfield 186, 3) := by decide +kernel
theorem dX10_requireMicrophone_18 : decode cX10_requireMicrophone 18 = .ok (.iload_n 1, 1) := by decide +kernel
theorem dX10_requireMicrophone_19 : decode cX10_requireMicrophone 19 = .ok (.aaload, 1) := by decide +kernel
theorem dX10_requireMicrophone_20 : decode cX10_requireMicrophone 20 = .ok (.areturn, 1) := by decide +kernel
theorem dX10_layPath_0 : decode cX10_layPath 0 = .ok (.aload_n 0, 1) := by decide +kernel
theorem dX10_layPath_1 : decode cX10_layPath 1 = .ok (.iload_n 1, 1) := by decide +kernel
theorem dX10_layPath_2 : decode cX10_layPath 2 = .ok (.invokevirtual 112, 3) := by decide +kernel
theorem dX10_layPath_5 : decode cX10_layPath 5 = .ok (.astore 4, 2) := by decide +kernel
theorem dX10_layPath_7 : decode cX10_layPath 7 = .ok (.aload_n 0, 1) := by decide +kernel
theorem dX10_layPath_8 : decode cX10_layPath 8 = .ok (.iload_n 2, 1) := by decide +kernel
theorem dX10_layPath_9 : decode cX10_layPath 9 = .ok (.invokevirtual 99, 3) := by decide +kernel
theorem dX10_layPath_12 : decode cX10_layPath 12 = .ok (.astore 5, 2) := by decide +kernel
theorem dX10_layPath_14 : decode cX10_layPath 14 = .ok (.aload_n 0, 1) := by decide +kernel
theorem dX10_layPath_15 : decode cX10_layPath 15 = .ok (.getfield 30, 3) := by decide +kernel
theorem dX10_layPath_18 : decode cX10_layPath 18 = .ok (.aload 5, 2) := by decide +kernel
theorem dX10_layPath_20 : decode cX10_layPath 20 = .ok (.getfield 290, 3) := by decide +kernel
theorem dX10_layPath_23 : decode cX10_layPath 23 = .ok (.iconst 0, 1) := by decide +kernel
theorem dX10_layPath_24 : decode cX10_layPath 24 = .ok (.aload 4, 2) := by decide +kernel
theorem dX10_layPath_26 : decode cX10_layPath 26 = .ok (.iload_n 3, 1) := by decide +kernel
theorem dX10_layPath_27 : decode cX10_layPath 27 = .ok (.invokevirtual 293, 3) := by decide +kernel
theorem dX10_layPath_30 : decode cX10_layPath 30 = .ok (.return_, 1) := by decide +kernel
theorem dX10_outward_0 : decode cX10_outward 0 = .ok (.iload_n 0, 1) := by decide +kernel
theorem dX10_outward_1 : decode cX10_outward 1 = .ok (.iconst 2, 1) := by decide +kernel
theorem dX10_outward_2 : decode cX10_outward 2 = .ok (.irem, 1) := by decide +kernel
theorem dX10_outward_3 : decode cX10_outward 3 = .ok (.ifCond .ne 10, 3) := by decide +kernel
theorem dX10_outward_6 : decode cX10_outward 6 = .ok (.iload_n 0, 1) := by decide +kernel
theorem dX10_outward_7 : decode cX10_outward 7 = .ok (.iconst 2, 1) := by decide +kernel
theorem dX10_outward_8 : decode cX10_outward 8 = .ok (.idiv, 1) := by decide +kernel
theorem dX10_outward_9 : decode cX10_outward 9 = .ok (.ineg, 1) := by decide +kernel
theorem dX10_outward_10 : decode cX10_outward 10 = .ok (.goto 6, 3) := by decide +kernel
theorem dX10_outward_13 : decode cX10_outward 13 = .ok (.iload_n 0, 1) := by decide +kernel
theorem dX10_outward_14 : decode cX10_outward 14 = .ok (.iconst 2, 1) := by decide +kernel
theorem dX10_outward_15 : decode cX10_outward 15 = .ok (.idiv, 1) := by decide +kernel
theorem dX10_outward_16 : decode cX10_outward 16 = .ok (.ireturn, 1) := by decide +kernel
theorem dX10_quotient_0 : decode cX10_quotient 0 = .ok (.lload_n 2, 1) := by decide +kernel
theorem dX10_quotient_1 : decode cX10_quotient 1 = .ok (.lconst 0, 1) := by decide +kernel
theorem dX10_quotient_2 : decode cX10_quotient 2 = .ok (.lcmp, 1) := by decide +kernel
theorem dX10_quotient_3 : decode cX10_quotient 3 = .ok (.ifCond .ne 7, 3) := by decide +kernel
theorem dX10_quotient_6 : decode cX10_quotient 6 = .ok (.lconst 0, 1) := by decide +kernel
theorem dX10_quotient_7 : decode cX10_quotient 7 = .ok (.goto 6, 3) := by decide +kernel
theorem dX10_quotient_10 : decode cX10_quotient 10 = .ok (.lload_n 0, 1) := by decide +kernel
theorem dX10_quotient_11 : decode cX10_quotient 11 = .ok (.lload_n 2, 1) := by decide +kernel
theorem dX10_quotient_12 : decode cX10_quotient 12 = .ok (.ldiv, 1) := by decide +kernel
theorem dX10_quotient_13 : decode cX10_quotient 13 = .ok (.lreturn, 1) := by decide +kernel
theorem dX10_elementAt_0 : decode cX10_elementAt 0 = .ok (.iload_n 1, 1) := by decide +kernel
theorem dX10_elementAt_1 : decode cX10_elementAt 1 = .ok (.ifCond .lt 9, 3) := by decide +kernel
theorem dX10_elementAt_4 : decode cX10_elementAt 4 = .ok (.iload_n 1, 1) := by decide +kernel
theorem dX10_elementAt_5 : decode cX10_elementAt 5 = .ok (.aload_n 0, 1) := by decide +kernel
theorem dX10_elementAt_6 : decode cX10_elementAt 6 = .ok (.arraylength, 1) := by decide +kernel
theorem dX10_elementAt_7 : decode cX10_elementAt 7 = .ok (.if_icmp .lt 7, 3) := by decide +kernel
theorem dX10_elementAt_10 : decode cX10_elementAt 10 = .ok (.iconst 0, 1) := by decide +kernel
theorem dX10_elementAt_11 : decode cX10_elementAt 11 = .ok (.goto 6, 3) := by decide +kernel
theorem dX10_elementAt_14 : decode cX10_elementAt 14 = .ok (.aload_n 0, 1) := by decide +kernel
theorem dX10_elementAt_15 : decode cX10_elementAt 15 = .ok (.iload_n 1, 1) := by decide +kernel
theorem dX10_elementAt_16 : decode cX10_elementAt 16 = .ok (.iaload, 1) := by decide +kernel
theorem dX10_elementAt_17 : decode cX10_elementAt 17 = .ok (.ireturn, 1) := by decide +kernel
theorem dX10_root_0 : decode cX10_root 0 = .ok (.lload_n 0, 1) := by decide +kernel
theorem dX10_root_1 : decode cX10_root 1 = .ok (.lstore_n 2, 1) := by decide +kernel
theorem dX10_root_2 : decode cX10_root 2 = .ok (.lconst 0, 1) := by decide +kernel
theorem dX10_root_3 : decode cX10_root 3 = .ok (.lstore 4, 2) := by decide +kernel
theorem dX10_root_5 : decode cX10_root 5 = .ok (.ldc2_w 297, 3) := by decide +kernel
theorem dX10_root_8 : decode cX10_root 8 = .ok (.lstore 6, 2) := by decide +kernel
theorem dX10_root_10 : decode cX10_root 10 = .ok (.lload 6, 2) := by decide +kernel
theorem dX10_root_12 : decode cX10_root 12 = .ok (.lconst 0, 1) := by decide +kernel
theorem dX10_root_13 : decode cX10_root 13 = .ok (.lcmp, 1) := by decide +kernel
theorem dX10_root_14 : decode cX10_root 14 = .ok (.ifCond .eq 48, 3) := by decide +kernel
theorem dX10_root_17 : decode cX10_root 17 = .ok (.lload_n 2, 1) := by decide +kernel
theorem dX10_root_18 : decode cX10_root 18 = .ok (.lload 4, 2) := by decide +kernel
theorem dX10_root_20 : decode cX10_root 20 = .ok (.lload 6, 2) := by decide +kernel
theorem dX10_root_22 : decode cX10_root 22 = .ok (.ladd, 1) := by decide +kernel
theorem dX10_root_23 : decode cX10_root 23 = .ok (.lcmp, 1) := by decide +kernel
theorem dX10_root_24 : decode cX10_root 24 = .ok (.ifCond .lt 23, 3) := by decide +kernel
theorem dX10_root_27 : decode cX10_root 27 = .ok (.lload_n 2, 1) := by decide +kernel
theorem dX10_root_28 : decode cX10_root 28 = .ok (.lload 4, 2) := by decide +kernel
theorem dX10_root_30 : decode cX10_root 30 = .ok (.lload 6, 2) := by decide +kernel
theorem dX10_root_32 : decode cX10_root 32 = .ok (.ladd, 1) := by decide +kernel
theorem dX10_root_33 : decode cX10_root 33 = .ok (.lsub, 1) := by decide +kernel
theorem dX10_root_34 : decode cX10_root 34 = .ok (.lstore_n 2, 1) := by decide +kernel
theorem dX10_root_35 : decode cX10_root 35 = .ok (.lload 4, 2) := by decide +kernel
theorem dX10_root_37 : decode cX10_root 37 = .ok (.iconst 1, 1) := by decide +kernel
theorem dX10_root_38 : decode cX10_root 38 = .ok (.lshr, 1) := by decide +kernel
theorem dX10_root_39 : decode cX10_root 39 = .ok (.lload 6, 2) := by decide +kernel
theorem dX10_root_41 : decode cX10_root 41 = .ok (.ladd, 1) := by decide +kernel
theorem dX10_root_42 : decode cX10_root 42 = .ok (.lstore 4, 2) := by decide +kernel
theorem dX10_root_44 : decode cX10_root 44 = .ok (.goto 9, 3) := by decide +kernel
theorem dX10_root_47 : decode cX10_root 47 = .ok (.lload 4, 2) := by decide +kernel
theorem dX10_root_49 : decode cX10_root 49 = .ok (.iconst 1, 1) := by decide +kernel
theorem dX10_root_50 : decode cX10_root 50 = .ok (.lshr, 1) := by decide +kernel
theorem dX10_root_51 : decode cX10_root 51 = .ok (.lstore 4, 2) := by decide +kernel
theorem dX10_root_53 : decode cX10_root 53 = .ok (.lload 6, 2) := by decide +kernel
theorem dX10_root_55 : decode cX10_root 55 = .ok (.iconst 2, 1) := by decide +kernel
theorem dX10_root_56 : decode cX10_root 56 = .ok (.lshr, 1) := by decide +kernel
theorem dX10_root_57 : decode cX10_root 57 = .ok (.lstore 6, 2) := by decide +kernel
theorem dX10_root_59 : decode cX10_root 59 = .ok (.goto (-49), 3) := by decide +kernel
theorem dX10_root_62 : decode cX10_root 62 = .ok (.lload 4, 2) := by decide +kernel
theorem dX10_root_64 : decode cX10_root 64 = .ok (.l2i, 1) := by decide +kernel
theorem dX10_root_65 : decode cX10_root 65 = .ok (.ireturn, 1) := by decide +kernel
theorem dJ9_floorDiv_7cf53_0 : decode cJ9_floorDiv_7cf53 0 = .ok (.iload_n 0, 1) := by decide +kernel
theorem dJ9_floorDiv_7cf53_1 : decode cJ9_floorDiv_7cf53 1 = .ok (.iload_n 1, 1) := by decide +kernel
theorem dJ9_floorDiv_7cf53_2 : decode cJ9_floorDiv_7cf53 2 = .ok (.idiv, 1) := by decide +kernel
theorem dJ9_floorDiv_7cf53_3 : decode cJ9_floorDiv_7cf53 3 = .ok (.istore_n 2, 1) := by decide +kernel
theorem dJ9_floorDiv_7cf53_4 : decode cJ9_floorDiv_7cf53 4 = .ok (.iload_n 0, 1) := by decide +kernel
theorem dJ9_floorDiv_7cf53_5 : decode cJ9_floorDiv_7cf53 5 = .ok (.iload_n 1, 1) := by decide +kernel
theorem dJ9_floorDiv_7cf53_6 : decode cJ9_floorDiv_7cf53 6 = .ok (.ixor, 1) := by decide +kernel
theorem dJ9_floorDiv_7cf53_7 : decode cJ9_floorDiv_7cf53 7 = .ok (.ifCond .ge 14, 3) := by decide +kernel
theorem dJ9_floorDiv_7cf53_10 : decode cJ9_floorDiv_7cf53 10 = .ok (.iload_n 2, 1) := by decide +kernel
theorem dJ9_floorDiv_7cf53_11 : decode cJ9_floorDiv_7cf53 11 = .ok (.iload_n 1, 1) := by decide +kernel
theorem dJ9_floorDiv_7cf53_12 : decode cJ9_floorDiv_7cf53 12 = .ok (.imul, 1) := by decide +kernel
theorem dJ9_floorDiv_7cf53_13 : decode cJ9_floorDiv_7cf53 13 = .ok (.iload_n 0, 1) := by decide +kernel
theorem dJ9_floorDiv_7cf53_14 : decode cJ9_floorDiv_7cf53 14 = .ok (.if_icmp .eq 7, 3) := by decide +kernel
theorem dJ9_floorDiv_7cf53_17 : decode cJ9_floorDiv_7cf53 17 = .ok (.iload_n 2, 1) := by decide +kernel
theorem dJ9_floorDiv_7cf53_18 : decode cJ9_floorDiv_7cf53 18 = .ok (.iconst 1, 1) := by decide +kernel
theorem dJ9_floorDiv_7cf53_19 : decode cJ9_floorDiv_7cf53 19 = .ok (.isub, 1) := by decide +kernel
theorem dJ9_floorDiv_7cf53_20 : decode cJ9_floorDiv_7cf53 20 = .ok (.ireturn, 1) := by decide +kernel
theorem dJ9_floorDiv_7cf53_21 : decode cJ9_floorDiv_7cf53 21 = .ok (.iload_n 2, 1) := by decide +kernel
theorem dJ9_floorDiv_7cf53_22 : decode cJ9_floorDiv_7cf53 22 = .ok (.ireturn, 1) := by decide +kernel
theorem dJ9_abs_0f7a4_0 : decode cJ9_abs_0f7a4 0 = .ok (.iload_n 0, 1) := by decide +kernel
theorem dJ9_abs_0f7a4_1 : decode cJ9_abs_0f7a4 1 = .ok (.ifCond .ge 8, 3) := by decide +kernel
theorem dJ9_abs_0f7a4_4 : decode cJ9_abs_0f7a4 4 = .ok (.iload_n 0, 1) := by decide +kernel
theorem dJ9_abs_0f7a4_5 : decode cJ9_abs_0f7a4 5 = .ok (.ineg, 1) := by decide +kernel
theorem dJ9_abs_0f7a4_6 : decode cJ9_abs_0f7a4 6 = .ok (.goto 4, 3) := by decide +kernel
theorem dJ9_abs_0f7a4_9 : decode cJ9_abs_0f7a4 9 = .ok (.iload_n 0, 1) := by decide +kernel
theorem dJ9_abs_0f7a4_10 : decode cJ9_abs_0f7a4 10 = .ok (.ireturn, 1) := by decide +kernel
theorem dJ9_max_7cf53_0 : decode cJ9_max_7cf53 0 = .ok (.iload_n 0, 1) := by decide +kernel
theorem dJ9_max_7cf53_1 : decode cJ9_max_7cf53 1 = .ok (.iload_n 1, 1) := by decide +kernel
theorem dJ9_max_7cf53_2 : decode cJ9_max_7cf53 2 = .ok (.if_icmp .lt 7, 3) := by decide +kernel
theorem dJ9_max_7cf53_5 : decode cJ9_max_7cf53 5 = .ok (.iload_n 0, 1) := by decide +kernel
theorem dJ9_max_7cf53_6 : decode cJ9_max_7cf53 6 = .ok (.goto 4, 3) := by decide +kernel
theorem dJ9_max_7cf53_9 : decode cJ9_max_7cf53 9 = .ok (.iload_n 1, 1) := by decide +kernel
theorem dJ9_max_7cf53_10 : decode cJ9_max_7cf53 10 = .ok (.ireturn, 1) := by decide +kernel
theorem dJ9_min_7cf53_0 : decode cJ9_min_7cf53 0 = .ok (.iload_n 0, 1) := by decide +kernel
theorem dJ9_min_7cf53_1 : decode cJ9_min_7cf53 1 = .ok (.iload_n 1, 1) := by decide +kernel
theorem dJ9_min_7cf53_2 : decode cJ9_min_7cf53 2 = .ok (.if_icmp .gt 7, 3) := by decide +kernel
theorem dJ9_min_7cf53_5 : decode cJ9_min_7cf53 5 = .ok (.iload_n 0, 1) := by decide +kernel
theorem dJ9_min_7cf53_6 : decode cJ9_min_7cf53 6 = .ok (.goto 4, 3) := by decide +kernel
theorem dJ9_min_7cf53_9 : decode cJ9_min_7cf53 9 = .ok (.iload_n 1, 1) := by decide +kernel
theorem dJ9_min_7cf53_10 : decode cJ9_min_7cf53 10 = .ok (.ireturn, 1) := by decide +kernel
theorem dJ0_length_8abf5_0 : decode cJ0_length_8abf5 0 = .ok (.aload_n 0, 1) := by decide +kernel
theorem dJ0_length_8abf5_1 : decode cJ0_length_8abf5 1 = .ok (.getfield 9, 3) := by decide +kernel
theorem dJ0_length_8abf5_4 : decode cJ0_length_8abf5 4 = .ok (.arraylength, 1) := by decide +kernel
theorem dJ0_length_8abf5_5 : decode cJ0_length_8abf5 5 = .ok (.aload_n 0, 1) := by decide +kernel
theorem dJ0_length_8abf5_6 : decode cJ0_length_8abf5 6 = .ok (.invokevirtual 335, 3) := by decide +kernel
theorem dJ0_length_8abf5_9 : decode cJ0_length_8abf5 9 = .ok (.ishr, 1) := by decide +kernel
theorem dJ0_length_8abf5_10 : decode cJ0_length_8abf5 10 = .ok (.ireturn, 1) := by decide +kernel
theorem dJ0_charAt_5068e_0 : decode cJ0_charAt_5068e 0 = .ok (.aload_n 0, 1) := by decide +kernel
theorem dJ0_charAt_5068e_1 : decode cJ0_charAt_5068e 1 = .ok (.invokevirtual 492, 3) := by decide +kernel
theorem dJ0_charAt_5068e_4 : decode cJ0_charAt_5068e 4 = .ok (.ifCond .eq 12, 3) := by decide +kernel
theorem dJ0_charAt_5068e_7 : decode cJ0_charAt_5068e 7 = .ok (.aload_n 0, 1) := by decide +kernel
theorem dJ0_charAt_5068e_8 : decode cJ0_charAt_5068e 8 = .ok (.getfield 9, 3) := by decide +kernel
theorem dJ0_charAt_5068e_11 : decode cJ0_charAt_5068e 11 = .ok (.iload_n 1, 1) := by decide +kernel
theorem dJ0_charAt_5068e_12 : decode cJ0_charAt_5068e 12 = .ok (.invokestatic 495, 3) := by decide +kernel
theorem dJ0_charAt_5068e_15 : decode cJ0_charAt_5068e 15 = .ok (.ireturn, 1) := by decide +kernel
theorem dJ0_charAt_5068e_16 : decode cJ0_charAt_5068e 16 = .ok (.aload_n 0, 1) := by decide +kernel
theorem dJ0_charAt_5068e_17 : decode cJ0_charAt_5068e 17 = .ok (.getfield 9, 3) := by decide +kernel
theorem dJ0_charAt_5068e_20 : decode cJ0_charAt_5068e 20 = .ok (.iload_n 1, 1) := by decide +kernel
theorem dJ0_charAt_5068e_21 : decode cJ0_charAt_5068e 21 = .ok (.invokestatic 498, 3) := by decide +kernel
theorem dJ0_charAt_5068e_24 : decode cJ0_charAt_5068e 24 = .ok (.ireturn, 1) := by decide +kernel
theorem dJ0_coder_7d493_0 : decode cJ0_coder_7d493 0 = .ok (.getstatic 38, 3) := by decide +kernel
theorem dJ0_coder_7d493_3 : decode cJ0_coder_7d493 3 = .ok (.ifCond .eq 10, 3) := by decide +kernel
theorem dJ0_coder_7d493_6 : decode cJ0_coder_7d493 6 = .ok (.aload_n 0, 1) := by decide +kernel
theorem dJ0_coder_7d493_7 : decode cJ0_coder_7d493 7 = .ok (.getfield 15, 3) := by decide +kernel
theorem dJ0_coder_7d493_10 : decode cJ0_coder_7d493 10 = .ok (.goto 4, 3) := by decide +kernel
theorem dJ0_coder_7d493_13 : decode cJ0_coder_7d493 13 = .ok (.iconst 1, 1) := by decide +kernel
theorem dJ0_coder_7d493_14 : decode cJ0_coder_7d493 14 = .ok (.ireturn, 1) := by decide +kernel
theorem dJ0_isLatin1_aae02_0 : decode cJ0_isLatin1_aae02 0 = .ok (.getstatic 38, 3) := by decide +kernel
theorem dJ0_isLatin1_aae02_3 : decode cJ0_isLatin1_aae02 3 = .ok (.ifCond .eq 14, 3) := by decide +kernel
theorem dJ0_isLatin1_aae02_6 : decode cJ0_isLatin1_aae02 6 = .ok (.aload_n 0, 1) := by decide +kernel
theorem dJ0_isLatin1_aae02_7 : decode cJ0_isLatin1_aae02 7 = .ok (.getfield 15, 3) := by decide +kernel
theorem dJ0_isLatin1_aae02_10 : decode cJ0_isLatin1_aae02 10 = .ok (.ifCond .ne 7, 3) := by decide +kernel
theorem dJ0_isLatin1_aae02_13 : decode cJ0_isLatin1_aae02 13 = .ok (.iconst 1, 1) := by decide +kernel
theorem dJ0_isLatin1_aae02_14 : decode cJ0_isLatin1_aae02 14 = .ok (.goto 4, 3) := by decide +kernel
theorem dJ0_isLatin1_aae02_17 : decode cJ0_isLatin1_aae02 17 = .ok (.iconst 0, 1) := by decide +kernel
theorem dJ0_isLatin1_aae02_18 : decode cJ0_isLatin1_aae02 18 = .ok (.ireturn, 1) := by decide +kernel
theorem dJ0_checkIndex_df160_0 : decode cJ0_checkIndex_df160 0 = .ok (.iload_n 0, 1) := by decide +kernel
theorem dJ0_checkIndex_df160_1 : decode cJ0_checkIndex_df160 1 = .ok (.iload_n 1, 1) := by decide +kernel
theorem dJ0_checkIndex_df160_2 : decode cJ0_checkIndex_df160 2 = .ok (.getstatic 1053, 3) := by decide +kernel
theorem dJ0_checkIndex_df160_5 : decode cJ0_checkIndex_df160 5 = .ok (.invokestatic 1059, 3) := by decide +kernel
theorem dJ0_checkIndex_df160_8 : decode cJ0_checkIndex_df160 8 = .ok (.pop, 1) := by decide +kernel
theorem dJ0_checkIndex_df160_9 : decode cJ0_checkIndex_df160 9 = .ok (.return_, 1) := by decide +kernel
theorem dJ1_charAt_3b067_0 : decode cJ1_charAt_3b067 0 = .ok (.iload_n 1, 1) := by decide +kernel
theorem dJ1_charAt_3b067_1 : decode cJ1_charAt_3b067 1 = .ok (.aload_n 0, 1) := by decide +kernel
theorem dJ1_charAt_3b067_2 : decode cJ1_charAt_3b067 2 = .ok (.arraylength, 1) := by decide +kernel
theorem dJ1_charAt_3b067_3 : decode cJ1_charAt_3b067 3 = .ok (.invokestatic 9, 3) := by decide +kernel
theorem dJ1_charAt_3b067_6 : decode cJ1_charAt_3b067 6 = .ok (.aload_n 0, 1) := by decide +kernel
theorem dJ1_charAt_3b067_7 : decode cJ1_charAt_3b067 7 = .ok (.iload_n 1, 1) := by decide +kernel
theorem dJ1_charAt_3b067_8 : decode cJ1_charAt_3b067 8 = .ok (.baload, 1) := by decide +kernel
theorem dJ1_charAt_3b067_9 : decode cJ1_charAt_3b067 9 = .ok (.sipush 255, 3) := by decide +kernel
theorem dJ1_charAt_3b067_12 : decode cJ1_charAt_3b067 12 = .ok (.iand, 1) := by decide +kernel
theorem dJ1_charAt_3b067_13 : decode cJ1_charAt_3b067 13 = .ok (.i2c, 1) := by decide +kernel
theorem dJ1_charAt_3b067_14 : decode cJ1_charAt_3b067 14 = .ok (.ireturn, 1) := by decide +kernel
theorem dJ2_getChar_3b067_0 : decode cJ2_getChar_3b067 0 = .ok (.getstatic 44, 3) := by decide +kernel
theorem dJ2_getChar_3b067_3 : decode cJ2_getChar_3b067 3 = .ok (.ifCond .ne 25, 3) := by decide +kernel
theorem dJ2_getChar_3b067_6 : decode cJ2_getChar_3b067 6 = .ok (.iload_n 1, 1) := by decide +kernel
theorem dJ2_getChar_3b067_7 : decode cJ2_getChar_3b067 7 = .ok (.ifCond .lt 11, 3) := by decide +kernel
theorem dJ2_getChar_3b067_10 : decode cJ2_getChar_3b067 10 = .ok (.iload_n 1, 1) := by decide +kernel
theorem dJ2_getChar_3b067_11 : decode cJ2_getChar_3b067 11 = .ok (.aload_n 0, 1) := by decide +kernel
theorem dJ2_getChar_3b067_12 : decode cJ2_getChar_3b067 12 = .ok (.invokestatic 48, 3) := by decide +kernel
theorem dJ2_getChar_3b067_15 : decode cJ2_getChar_3b067 15 = .ok (.if_icmp .lt 13, 3) := by decide +kernel
theorem dJ2_getChar_3b067_18 : decode cJ2_getChar_3b067 18 = .ok (.new 52, 3) := by decide +kernel
theorem dJ2_getChar_3b067_21 : decode cJ2_getChar_3b067 21 = .ok (.dup, 1) := by decide +kernel
theorem dJ2_getChar_3b067_22 : decode cJ2_getChar_3b067 22 = .ok (.ldc 54, 2) := by decide +kernel
theorem dJ2_getChar_3b067_24 : decode cJ2_getChar_3b067 24 = .ok (.invokespecial 56, 3) := by decide +kernel
theorem dJ2_getChar_3b067_27 : decode cJ2_getChar_3b067 27 = .ok (.athrow, 1) := by decide +kernel
theorem dJ2_getChar_3b067_28 : decode cJ2_getChar_3b067 28 = .ok (.iload_n 1, 1) := by decide +kernel
theorem dJ2_getChar_3b067_29 : decode cJ2_getChar_3b067 29 = .ok (.iconst 1, 1) := by decide +kernel
theorem dJ2_getChar_3b067_30 : decode cJ2_getChar_3b067 30 = .ok (.ishl, 1) := by decide +kernel
theorem dJ2_getChar_3b067_31 : decode cJ2_getChar_3b067 31 = .ok (.istore_n 1, 1) := by decide +kernel
theorem dJ2_getChar_3b067_32 : decode cJ2_getChar_3b067 32 = .ok (.aload_n 0, 1) := by decide +kernel
theorem dJ2_getChar_3b067_33 : decode cJ2_getChar_3b067 33 = .ok (.iload_n 1, 1) := by decide +kernel
theorem dJ2_getChar_3b067_34 : decode cJ2_getChar_3b067 34 = .ok (.iinc 1 1, 3) := by decide +kernel
theorem dJ2_getChar_3b067_37 : decode cJ2_getChar_3b067 37 = .ok (.baload, 1) := by decide +kernel
theorem dJ2_getChar_3b067_38 : decode cJ2_getChar_3b067 38 = .ok (.sipush 255, 3) := by decide +kernel
theorem dJ2_getChar_3b067_41 : decode cJ2_getChar_3b067 41 = .ok (.iand, 1) := by decide +kernel
theorem dJ2_getChar_3b067_42 : decode cJ2_getChar_3b067 42 = .ok (.getstatic 59, 3) := by decide +kernel
theorem dJ2_getChar_3b067_45 : decode cJ2_getChar_3b067 45 = .ok (.ishl, 1) := by decide +kernel
theorem dJ2_getChar_3b067_46 : decode cJ2_getChar_3b067 46 = .ok (.aload_n 0, 1) := by decide +kernel
theorem dJ2_getChar_3b067_47 : decode cJ2_getChar_3b067 47 = .ok (.iload_n 1, 1) := by decide +kernel
theorem dJ2_getChar_3b067_48 : decode cJ2_getChar_3b067 48 = .ok (.baload, 1) := by decide +kernel
theorem dJ2_getChar_3b067_49 : decode cJ2_getChar_3b067 49 = .ok (.sipush 255, 3) := by decide +kernel
theorem dJ2_getChar_3b067_52 : decode cJ2_getChar_3b067 52 = .ok (.iand, 1) := by decide +kernel
theorem dJ2_getChar_3b067_53 : decode cJ2_getChar_3b067 53 = .ok (.getstatic 63, 3) := by decide +kernel
theorem dJ2_getChar_3b067_56 : decode cJ2_getChar_3b067 56 = .ok (.ishl, 1) := by decide +kernel
theorem dJ2_getChar_3b067_57 : decode cJ2_getChar_3b067 57 = .ok (.ior, 1) := by decide +kernel
theorem dJ2_getChar_3b067_58 : decode cJ2_getChar_3b067 58 = .ok (.i2c, 1) := by decide +kernel
theorem dJ2_getChar_3b067_59 : decode cJ2_getChar_3b067 59 = .ok (.ireturn, 1) := by decide +kernel
theorem dJ2_length_9d52b_0 : decode cJ2_length_9d52b 0 = .ok (.aload_n 0, 1) := by decide +kernel
theorem dJ2_length_9d52b_1 : decode cJ2_length_9d52b 1 = .ok (.arraylength, 1) := by decide +kernel
theorem dJ2_length_9d52b_2 : decode cJ2_length_9d52b 2 = .ok (.iconst 1, 1) := by decide +kernel
theorem dJ2_length_9d52b_3 : decode cJ2_length_9d52b 3 = .ok (.ishr, 1) := by decide +kernel
theorem dJ2_length_9d52b_4 : decode cJ2_length_9d52b 4 = .ok (.ireturn, 1) := by decide +kernel
theorem dJ2_charAt_3b067_0 : decode cJ2_charAt_3b067 0 = .ok (.iload_n 1, 1) := by decide +kernel
theorem dJ2_charAt_3b067_1 : decode cJ2_charAt_3b067 1 = .ok (.aload_n 0, 1) := by decide +kernel
theorem dJ2_charAt_3b067_2 : decode cJ2_charAt_3b067 2 = .ok (.invokestatic 67, 3) := by decide +kernel
theorem dJ2_charAt_3b067_5 : decode cJ2_charAt_3b067 5 = .ok (.aload_n 0, 1) := by decide +kernel
theorem dJ2_charAt_3b067_6 : decode cJ2_charAt_3b067 6 = .ok (.iload_n 1, 1) := by decide +kernel
theorem dJ2_charAt_3b067_7 : decode cJ2_charAt_3b067 7 = .ok (.invokestatic 71, 3) := by decide +kernel
theorem dJ2_charAt_3b067_10 : decode cJ2_charAt_3b067 10 = .ok (.ireturn, 1) := by decide +kernel
theorem dJ2_checkIndex_2214a_0 : decode cJ2_checkIndex_2214a 0 = .ok (.iload_n 0, 1) := by decide +kernel
theorem dJ2_checkIndex_2214a_1 : decode cJ2_checkIndex_2214a 1 = .ok (.aload_n 1, 1) := by decide +kernel
theorem dJ2_checkIndex_2214a_2 : decode cJ2_checkIndex_2214a 2 = .ok (.invokestatic 48, 3) := by decide +kernel
theorem dJ2_checkIndex_2214a_5 : decode cJ2_checkIndex_2214a 5 = .ok (.invokestatic 414, 3) := by decide +kernel
theorem dJ2_checkIndex_2214a_8 : decode cJ2_checkIndex_2214a 8 = .ok (.return_, 1) := by decide +kernel
theorem dJ7_fill_53178_0 : decode cJ7_fill_53178 0 = .ok (.iconst 0, 1) := by decide +kernel
theorem dJ7_fill_53178_1 : decode cJ7_fill_53178 1 = .ok (.istore_n 2, 1) := by decide +kernel
theorem dJ7_fill_53178_2 : decode cJ7_fill_53178 2 = .ok (.aload_n 0, 1) := by decide +kernel
theorem dJ7_fill_53178_3 : decode cJ7_fill_53178 3 = .ok (.arraylength, 1) := by decide +kernel
theorem dJ7_fill_53178_4 : decode cJ7_fill_53178 4 = .ok (.istore_n 3, 1) := by decide +kernel
theorem dJ7_fill_53178_5 : decode cJ7_fill_53178 5 = .ok (.iload_n 2, 1) := by decide +kernel
theorem dJ7_fill_53178_6 : decode cJ7_fill_53178 6 = .ok (.iload_n 3, 1) := by decide +kernel
theorem dJ7_fill_53178_7 : decode cJ7_fill_53178 7 = .ok (.if_icmp .ge 13, 3) := by decide +kernel
theorem dJ7_fill_53178_10 : decode cJ7_fill_53178 10 = .ok (.aload_n 0, 1) := by decide +kernel
theorem dJ7_fill_53178_11 : decode cJ7_fill_53178 11 = .ok (.iload_n 2, 1) := by decide +kernel
theorem dJ7_fill_53178_12 : decode cJ7_fill_53178 12 = .ok (.iload_n 1, 1) := by decide +kernel
theorem dJ7_fill_53178_13 : decode cJ7_fill_53178 13 = .ok (.iastore, 1) := by decide +kernel
theorem dJ7_fill_53178_14 : decode cJ7_fill_53178 14 = .ok (.iinc 2 1, 3) := by decide +kernel
theorem dJ7_fill_53178_17 : decode cJ7_fill_53178 17 = .ok (.goto (-12), 3) := by decide +kernel
theorem dJ7_fill_53178_20 : decode cJ7_fill_53178 20 = .ok (.return_, 1) := by decide +kernel
theorem dJ3_checkIndex_8e157_0 : decode cJ3_checkIndex_8e157 0 = .ok (.iload_n 0, 1) := by decide +kernel
theorem dJ3_checkIndex_8e157_1 : decode cJ3_checkIndex_8e157 1 = .ok (.ifCond .lt 8, 3) := by decide +kernel
theorem dJ3_checkIndex_8e157_4 : decode cJ3_checkIndex_8e157 4 = .ok (.iload_n 0, 1) := by decide +kernel
theorem dJ3_checkIndex_8e157_5 : decode cJ3_checkIndex_8e157 5 = .ok (.iload_n 1, 1) := by decide +kernel
theorem dJ3_checkIndex_8e157_6 : decode cJ3_checkIndex_8e157 6 = .ok (.if_icmp .lt 10, 3) := by decide +kernel
theorem dJ3_checkIndex_8e157_9 : decode cJ3_checkIndex_8e157 9 = .ok (.aload_n 2, 1) := by decide +kernel
theorem dJ3_checkIndex_8e157_10 : decode cJ3_checkIndex_8e157 10 = .ok (.iload_n 0, 1) := by decide +kernel
theorem dJ3_checkIndex_8e157_11 : decode cJ3_checkIndex_8e157 11 = .ok (.iload_n 1, 1) := by decide +kernel
theorem dJ3_checkIndex_8e157_12 : decode cJ3_checkIndex_8e157 12 = .ok (.invokestatic 95, 3) := by decide +kernel
theorem dJ3_checkIndex_8e157_15 : decode cJ3_checkIndex_8e157 15 = .ok (.athrow, 1) := by decide +kernel
theorem dJ3_checkIndex_8e157_16 : decode cJ3_checkIndex_8e157 16 = .ok (.iload_n 0, 1) := by decide +kernel
theorem dJ3_checkIndex_8e157_17 : decode cJ3_checkIndex_8e157 17 = .ok (.ireturn, 1) := by decide +kernel
