theorem dX0_init_0 : decode cX0_init 0 = .ok (.aload_n 0, 1) := by decide +kernel
theorem dX0_init_1 : decode cX0_init 1 = .ok (.invokespecial 1, 3) := by decide +kernel
theorem dX0_init_4 : decode cX0_init 4 = .ok (.return_, 1) := by decide +kernel
theorem dX1_init_0 : decode cX1_init 0 = .ok (.aload_n 0, 1) := by decide +kernel
theorem dX1_init_1 : decode cX1_init 1 = .ok (.invokespecial 3, 3) := by decide +kernel
theorem dX1_init_4 : decode cX1_init 4 = .ok (.aload_n 0, 1) := by decide +kernel
theorem dX1_init_5 : decode cX1_init 5 = .ok (.bipush 8, 2) := by decide +kernel
theorem dX1_init_7 : decode cX1_init 7 = .ok (.newarray .int, 2) := by decide +kernel
theorem dX1_init_9 : decode cX1_init 9 = .ok (.putfield 9, 3) := by decide +kernel
theorem dX1_init_12 : decode cX1_init 12 = .ok (.aload_n 0, 1) := by decide +kernel
theorem dX1_init_13 : decode cX1_init 13 = .ok (.sipush 160, 3) := by decide +kernel
theorem dX1_init_16 : decode cX1_init 16 = .ok (.newarray .int, 2) := by decide +kernel
theorem dX1_init_18 : decode cX1_init 18 = .ok (.putfield 15, 3) := by decide +kernel
theorem dX1_init_21 : decode cX1_init 21 = .ok (.aload_n 0, 1) := by decide +kernel
theorem dX1_init_22 : decode cX1_init 22 = .ok (.sipush 248, 3) := by decide +kernel
theorem dX1_init_25 : decode cX1_init 25 = .ok (.newarray .long, 2) := by decide +kernel
theorem dX1_init_27 : decode cX1_init 27 = .ok (.putfield 18, 3) := by decide +kernel
theorem dX1_init_30 : decode cX1_init 30 = .ok (.return_, 1) := by decide +kernel
theorem dX1_tell_0 : decode cX1_tell 0 = .ok (.aload_n 2, 1) := by decide +kernel
theorem dX1_tell_1 : decode cX1_tell 1 = .ok (.iconst 0, 1) := by decide +kernel
theorem dX1_tell_2 : decode cX1_tell 2 = .ok (.aload_n 0, 1) := by decide +kernel
theorem dX1_tell_3 : decode cX1_tell 3 = .ok (.getfield 15, 3) := by decide +kernel
theorem dX1_tell_6 : decode cX1_tell 6 = .ok (.iload_n 1, 1) := by decide +kernel
theorem dX1_tell_7 : decode cX1_tell 7 = .ok (.bipush 20, 2) := by decide +kernel
theorem dX1_tell_9 : decode cX1_tell 9 = .ok (.imul, 1) := by decide +kernel
theorem dX1_tell_10 : decode cX1_tell 10 = .ok (.iload_n 3, 1) := by decide +kernel
theorem dX1_tell_11 : decode cX1_tell 11 = .ok (.invokestatic 22, 3) := by decide +kernel
theorem dX1_tell_14 : decode cX1_tell 14 = .ok (.aload_n 0, 1) := by decide +kernel
theorem dX1_tell_15 : decode cX1_tell 15 = .ok (.getfield 9, 3) := by decide +kernel
theorem dX1_tell_18 : decode cX1_tell 18 = .ok (.iload_n 1, 1) := by decide +kernel
theorem dX1_tell_19 : decode cX1_tell 19 = .ok (.iload_n 3, 1) := by decide +kernel
theorem dX1_tell_20 : decode cX1_tell 20 = .ok (.iastore, 1) := by decide +kernel
theorem dX1_tell_21 : decode cX1_tell 21 = .ok (.return_, 1) := by decide +kernel
theorem dX1_sizeFor_0 : decode cX1_sizeFor 0 = .ok (.aload_n 0, 1) := by decide +kernel
theorem dX1_sizeFor_1 : decode cX1_sizeFor 1 = .ok (.getfield 9, 3) := by decide +kernel
theorem dX1_sizeFor_4 : decode cX1_sizeFor 4 = .ok (.iload_n 1, 1) := by decide +kernel
theorem dX1_sizeFor_5 : decode cX1_sizeFor 5 = .ok (.iaload, 1) := by decide +kernel
theorem dX1_sizeFor_6 : decode cX1_sizeFor 6 = .ok (.ireturn, 1) := by decide +kernel
theorem dX1_measure_0 : decode cX1_measure 0 = .ok (.aload_n 0, 1) := by decide +kernel
theorem dX1_measure_1 : decode cX1_measure 1 = .ok (.getfield 18, 3) := by decide +kernel
theorem dX1_measure_4 : decode cX1_measure 4 = .ok (.iconst 0, 1) := by decide +kernel
theorem dX1_measure_5 : decode cX1_measure 5 = .ok (.bipush 8, 2) := by decide +kernel
theorem dX1_measure_7 : decode cX1_measure 7 = .ok (.lconst 1, 1) := by decide +kernel
theorem dX1_measure_8 : decode cX1_measure 8 = .ok (.invokestatic 28, 3) := by decide +kernel
theorem dX1_measure_11 : decode cX1_measure 11 = .ok (.iconst 1, 1) := by decide +kernel
theorem dX1_measure_12 : decode cX1_measure 12 = .ok (.istore_n 1, 1) := by decide +kernel
theorem dX1_measure_13 : decode cX1_measure 13 = .ok (.iload_n 1, 1) := by decide +kernel
theorem dX1_measure_14 : decode cX1_measure 14 = .ok (.bipush 31, 2) := by decide +kernel
theorem dX1_measure_16 : decode cX1_measure 16 = .ok (.if_icmp .ge 50, 3) := by decide +kernel
theorem dX1_measure_19 : decode cX1_measure 19 = .ok (.iconst 0, 1) := by decide +kernel
theorem dX1_measure_20 : decode cX1_measure 20 = .ok (.istore_n 2, 1) := by decide +kernel
theorem dX1_measure_21 : decode cX1_measure 21 = .ok (.iload_n 2, 1) := by decide +kernel
theorem dX1_measure_22 : decode cX1_measure 22 = .ok (.aload_n 0, 1) := by decide +kernel
theorem dX1_measure_23 : decode cX1_measure 23 = .ok (.getfield 34, 3) := by decide +kernel
theorem dX1_measure_26 : decode cX1_measure 26 = .ok (.if_icmp .ge 34, 3) := by decide +kernel
theorem dX1_measure_29 : decode cX1_measure 29 = .ok (.aload_n 0, 1) := by decide +kernel
theorem dX1_measure_30 : decode cX1_measure 30 = .ok (.getfield 18, 3) := by decide +kernel
theorem dX1_measure_33 : decode cX1_measure 33 = .ok (.iload_n 1, 1) := by decide +kernel
theorem dX1_measure_34 : decode cX1_measure 34 = .ok (.bipush 8, 2) := by decide +kernel
theorem dX1_measure_36 : decode cX1_measure 36 = .ok (.imul, 1) := by decide +kernel
theorem dX1_measure_37 : decode cX1_measure 37 = .ok (.iload_n 2, 1) := by decide +kernel
theorem dX1_measure_38 : decode cX1_measure 38 = .ok (.iadd, 1) := by decide +kernel
theorem dX1_measure_39 : decode cX1_measure 39 = .ok (.ldc2_w 38, 3) := by decide +kernel
theorem dX1_measure_42 : decode cX1_measure 42 = .ok (.aload_n 0, 1) := by decide +kernel
theorem dX1_measure_43 : decode cX1_measure 43 = .ok (.iload_n 1, 1) := by decide +kernel
theorem dX1_measure_44 : decode cX1_measure 44 = .ok (.iconst 1, 1) := by decide +kernel
theorem dX1_measure_45 : decode cX1_measure 45 = .ok (.isub, 1) := by decide +kernel
theorem dX1_measure_46 : decode cX1_measure 46 = .ok (.iload_n 2, 1) := by decide +kernel
theorem dX1_measure_47 : decode cX1_measure 47 = .ok (.invokevirtual 40, 3) := by decide +kernel
theorem dX1_measure_50 : decode cX1_measure 50 = .ok (.invokestatic 44, 3) := by decide +kernel
theorem dX1_measure_53 : decode cX1_measure 53 = .ok (.lastore, 1) := by decide +kernel
theorem dX1_measure_54 : decode cX1_measure 54 = .ok (.iinc 2 1, 3) := by decide +kernel
theorem dX1_measure_57 : decode cX1_measure 57 = .ok (.goto (-36), 3) := by decide +kernel
theorem dX1_measure_60 : decode cX1_measure 60 = .ok (.iinc 1 1, 3) := by decide +kernel
theorem dX1_measure_63 : decode cX1_measure 63 = .ok (.goto (-50), 3) := by decide +kernel
theorem dX1_measure_66 : decode cX1_measure 66 = .ok (.return_, 1) := by decide +kernel
theorem dX1_imageSize_0 : decode cX1_imageSize 0 = .ok (.lconst 0, 1) := by decide +kernel
theorem dX1_imageSize_1 : decode cX1_imageSize 1 = .ok (.lstore_n 3, 1) := by decide +kernel
theorem dX1_imageSize_2 : decode cX1_imageSize 2 = .ok (.iconst 0, 1) := by decide +kernel
theorem dX1_imageSize_3 : decode cX1_imageSize 3 = .ok (.istore 5, 2) := by decide +kernel
theorem dX1_imageSize_5 : decode cX1_imageSize 5 = .ok (.iload 5, 2) := by decide +kernel
theorem dX1_imageSize_7 : decode cX1_imageSize 7 = .ok (.aload_n 0, 1) := by decide +kernel
theorem dX1_imageSize_8 : decode cX1_imageSize 8 = .ok (.getfield 9, 3) := by decide +kernel
theorem dX1_imageSize_11 : decode cX1_imageSize 11 = .ok (.iload_n 2, 1) := by decide +kernel
theorem dX1_imageSize_12 : decode cX1_imageSize 12 = .ok (.iaload, 1) := by decide +kernel
theorem dX1_imageSize_13 : decode cX1_imageSize 13 = .ok (.if_icmp .ge 34, 3) := by decide +kernel
theorem dX1_imageSize_16 : decode cX1_imageSize 16 = .ok (.lload_n 3, 1) := by decide +kernel
theorem dX1_imageSize_17 : decode cX1_imageSize 17 = .ok (.aload_n 0, 1) := by decide +kernel
theorem dX1_imageSize_18 : decode cX1_imageSize 18 = .ok (.getfield 18, 3) := by decide +kernel
theorem dX1_imageSize_21 : decode cX1_imageSize 21 = .ok (.iload_n 1, 1) := by decide +kernel
theorem dX1_imageSize_22 : decode cX1_imageSize 22 = .ok (.bipush 8, 2) := by decide +kernel
theorem dX1_imageSize_24 : decode cX1_imageSize 24 = .ok (.imul, 1) := by decide +kernel
theorem dX1_imageSize_25 : decode cX1_imageSize 25 = .ok (.aload_n 0, 1) := by decide +kernel
theorem dX1_imageSize_26 : decode cX1_imageSize 26 = .ok (.getfield 15, 3) := by decide +kernel
theorem dX1_imageSize_29 : decode cX1_imageSize 29 = .ok (.iload_n 2, 1) := by decide +kernel
theorem dX1_imageSize_30 : decode cX1_imageSize 30 = .ok (.bipush 20, 2) := by decide +kernel
theorem dX1_imageSize_32 : decode cX1_imageSize 32 = .ok (.imul, 1) := by decide +kernel
theorem dX1_imageSize_33 : decode cX1_imageSize 33 = .ok (.iload 5, 2) := by decide +kernel
theorem dX1_imageSize_35 : decode cX1_imageSize 35 = .ok (.iadd, 1) := by decide +kernel
theorem dX1_imageSize_36 : decode cX1_imageSize 36 = .ok (.iaload, 1) := by decide +kernel
theorem dX1_imageSize_37 : decode cX1_imageSize 37 = .ok (.iadd, 1) := by decide +kernel
theorem dX1_imageSize_38 : decode cX1_imageSize 38 = .ok (.laload, 1) := by decide +kernel
theorem dX1_imageSize_39 : decode cX1_imageSize 39 = .ok (.ladd, 1) := by decide +kernel
theorem dX1_imageSize_40 : decode cX1_imageSize 40 = .ok (.lstore_n 3, 1) := by decide +kernel
theorem dX1_imageSize_41 : decode cX1_imageSize 41 = .ok (.iinc 5 1, 3) := by decide +kernel
theorem dX1_imageSize_44 : decode cX1_imageSize 44 = .ok (.goto (-39), 3) := by decide +kernel
theorem dX1_imageSize_47 : decode cX1_imageSize 47 = .ok (.lload_n 3, 1) := by decide +kernel
theorem dX1_imageSize_48 : decode cX1_imageSize 48 = .ok (.lreturn, 1) := by decide +kernel
theorem dX1_imageInto_0 : decode cX1_imageInto 0 = .ok (.iconst 0, 1) := by decide +kernel
theorem dX1_imageInto_1 : decode cX1_imageInto 1 = .ok (.istore 4, 2) := by decide +kernel
theorem dX1_imageInto_3 : decode cX1_imageInto 3 = .ok (.iconst 0, 1) := by decide +kernel
theorem dX1_imageInto_4 : decode cX1_imageInto 4 = .ok (.istore 5, 2) := by decide +kernel
theorem dX1_imageInto_6 : decode cX1_imageInto 6 = .ok (.iload 5, 2) := by decide +kernel
theorem dX1_imageInto_8 : decode cX1_imageInto 8 = .ok (.iload_n 2, 1) := by decide +kernel
theorem dX1_imageInto_9 : decode cX1_imageInto 9 = .ok (.if_icmp .ge 66, 3) := by decide +kernel
theorem dX1_imageInto_12 : decode cX1_imageInto 12 = .ok (.aload_n 1, 1) := by decide +kernel
theorem dX1_imageInto_13 : decode cX1_imageInto 13 = .ok (.iload 5, 2) := by decide +kernel
theorem dX1_imageInto_15 : decode cX1_imageInto 15 = .ok (.iaload, 1) := by decide +kernel
theorem dX1_imageInto_16 : decode cX1_imageInto 16 = .ok (.istore 6, 2) := by decide +kernel
theorem dX1_imageInto_18 : decode cX1_imageInto 18 = .ok (.iload 4, 2) := by decide +kernel
theorem dX1_imageInto_20 : decode cX1_imageInto 20 = .ok (.aload_n 0, 1) := by decide +kernel
theorem dX1_imageInto_21 : decode cX1_imageInto 21 = .ok (.getfield 9, 3) := by decide +kernel
theorem dX1_imageInto_24 : decode cX1_imageInto 24 = .ok (.iload 6, 2) := by decide +kernel
theorem dX1_imageInto_26 : decode cX1_imageInto 26 = .ok (.iaload, 1) := by decide +kernel
theorem dX1_imageInto_27 : decode cX1_imageInto 27 = .ok (.iadd, 1) := by decide +kernel
theorem dX1_imageInto_28 : decode cX1_imageInto 28 = .ok (.aload_n 3, 1) := by decide +kernel
theorem dX1_imageInto_29 : decode cX1_imageInto 29 = .ok (.arraylength, 1) := by decide +kernel
theorem dX1_imageInto_30 : decode cX1_imageInto 30 = .ok (.if_icmp .le 5, 3) := by decide +kernel
theorem dX1_imageInto_33 : decode cX1_imageInto 33 = .ok (.iconst (-1), 1) := by decide +kernel
theorem dX1_imageInto_34 : decode cX1_imageInto 34 = .ok (.ireturn, 1) := by decide +kernel
theorem dX1_imageInto_35 : decode cX1_imageInto 35 = .ok (.aload_n 0, 1) := by decide +kernel
theorem dX1_imageInto_36 : decode cX1_imageInto 36 = .ok (.getfield 15, 3) := by decide +kernel
theorem dX1_imageInto_39 : decode cX1_imageInto 39 = .ok (.iload 6, 2) := by decide +kernel
theorem dX1_imageInto_41 : decode cX1_imageInto 41 = .ok (.bipush 20, 2) := by decide +kernel
theorem dX1_imageInto_43 : decode cX1_imageInto 43 = .ok (.imul, 1) := by decide +kernel
theorem dX1_imageInto_44 : decode cX1_imageInto 44 = .ok (.aload_n 3, 1) := by decide +kernel
theorem dX1_imageInto_45 : decode cX1_imageInto 45 = .ok (.iload 4, 2) := by decide +kernel
theorem dX1_imageInto_47 : decode cX1_imageInto 47 = .ok (.aload_n 0, 1) := by decide +kernel
theorem dX1_imageInto_48 : decode cX1_imageInto 48 = .ok (.getfield 9, 3) := by decide +kernel
theorem dX1_imageInto_51 : decode cX1_imageInto 51 = .ok (.iload 6, 2) := by decide +kernel
theorem dX1_imageInto_53 : decode cX1_imageInto 53 = .ok (.iaload, 1) := by decide +kernel
theorem dX1_imageInto_54 : decode cX1_imageInto 54 = .ok (.invokestatic 22, 3) := by decide +kernel
theorem dX1_imageInto_57 : decode cX1_imageInto 57 = .ok (.iload 4, 2) := by decide +kernel
theorem dX1_imageInto_59 : decode cX1_imageInto 59 = .ok (.aload_n 0, 1) := by decide +kernel
theorem dX1_imageInto_60 : decode cX1_imageInto 60 = .ok (.getfield 9, 3) := by decide +kernel
theorem dX1_imageInto_63 : decode cX1_imageInto 63 = .ok (.iload 6, 2) := by decide +kernel
theorem dX1_imageInto_65 : decode cX1_imageInto 65 = .ok (.iaload, 1) := by decide +kernel
theorem dX1_imageInto_66 : decode cX1_imageInto 66 = .ok (.iadd, 1) := by decide +kernel
theorem dX1_imageInto_67 : decode cX1_imageInto 67 = .ok (.istore 4, 2) := by decide +kernel
theorem dX1_imageInto_69 : decode cX1_imageInto 69 = .ok (.iinc 5 1, 3) := by decide +kernel
theorem dX1_imageInto_72 : decode cX1_imageInto 72 = .ok (.goto (-66), 3) := by decide +kernel
theorem dX1_imageInto_75 : decode cX1_imageInto 75 = .ok (.iload 4, 2) := by decide +kernel
theorem dX1_imageInto_77 : decode cX1_imageInto 77 = .ok (.ireturn, 1) := by decide +kernel
theorem dX1_lengthsToLookAt_0 : decode cX1_lengthsToLookAt 0 = .ok (.iconst 1, 1) := by decide +kernel
theorem dX1_lengthsToLookAt_1 : decode cX1_lengthsToLookAt 1 = .ok (.istore_n 1, 1) := by decide +kernel
theorem dX1_lengthsToLookAt_2 : decode cX1_lengthsToLookAt 2 = .ok (.bipush 20, 2) := by decide +kernel
theorem dX1_lengthsToLookAt_4 : decode cX1_lengthsToLookAt 4 = .ok (.istore_n 2, 1) := by decide +kernel
theorem dX1_lengthsToLookAt_5 : decode cX1_lengthsToLookAt 5 = .ok (.iconst 0, 1) := by decide +kernel
theorem dX1_lengthsToLookAt_6 : decode cX1_lengthsToLookAt 6 = .ok (.istore_n 3, 1) := by decide +kernel
theorem dX1_lengthsToLookAt_7 : decode cX1_lengthsToLookAt 7 = .ok (.iload_n 3, 1) := by decide +kernel
theorem dX1_lengthsToLookAt_8 : decode cX1_lengthsToLookAt 8 = .ok (.aload_n 0, 1) := by decide +kernel
theorem dX1_lengthsToLookAt_9 : decode cX1_lengthsToLookAt 9 = .ok (.getfield 34, 3) := by decide +kernel
theorem dX1_lengthsToLookAt_12 : decode cX1_lengthsToLookAt 12 = .ok (.if_icmp .ge 31, 3) := by decide +kernel
theorem dX1_lengthsToLookAt_15 : decode cX1_lengthsToLookAt 15 = .ok (.iload_n 1, 1) := by decide +kernel
theorem dX1_lengthsToLookAt_16 : decode cX1_lengthsToLookAt 16 = .ok (.aload_n 0, 1) := by decide +kernel
theorem dX1_lengthsToLookAt_17 : decode cX1_lengthsToLookAt 17 = .ok (.getfield 9, 3) := by decide +kernel
theorem dX1_lengthsToLookAt_20 : decode cX1_lengthsToLookAt 20 = .ok (.iload_n 3, 1) := by decide +kernel
theorem dX1_lengthsToLookAt_21 : decode cX1_lengthsToLookAt 21 = .ok (.iaload, 1) := by decide +kernel
theorem dX1_lengthsToLookAt_22 : decode cX1_lengthsToLookAt 22 = .ok (.invokestatic 50, 3) := by decide +kernel
theorem dX1_lengthsToLookAt_25 : decode cX1_lengthsToLookAt 25 = .ok (.istore_n 1, 1) := by decide +kernel
theorem dX1_lengthsToLookAt_26 : decode cX1_lengthsToLookAt 26 = .ok (.iload_n 2, 1) := by decide +kernel
theorem dX1_lengthsToLookAt_27 : decode cX1_lengthsToLookAt 27 = .ok (.aload_n 0, 1) := by decide +kernel
theorem dX1_lengthsToLookAt_28 : decode cX1_lengthsToLookAt 28 = .ok (.getfield 9, 3) := by decide +kernel
theorem dX1_lengthsToLookAt_31 : decode cX1_lengthsToLookAt 31 = .ok (.iload_n 3, 1) := by decide +kernel
theorem dX1_lengthsToLookAt_32 : decode cX1_lengthsToLookAt 32 = .ok (.iaload, 1) := by decide +kernel
theorem dX1_lengthsToLookAt_33 : decode cX1_lengthsToLookAt 33 = .ok (.invokestatic 54, 3) := by decide +kernel
theorem dX1_lengthsToLookAt_36 : decode cX1_lengthsToLookAt 36 = .ok (.istore_n 2, 1) := by decide +kernel
theorem dX1_lengthsToLookAt_37 : decode cX1_lengthsToLookAt 37 = .ok (.iinc 3 1, 3) := by decide +kernel
theorem dX1_lengthsToLookAt_40 : decode cX1_lengthsToLookAt 40 = .ok (.goto (-33), 3) := by decide +kernel
theorem dX1_lengthsToLookAt_43 : decode cX1_lengthsToLookAt 43 = .ok (.iload_n 2, 1) := by decide +kernel
theorem dX1_lengthsToLookAt_44 : decode cX1_lengthsToLookAt 44 = .ok (.iconst 1, 1) := by decide +kernel
theorem dX1_lengthsToLookAt_45 : decode cX1_lengthsToLookAt 45 = .ok (.if_icmp .ge 7, 3) := by decide +kernel
theorem dX1_lengthsToLookAt_48 : decode cX1_lengthsToLookAt 48 = .ok (.iconst 3, 1) := by decide +kernel
theorem dX1_lengthsToLookAt_49 : decode cX1_lengthsToLookAt 49 = .ok (.goto 18, 3) := by decide +kernel
theorem dX1_lengthsToLookAt_52 : decode cX1_lengthsToLookAt 52 = .ok (.iconst 3, 1) := by decide +kernel
theorem dX1_lengthsToLookAt_53 : decode cX1_lengthsToLookAt 53 = .ok (.iconst 1, 1) := by decide +kernel
theorem dX1_lengthsToLookAt_54 : decode cX1_lengthsToLookAt 54 = .ok (.iload_n 1, 1) := by decide +kernel
theorem dX1_lengthsToLookAt_55 : decode cX1_lengthsToLookAt 55 = .ok (.iconst 3, 1) := by decide +kernel
theorem dX1_lengthsToLookAt_56 : decode cX1_lengthsToLookAt 56 = .ok (.isub, 1) := by decide +kernel
theorem dX1_lengthsToLookAt_57 : decode cX1_lengthsToLookAt 57 = .ok (.iload_n 2, 1) := by decide +kernel
theorem dX1_lengthsToLookAt_58 : decode cX1_lengthsToLookAt 58 = .ok (.iadd, 1) := by decide +kernel
theorem dX1_lengthsToLookAt_59 : decode cX1_lengthsToLookAt 59 = .ok (.iconst 1, 1) := by decide +kernel
theorem dX1_lengthsToLookAt_60 : decode cX1_lengthsToLookAt 60 = .ok (.isub, 1) := by decide +kernel
theorem dX1_lengthsToLookAt_61 : decode cX1_lengthsToLookAt 61 = .ok (.iload_n 2, 1) := by decide +kernel
theorem dX1_lengthsToLookAt_62 : decode cX1_lengthsToLookAt 62 = .ok (.idiv, 1) := by decide +kernel
theorem dX1_lengthsToLookAt_63 : decode cX1_lengthsToLookAt 63 = .ok (.iadd, 1) := by decide +kernel
theorem dX1_lengthsToLookAt_64 : decode cX1_lengthsToLookAt 64 = .ok (.invokestatic 50, 3) := by decide +kernel
theorem dX1_lengthsToLookAt_67 : decode cX1_lengthsToLookAt 67 = .ok (.ireturn, 1) := by decide +kernel
theorem dX1_growsFrom_0 : decode cX1_growsFrom 0 = .ok (.iload_n 1, 1) := by decide +kernel
theorem dX1_growsFrom_1 : decode cX1_growsFrom 1 = .ok (.ifCond .lt 24, 3) := by decide +kernel
theorem dX1_growsFrom_4 : decode cX1_growsFrom 4 = .ok (.iload_n 1, 1) := by decide +kernel
theorem dX1_growsFrom_5 : decode cX1_growsFrom 5 = .ok (.aload_n 0, 1) := by decide +kernel
theorem dX1_growsFrom_6 : decode cX1_growsFrom 6 = .ok (.getfield 34, 3) := by decide +kernel
theorem dX1_growsFrom_9 : decode cX1_growsFrom 9 = .ok (.if_icmp .ge 16, 3) := by decide +kernel
theorem dX1_growsFrom_12 : decode cX1_growsFrom 12 = .ok (.aload_n 0, 1) := by decide +kernel
theorem dX1_growsFrom_13 : decode cX1_growsFrom 13 = .ok (.getfield 15, 3) := by decide +kernel
theorem dX1_growsFrom_16 : decode cX1_growsFrom 16 = .ok (.iload_n 1, 1) := by decide +kernel
theorem dX1_growsFrom_17 : decode cX1_growsFrom 17 = .ok (.bipush 20, 2) := by decide +kernel
theorem dX1_growsFrom_19 : decode cX1_growsFrom 19 = .ok (.imul, 1) := by decide +kernel
theorem dX1_growsFrom_20 : decode cX1_growsFrom 20 = .ok (.iaload, 1) := by decide +kernel
theorem dX1_growsFrom_21 : decode cX1_growsFrom 21 = .ok (.iload_n 1, 1) := by decide +kernel
theorem dX1_growsFrom_22 : decode cX1_growsFrom 22 = .ok (.if_icmp .eq 5, 3) := by decide +kernel
theorem dX1_growsFrom_25 : decode cX1_growsFrom 25 = .ok (.iconst 0, 1) := by decide +kernel
theorem dX1_growsFrom_26 : decode cX1_growsFrom 26 = .ok (.ireturn, 1) := by decide +kernel
theorem dX1_growsFrom_27 : decode cX1_growsFrom 27 = .ok (.iconst 0, 1) := by decide +kernel
theorem dX1_growsFrom_28 : decode cX1_growsFrom 28 = .ok (.istore_n 2, 1) := by decide +kernel
theorem dX1_growsFrom_29 : decode cX1_growsFrom 29 = .ok (.iload_n 2, 1) := by decide +kernel
theorem dX1_growsFrom_30 : decode cX1_growsFrom 30 = .ok (.aload_n 0, 1) := by decide +kernel
theorem dX1_growsFrom_31 : decode cX1_growsFrom 31 = .ok (.getfield 34, 3) := by decide +kernel
theorem dX1_growsFrom_34 : decode cX1_growsFrom 34 = .ok (.if_icmp .ge 21, 3) := by decide +kernel
theorem dX1_growsFrom_37 : decode cX1_growsFrom 37 = .ok (.aload_n 0, 1) := by decide +kernel
theorem dX1_growsFrom_38 : decode cX1_growsFrom 38 = .ok (.getfield 9, 3) := by decide +kernel
theorem dX1_growsFrom_41 : decode cX1_growsFrom 41 = .ok (.iload_n 2, 1) := by decide +kernel
theorem dX1_growsFrom_42 : decode cX1_growsFrom 42 = .ok (.iaload, 1) := by decide +kernel
theorem dX1_growsFrom_43 : decode cX1_growsFrom 43 = .ok (.iconst 2, 1) := by decide +kernel
theorem dX1_growsFrom_44 : decode cX1_growsFrom 44 = .ok (.if_icmp .ge 5, 3) := by decide +kernel
theorem dX1_growsFrom_47 : decode cX1_growsFrom 47 = .ok (.iconst 0, 1) := by decide +kernel
theorem dX1_growsFrom_48 : decode cX1_growsFrom 48 = .ok (.ireturn, 1) := by decide +kernel
theorem dX1_growsFrom_49 : decode cX1_growsFrom 49 = .ok (.iinc 2 1, 3) := by decide +kernel
theorem dX1_growsFrom_52 : decode cX1_growsFrom 52 = .ok (.goto (-23), 3) := by decide +kernel
theorem dX1_growsFrom_55 : decode cX1_growsFrom 55 = .ok (.iconst 1, 1) := by decide +kernel
theorem dX1_growsFrom_56 : decode cX1_growsFrom 56 = .ok (.ireturn, 1) := by decide +kernel
theorem dX1_letterFarOut_0 : decode cX1_letterFarOut 0 = .ok (.iload_n 1, 1) := by decide +kernel
theorem dX1_letterFarOut_1 : decode cX1_letterFarOut 1 = .ok (.istore_n 3, 1) := by decide +kernel
theorem dX1_letterFarOut_2 : decode cX1_letterFarOut 2 = .ok (.iload_n 2, 1) := by decide +kernel
theorem dX1_letterFarOut_3 : decode cX1_letterFarOut 3 = .ok (.i2l, 1) := by decide +kernel
theorem dX1_letterFarOut_4 : decode cX1_letterFarOut 4 = .ok (.lstore 4, 2) := by decide +kernel
theorem dX1_letterFarOut_6 : decode cX1_letterFarOut 6 = .ok (.bipush 30, 2) := by decide +kernel
theorem dX1_letterFarOut_8 : decode cX1_letterFarOut 8 = .ok (.istore 6, 2) := by decide +kernel
theorem dX1_letterFarOut_10 : decode cX1_letterFarOut 10 = .ok (.iload 6, 2) := by decide +kernel
theorem dX1_letterFarOut_12 : decode cX1_letterFarOut 12 = .ok (.ifCond .lt 101, 3) := by decide +kernel
theorem dX1_letterFarOut_15 : decode cX1_letterFarOut 15 = .ok (.iload_n 3, 1) := by decide +kernel
theorem dX1_letterFarOut_16 : decode cX1_letterFarOut 16 = .ok (.bipush 20, 2) := by decide +kernel
theorem dX1_letterFarOut_18 : decode cX1_letterFarOut 18 = .ok (.imul, 1) := by decide +kernel
theorem dX1_letterFarOut_19 : decode cX1_letterFarOut 19 = .ok (.istore 7, 2) := by decide +kernel
theorem dX1_letterFarOut_21 : decode cX1_letterFarOut 21 = .ok (.iconst 0, 1) := by decide +kernel
theorem dX1_letterFarOut_22 : decode cX1_letterFarOut 22 = .ok (.istore 8, 2) := by decide +kernel
theorem dX1_letterFarOut_24 : decode cX1_letterFarOut 24 = .ok (.iload 8, 2) := by decide +kernel
theorem dX1_letterFarOut_26 : decode cX1_letterFarOut 26 = .ok (.aload_n 0, 1) := by decide +kernel
theorem dX1_letterFarOut_27 : decode cX1_letterFarOut 27 = .ok (.getfield 9, 3) := by decide +kernel
theorem dX1_letterFarOut_30 : decode cX1_letterFarOut 30 = .ok (.iload_n 3, 1) := by decide +kernel
theorem dX1_letterFarOut_31 : decode cX1_letterFarOut 31 = .ok (.iaload, 1) := by decide +kernel
theorem dX1_letterFarOut_32 : decode cX1_letterFarOut 32 = .ok (.iconst 1, 1) := by decide +kernel
theorem dX1_letterFarOut_33 : decode cX1_letterFarOut 33 = .ok (.isub, 1) := by decide +kernel
theorem dX1_letterFarOut_34 : decode cX1_letterFarOut 34 = .ok (.if_icmp .ge 62, 3) := by decide +kernel
theorem dX1_letterFarOut_37 : decode cX1_letterFarOut 37 = .ok (.lload 4, 2) := by decide +kernel
theorem dX1_letterFarOut_39 : decode cX1_letterFarOut 39 = .ok (.aload_n 0, 1) := by decide +kernel
theorem dX1_letterFarOut_40 : decode cX1_letterFarOut 40 = .ok (.getfield 18, 3) := by decide +kernel
theorem dX1_letterFarOut_43 : decode cX1_letterFarOut 43 = .ok (.iload 6, 2) := by decide +kernel
theorem dX1_letterFarOut_45 : decode cX1_letterFarOut 45 = .ok (.bipush 8, 2) := by decide +kernel
theorem dX1_letterFarOut_47 : decode cX1_letterFarOut 47 = .ok (.imul, 1) := by decide +kernel
theorem dX1_letterFarOut_48 : decode cX1_letterFarOut 48 = .ok (.aload_n 0, 1) := by decide +kernel
theorem dX1_letterFarOut_49 : decode cX1_letterFarOut 49 = .ok (.getfield 15, 3) := by decide +kernel
theorem dX1_letterFarOut_52 : decode cX1_letterFarOut 52 = .ok (.iload 7, 2) := by decide +kernel
theorem dX1_letterFarOut_54 : decode cX1_letterFarOut 54 = .ok (.iload 8, 2) := by decide +kernel
theorem dX1_letterFarOut_56 : decode cX1_letterFarOut 56 = .ok (.iadd, 1) := by decide +kernel
theorem dX1_letterFarOut_57 : decode cX1_letterFarOut 57 = .ok (.iaload, 1) := by decide +kernel
theorem dX1_letterFarOut_58 : decode cX1_letterFarOut 58 = .ok (.iadd, 1) := by decide +kernel
theorem dX1_letterFarOut_59 : decode cX1_letterFarOut 59 = .ok (.laload, 1) := by decide +kernel
theorem dX1_letterFarOut_60 : decode cX1_letterFarOut 60 = .ok (.lcmp, 1) := by decide +kernel
theorem dX1_letterFarOut_61 : decode cX1_letterFarOut 61 = .ok (.ifCond .lt 35, 3) := by decide +kernel
theorem dX1_letterFarOut_64 : decode cX1_letterFarOut 64 = .ok (.lload 4, 2) := by decide +kernel
theorem dX1_letterFarOut_66 : decode cX1_letterFarOut 66 = .ok (.aload_n 0, 1) := by decide +kernel
theorem dX1_letterFarOut_67 : decode cX1_letterFarOut 67 = .ok (.getfield 18, 3) := by decide +kernel
theorem dX1_letterFarOut_70 : decode cX1_letterFarOut 70 = .ok (.iload 6, 2) := by decide +kernel
theorem dX1_letterFarOut_72 : decode cX1_letterFarOut 72 = .ok (.bipush 8, 2) := by decide +kernel
theorem dX1_letterFarOut_74 : decode cX1_letterFarOut 74 = .ok (.imul, 1) := by decide +kernel
theorem dX1_letterFarOut_75 : decode cX1_letterFarOut 75 = .ok (.aload_n 0, 1) := by decide +kernel
theorem dX1_letterFarOut_76 : decode cX1_letterFarOut 76 = .ok (.getfield 15, 3) := by decide +kernel
theorem dX1_letterFarOut_79 : decode cX1_letterFarOut 79 = .ok (.iload 7, 2) := by decide +kernel
theorem dX1_letterFarOut_81 : decode cX1_letterFarOut 81 = .ok (.iload 8, 2) := by decide +kernel
theorem dX1_letterFarOut_83 : decode cX1_letterFarOut 83 = .ok (.iadd, 1) := by decide +kernel
theorem dX1_letterFarOut_84 : decode cX1_letterFarOut 84 = .ok (.iaload, 1) := by decide +kernel
theorem dX1_letterFarOut_85 : decode cX1_letterFarOut 85 = .ok (.iadd, 1) := by decide +kernel
theorem dX1_letterFarOut_86 : decode cX1_letterFarOut 86 = .ok (.laload, 1) := by decide +kernel
theorem dX1_letterFarOut_87 : decode cX1_letterFarOut 87 = .ok (.lsub, 1) := by decide +kernel
theorem dX1_letterFarOut_88 : decode cX1_letterFarOut 88 = .ok (.lstore 4, 2) := by decide +kernel
theorem dX1_letterFarOut_90 : decode cX1_letterFarOut 90 = .ok (.iinc 8 1, 3) := by decide +kernel
theorem dX1_letterFarOut_93 : decode cX1_letterFarOut 93 = .ok (.goto (-69), 3) := by decide +kernel
theorem dX1_letterFarOut_96 : decode cX1_letterFarOut 96 = .ok (.aload_n 0, 1) := by decide +kernel
theorem dX1_letterFarOut_97 : decode cX1_letterFarOut 97 = .ok (.getfield 15, 3) := by decide +kernel
theorem dX1_letterFarOut_100 : decode cX1_letterFarOut 100 = .ok (.iload 7, 2) := by decide +kernel
theorem dX1_letterFarOut_102 : decode cX1_letterFarOut 102 = .ok (.iload 8, 2) := by decide +kernel
theorem dX1_letterFarOut_104 : decode cX1_letterFarOut 104 = .ok (.iadd, 1) := by decide +kernel
theorem dX1_letterFarOut_105 : decode cX1_letterFarOut 105 = .ok (.iaload, 1) := by decide +kernel
theorem dX1_letterFarOut_106 : decode cX1_letterFarOut 106 = .ok (.istore_n 3, 1) := by decide +kernel
theorem dX1_letterFarOut_107 : decode cX1_letterFarOut 107 = .ok (.iinc 6 (-1), 3) := by decide +kernel
theorem dX1_letterFarOut_110 : decode cX1_letterFarOut 110 = .ok (.goto (-100), 3) := by decide +kernel
theorem dX1_letterFarOut_113 : decode cX1_letterFarOut 113 = .ok (.iload_n 3, 1) := by decide +kernel
theorem dX1_letterFarOut_114 : decode cX1_letterFarOut 114 = .ok (.ireturn, 1) := by decide +kernel
theorem dX2_init_0 : decode cX2_init 0 = .ok (.aload_n 0, 1) := by decide +kernel
theorem dX2_init_1 : decode cX2_init 1 = .ok (.invokespecial 1, 3) := by decide +kernel
theorem dX2_init_4 : decode cX2_init 4 = .ok (.aload_n 0, 1) := by decide +kernel
theorem dX2_init_5 : decode cX2_init 5 = .ok (.iload_n 1, 1) := by decide +kernel
theorem dX2_init_6 : decode cX2_init 6 = .ok (.putfield 7, 3) := by decide +kernel
theorem dX2_init_9 : decode cX2_init 9 = .ok (.return_, 1) := by decide +kernel
theorem dX2_shortest_0 : decode cX2_shortest 0 = .ok (.iconst 1, 1) := by decide +kernel
theorem dX2_shortest_1 : decode cX2_shortest 1 = .ok (.istore_n 3, 1) := by decide +kernel
theorem dX2_shortest_2 : decode cX2_shortest 2 = .ok (.iconst 2, 1) := by decide +kernel
theorem dX2_shortest_3 : decode cX2_shortest 3 = .ok (.iload_n 3, 1) := by decide +kernel
theorem dX2_shortest_4 : decode cX2_shortest 4 = .ok (.imul, 1) := by decide +kernel
theorem dX2_shortest_5 : decode cX2_shortest 5 = .ok (.iload_n 2, 1) := by decide +kernel
theorem dX2_shortest_6 : decode cX2_shortest 6 = .ok (.if_icmp .gt 23, 3) := by decide +kernel
theorem dX2_shortest_9 : decode cX2_shortest 9 = .ok (.aload_n 0, 1) := by decide +kernel
theorem dX2_shortest_10 : decode cX2_shortest 10 = .ok (.aload_n 1, 1) := by decide +kernel
theorem dX2_shortest_11 : decode cX2_shortest 11 = .ok (.iload_n 2, 1) := by decide +kernel
theorem dX2_shortest_12 : decode cX2_shortest 12 = .ok (.iload_n 3, 1) := by decide +kernel
theorem dX2_shortest_13 : decode cX2_shortest 13 = .ok (.invokevirtual 13, 3) := by decide +kernel
theorem dX2_shortest_16 : decode cX2_shortest 16 = .ok (.ifCond .eq 7, 3) := by decide +kernel
theorem dX2_shortest_19 : decode cX2_shortest 19 = .ok (.iconst 2, 1) := by decide +kernel
theorem dX2_shortest_20 : decode cX2_shortest 20 = .ok (.iload_n 3, 1) := by decide +kernel
theorem dX2_shortest_21 : decode cX2_shortest 21 = .ok (.imul, 1) := by decide +kernel
theorem dX2_shortest_22 : decode cX2_shortest 22 = .ok (.ireturn, 1) := by decide +kernel
theorem dX2_shortest_23 : decode cX2_shortest 23 = .ok (.iinc 3 1, 3) := by decide +kernel
theorem dX2_shortest_26 : decode cX2_shortest 26 = .ok (.goto (-24), 3) := by decide +kernel
theorem dX2_shortest_29 : decode cX2_shortest 29 = .ok (.iconst 0, 1) := by decide +kernel
theorem dX2_shortest_30 : decode cX2_shortest 30 = .ok (.ireturn, 1) := by decide +kernel
theorem dX2_isNear_0 : decode cX2_isNear 0 = .ok (.aload_n 0, 1) := by decide +kernel
theorem dX2_isNear_1 : decode cX2_isNear 1 = .ok (.getfield 7, 3) := by decide +kernel
theorem dX2_isNear_4 : decode cX2_isNear 4 = .ok (.iload_n 3, 1) := by decide +kernel
theorem dX2_isNear_5 : decode cX2_isNear 5 = .ok (.iconst 1, 1) := by decide +kernel
theorem dX2_isNear_6 : decode cX2_isNear 6 = .ok (.isub, 1) := by decide +kernel
theorem dX2_isNear_7 : decode cX2_isNear 7 = .ok (.invokestatic 17, 3) := by decide +kernel
theorem dX2_isNear_10 : decode cX2_isNear 10 = .ok (.istore 4, 2) := by decide +kernel
theorem dX2_isNear_12 : decode cX2_isNear 12 = .ok (.iconst 1, 1) := by decide +kernel
theorem dX2_isNear_13 : decode cX2_isNear 13 = .ok (.istore 5, 2) := by decide +kernel
theorem dX2_isNear_15 : decode cX2_isNear 15 = .ok (.iload 5, 2) := by decide +kernel
theorem dX2_isNear_17 : decode cX2_isNear 17 = .ok (.iload_n 3, 1) := by decide +kernel
theorem dX2_isNear_18 : decode cX2_isNear 18 = .ok (.if_icmp .gt 34, 3) := by decide +kernel
theorem dX2_isNear_21 : decode cX2_isNear 21 = .ok (.iload 4, 2) := by decide +kernel
theorem dX2_isNear_23 : decode cX2_isNear 23 = .ok (.ifCond .lt 29, 3) := by decide +kernel
theorem dX2_isNear_26 : decode cX2_isNear 26 = .ok (.aload_n 1, 1) := by decide +kernel
theorem dX2_isNear_27 : decode cX2_isNear 27 = .ok (.iload_n 2, 1) := by decide +kernel
theorem dX2_isNear_28 : decode cX2_isNear 28 = .ok (.iload 5, 2) := by decide +kernel
theorem dX2_isNear_30 : decode cX2_isNear 30 = .ok (.isub, 1) := by decide +kernel
theorem dX2_isNear_31 : decode cX2_isNear 31 = .ok (.iaload, 1) := by decide +kernel
theorem dX2_isNear_32 : decode cX2_isNear 32 = .ok (.aload_n 1, 1) := by decide +kernel
theorem dX2_isNear_33 : decode cX2_isNear 33 = .ok (.iload_n 2, 1) := by decide +kernel
theorem dX2_isNear_34 : decode cX2_isNear 34 = .ok (.iload_n 3, 1) := by decide +kernel
theorem dX2_isNear_35 : decode cX2_isNear 35 = .ok (.isub, 1) := by decide +kernel
theorem dX2_isNear_36 : decode cX2_isNear 36 = .ok (.iload 5, 2) := by decide +kernel
theorem dX2_isNear_38 : decode cX2_isNear 38 = .ok (.isub, 1) := by decide +kernel
theorem dX2_isNear_39 : decode cX2_isNear 39 = .ok (.iaload, 1) := by decide +kernel
theorem dX2_isNear_40 : decode cX2_isNear 40 = .ok (.if_icmp .eq 6, 3) := by decide +kernel
theorem dX2_isNear_43 : decode cX2_isNear 43 = .ok (.iinc 4 (-1), 3) := by decide +kernel
theorem dX2_isNear_46 : decode cX2_isNear 46 = .ok (.iinc 5 1, 3) := by decide +kernel
theorem dX2_isNear_49 : decode cX2_isNear 49 = .ok (.goto (-34), 3) := by decide +kernel
theorem dX2_isNear_52 : decode cX2_isNear 52 = .ok (.iload 4, 2) := by decide +kernel
theorem dX2_isNear_54 : decode cX2_isNear 54 = .ok (.ifCond .lt 7, 3) := by decide +kernel
theorem dX2_isNear_57 : decode cX2_isNear 57 = .ok (.iconst 1, 1) := by decide +kernel
theorem dX2_isNear_58 : decode cX2_isNear 58 = .ok (.goto 4, 3) := by decide +kernel
theorem dX2_isNear_61 : decode cX2_isNear 61 = .ok (.iconst 0, 1) := by decide +kernel
theorem dX2_isNear_62 : decode cX2_isNear 62 = .ok (.ireturn, 1) := by decide +kernel
theorem dX3_init_0 : decode cX3_init 0 = .ok (.aload_n 0, 1) := by decide +kernel
theorem dX3_init_1 : decode cX3_init 1 = .ok (.invokespecial 1, 3) := by decide +kernel
theorem dX3_init_4 : decode cX3_init 4 = .ok (.aload_n 0, 1) := by decide +kernel
theorem dX3_init_5 : decode cX3_init 5 = .ok (.iload_n 1, 1) := by decide +kernel
theorem dX3_init_6 : decode cX3_init 6 = .ok (.putfield 7, 3) := by decide +kernel
theorem dX3_init_9 : decode cX3_init 9 = .ok (.aload_n 0, 1) := by decide +kernel
theorem dX3_init_10 : decode cX3_init 10 = .ok (.iload_n 2, 1) := by decide +kernel
theorem dX3_init_11 : decode cX3_init 11 = .ok (.putfield 13, 3) := by decide +kernel
theorem dX3_init_14 : decode cX3_init 14 = .ok (.aload_n 0, 1) := by decide +kernel
theorem dX3_init_15 : decode cX3_init 15 = .ok (.iload_n 3, 1) := by decide +kernel
theorem dX3_init_16 : decode cX3_init 16 = .ok (.putfield 16, 3) := by decide +kernel
theorem dX3_init_19 : decode cX3_init 19 = .ok (.return_, 1) := by decide +kernel
theorem dX3_shortest_0 : decode cX3_shortest 0 = .ok (.iconst 1, 1) := by decide +kernel
theorem dX3_shortest_1 : decode cX3_shortest 1 = .ok (.istore_n 3, 1) := by decide +kernel
theorem dX3_shortest_2 : decode cX3_shortest 2 = .ok (.iload_n 3, 1) := by decide +kernel
theorem dX3_shortest_3 : decode cX3_shortest 3 = .ok (.iload_n 2, 1) := by decide +kernel
theorem dX3_shortest_4 : decode cX3_shortest 4 = .ok (.if_icmp .ge 94, 3) := by decide +kernel
theorem dX3_shortest_7 : decode cX3_shortest 7 = .ok (.iload_n 3, 1) := by decide +kernel
theorem dX3_shortest_8 : decode cX3_shortest 8 = .ok (.aload_n 0, 1) := by decide +kernel
theorem dX3_shortest_9 : decode cX3_shortest 9 = .ok (.getfield 7, 3) := by decide +kernel
theorem dX3_shortest_12 : decode cX3_shortest 12 = .ok (.imul, 1) := by decide +kernel
theorem dX3_shortest_13 : decode cX3_shortest 13 = .ok (.iload_n 2, 1) := by decide +kernel
theorem dX3_shortest_14 : decode cX3_shortest 14 = .ok (.aload_n 0, 1) := by decide +kernel
theorem dX3_shortest_15 : decode cX3_shortest 15 = .ok (.getfield 13, 3) := by decide +kernel
theorem dX3_shortest_18 : decode cX3_shortest 18 = .ok (.imul, 1) := by decide +kernel
theorem dX3_shortest_19 : decode cX3_shortest 19 = .ok (.if_icmp .gt 79, 3) := by decide +kernel
theorem dX3_shortest_22 : decode cX3_shortest 22 = .ok (.iload_n 3, 1) := by decide +kernel
theorem dX3_shortest_23 : decode cX3_shortest 23 = .ok (.iconst 1, 1) := by decide +kernel
theorem dX3_shortest_24 : decode cX3_shortest 24 = .ok (.iadd, 1) := by decide +kernel
theorem dX3_shortest_25 : decode cX3_shortest 25 = .ok (.istore 4, 2) := by decide +kernel
theorem dX3_shortest_27 : decode cX3_shortest 27 = .ok (.iload 4, 2) := by decide +kernel
theorem dX3_shortest_29 : decode cX3_shortest 29 = .ok (.iload_n 2, 1) := by decide +kernel
theorem dX3_shortest_30 : decode cX3_shortest 30 = .ok (.if_icmp .gt 62, 3) := by decide +kernel
theorem dX3_shortest_33 : decode cX3_shortest 33 = .ok (.aload_n 1, 1) := by decide +kernel
theorem dX3_shortest_34 : decode cX3_shortest 34 = .ok (.iload_n 2, 1) := by decide +kernel
theorem dX3_shortest_35 : decode cX3_shortest 35 = .ok (.iload 4, 2) := by decide +kernel
theorem dX3_shortest_37 : decode cX3_shortest 37 = .ok (.isub, 1) := by decide +kernel
theorem dX3_shortest_38 : decode cX3_shortest 38 = .ok (.iaload, 1) := by decide +kernel
theorem dX3_shortest_39 : decode cX3_shortest 39 = .ok (.aload_n 1, 1) := by decide +kernel
theorem dX3_shortest_40 : decode cX3_shortest 40 = .ok (.iload_n 2, 1) := by decide +kernel
theorem dX3_shortest_41 : decode cX3_shortest 41 = .ok (.iload 4, 2) := by decide +kernel
theorem dX3_shortest_43 : decode cX3_shortest 43 = .ok (.isub, 1) := by decide +kernel
theorem dX3_shortest_44 : decode cX3_shortest 44 = .ok (.iload_n 3, 1) := by decide +kernel
theorem dX3_shortest_45 : decode cX3_shortest 45 = .ok (.iadd, 1) := by decide +kernel
theorem dX3_shortest_46 : decode cX3_shortest 46 = .ok (.iaload, 1) := by decide +kernel
theorem dX3_shortest_47 : decode cX3_shortest 47 = .ok (.if_icmp .ne 45, 3) := by decide +kernel
theorem dX3_shortest_50 : decode cX3_shortest 50 = .ok (.iload 4, 2) := by decide +kernel
theorem dX3_shortest_52 : decode cX3_shortest 52 = .ok (.aload_n 0, 1) := by decide +kernel
theorem dX3_shortest_53 : decode cX3_shortest 53 = .ok (.getfield 13, 3) := by decide +kernel
theorem dX3_shortest_56 : decode cX3_shortest 56 = .ok (.imul, 1) := by decide +kernel
theorem dX3_shortest_57 : decode cX3_shortest 57 = .ok (.iload_n 3, 1) := by decide +kernel
theorem dX3_shortest_58 : decode cX3_shortest 58 = .ok (.aload_n 0, 1) := by decide +kernel
theorem dX3_shortest_59 : decode cX3_shortest 59 = .ok (.getfield 7, 3) := by decide +kernel
theorem dX3_shortest_62 : decode cX3_shortest 62 = .ok (.imul, 1) := by decide +kernel
theorem dX3_shortest_63 : decode cX3_shortest 63 = .ok (.isub, 1) := by decide +kernel
theorem dX3_shortest_64 : decode cX3_shortest 64 = .ok (.istore 5, 2) := by decide +kernel
theorem dX3_shortest_66 : decode cX3_shortest 66 = .ok (.iload 5, 2) := by decide +kernel
theorem dX3_shortest_68 : decode cX3_shortest 68 = .ok (.ifCond .gt 15, 3) := by decide +kernel
theorem dX3_shortest_71 : decode cX3_shortest 71 = .ok (.iload 5, 2) := by decide +kernel
theorem dX3_shortest_73 : decode cX3_shortest 73 = .ok (.ifCond .ne 13, 3) := by decide +kernel
theorem dX3_shortest_76 : decode cX3_shortest 76 = .ok (.aload_n 0, 1) := by decide +kernel
theorem dX3_shortest_77 : decode cX3_shortest 77 = .ok (.getfield 16, 3) := by decide +kernel
theorem dX3_shortest_80 : decode cX3_shortest 80 = .ok (.ifCond .ne 6, 3) := by decide +kernel
theorem dX3_shortest_83 : decode cX3_shortest 83 = .ok (.iload 4, 2) := by decide +kernel
theorem dX3_shortest_85 : decode cX3_shortest 85 = .ok (.ireturn, 1) := by decide +kernel
theorem dX3_shortest_86 : decode cX3_shortest 86 = .ok (.iinc 4 1, 3) := by decide +kernel
theorem dX3_shortest_89 : decode cX3_shortest 89 = .ok (.goto (-62), 3) := by decide +kernel
theorem dX3_shortest_92 : decode cX3_shortest 92 = .ok (.iinc 3 1, 3) := by decide +kernel
theorem dX3_shortest_95 : decode cX3_shortest 95 = .ok (.goto (-93), 3) := by decide +kernel
theorem dX3_shortest_98 : decode cX3_shortest 98 = .ok (.iconst 0, 1) := by decide +kernel
theorem dX3_shortest_99 : decode cX3_shortest 99 = .ok (.ireturn, 1) := by decide +kernel
theorem dX4_init_0 : decode cX4_init 0 = .ok (.aload_n 0, 1) := by decide +kernel
theorem dX4_init_1 : decode cX4_init 1 = .ok (.invokespecial 3, 3) := by decide +kernel
theorem dX4_init_4 : decode cX4_init 4 = .ok (.aload_n 0, 1) := by decide +kernel
theorem dX4_init_5 : decode cX4_init 5 = .ok (.bipush 60, 2) := by decide +kernel
theorem dX4_init_7 : decode cX4_init 7 = .ok (.newarray .int, 2) := by decide +kernel
theorem dX4_init_9 : decode cX4_init 9 = .ok (.putfield 9, 3) := by decide +kernel
theorem dX4_init_12 : decode cX4_init 12 = .ok (.return_, 1) := by decide +kernel
theorem dX4_forgetLooks_0 : decode cX4_forgetLooks 0 = .ok (.aload_n 0, 1) := by decide +kernel
theorem dX4_forgetLooks_1 : decode cX4_forgetLooks 1 = .ok (.iconst 0, 1) := by decide +kernel
theorem dX4_forgetLooks_2 : decode cX4_forgetLooks 2 = .ok (.putfield 15, 3) := by decide +kernel
theorem dX4_forgetLooks_5 : decode cX4_forgetLooks 5 = .ok (.return_, 1) := by decide +kernel
theorem dX4_begin_0 : decode cX4_begin 0 = .ok (.aload_n 0, 1) := by decide +kernel
theorem dX4_begin_1 : decode cX4_begin 1 = .ok (.aload_n 1, 1) := by decide +kernel
theorem dX4_begin_2 : decode cX4_begin 2 = .ok (.putfield 19, 3) := by decide +kernel
theorem dX4_begin_5 : decode cX4_begin 5 = .ok (.aload_n 0, 1) := by decide +kernel
theorem dX4_begin_6 : decode cX4_begin 6 = .ok (.iload_n 2, 1) := by decide +kernel
theorem dX4_begin_7 : decode cX4_begin 7 = .ok (.putfield 23, 3) := by decide +kernel
theorem dX4_begin_10 : decode cX4_begin 10 = .ok (.aload_n 0, 1) := by decide +kernel
theorem dX4_begin_11 : decode cX4_begin 11 = .ok (.iload_n 3, 1) := by decide +kernel
theorem dX4_begin_12 : decode cX4_begin 12 = .ok (.putfield 26, 3) := by decide +kernel
theorem dX4_begin_15 : decode cX4_begin 15 = .ok (.aload_n 0, 1) := by decide +kernel
theorem dX4_begin_16 : decode cX4_begin 16 = .ok (.iload 4, 2) := by decide +kernel
theorem dX4_begin_18 : decode cX4_begin 18 = .ok (.putfield 29, 3) := by decide +kernel
theorem dX4_begin_21 : decode cX4_begin 21 = .ok (.aload_n 0, 1) := by decide +kernel
theorem dX4_begin_22 : decode cX4_begin 22 = .ok (.aload_n 0, 1) := by decide +kernel
theorem dX4_begin_23 : decode cX4_begin 23 = .ok (.invokevirtual 32, 3) := by decide +kernel
theorem dX4_begin_26 : decode cX4_begin 26 = .ok (.ifCond .eq 8, 3) := by decide +kernel
theorem dX4_begin_29 : decode cX4_begin 29 = .ok (.bipush 10, 2) := by decide +kernel
theorem dX4_begin_31 : decode cX4_begin 31 = .ok (.goto 4, 3) := by decide +kernel
theorem dX4_begin_34 : decode cX4_begin 34 = .ok (.iconst 1, 1) := by decide +kernel
theorem dX4_begin_35 : decode cX4_begin 35 = .ok (.putfield 36, 3) := by decide +kernel
theorem dX4_begin_38 : decode cX4_begin 38 = .ok (.aload_n 0, 1) := by decide +kernel
theorem dX4_begin_39 : decode cX4_begin 39 = .ok (.iconst 0, 1) := by decide +kernel
theorem dX4_begin_40 : decode cX4_begin 40 = .ok (.putfield 39, 3) := by decide +kernel
theorem dX4_begin_43 : decode cX4_begin 43 = .ok (.aload_n 0, 1) := by decide +kernel
theorem dX4_begin_44 : decode cX4_begin 44 = .ok (.iconst 0, 1) := by decide +kernel
theorem dX4_begin_45 : decode cX4_begin 45 = .ok (.putfield 42, 3) := by decide +kernel
theorem dX4_begin_48 : decode cX4_begin 48 = .ok (.aload_n 0, 1) := by decide +kernel
theorem dX4_begin_49 : decode cX4_begin 49 = .ok (.iconst 0, 1) := by decide +kernel
theorem dX4_begin_50 : decode cX4_begin 50 = .ok (.putfield 45, 3) := by decide +kernel
theorem dX4_begin_53 : decode cX4_begin 53 = .ok (.aload_n 0, 1) := by decide +kernel
theorem dX4_begin_54 : decode cX4_begin 54 = .ok (.iconst 0, 1) := by decide +kernel
theorem dX4_begin_55 : decode cX4_begin 55 = .ok (.putfield 48, 3) := by decide +kernel
theorem dX4_begin_58 : decode cX4_begin 58 = .ok (.aload_n 0, 1) := by decide +kernel
theorem dX4_begin_59 : decode cX4_begin 59 = .ok (.iconst 0, 1) := by decide +kernel
theorem dX4_begin_60 : decode cX4_begin 60 = .ok (.putfield 51, 3) := by decide +kernel
theorem dX4_begin_63 : decode cX4_begin 63 = .ok (.return_, 1) := by decide +kernel
theorem dX4_hasShape_0 : decode cX4_hasShape 0 = .ok (.iconst 0, 1) := by decide +kernel
theorem dX4_hasShape_1 : decode cX4_hasShape 1 = .ok (.istore_n 1, 1) := by decide +kernel
theorem dX4_hasShape_2 : decode cX4_hasShape 2 = .ok (.iload_n 1, 1) := by decide +kernel
theorem dX4_hasShape_3 : decode cX4_hasShape 3 = .ok (.aload_n 0, 1) := by decide +kernel
theorem dX4_hasShape_4 : decode cX4_hasShape 4 = .ok (.getfield 19, 3) := by decide +kernel
theorem dX4_hasShape_7 : decode cX4_hasShape 7 = .ok (.arraylength, 1) := by decide +kernel
theorem dX4_hasShape_8 : decode cX4_hasShape 8 = .ok (.if_icmp .ge 34, 3) := by decide +kernel
theorem dX4_hasShape_11 : decode cX4_hasShape 11 = .ok (.aload_n 0, 1) := by decide +kernel
theorem dX4_hasShape_12 : decode cX4_hasShape 12 = .ok (.getfield 23, 3) := by decide +kernel
theorem dX4_hasShape_15 : decode cX4_hasShape 15 = .ok (.iload_n 1, 1) := by decide +kernel
theorem dX4_hasShape_16 : decode cX4_hasShape 16 = .ok (.ishr, 1) := by decide +kernel
theorem dX4_hasShape_17 : decode cX4_hasShape 17 = .ok (.iconst 1, 1) := by decide +kernel
theorem dX4_hasShape_18 : decode cX4_hasShape 18 = .ok (.iand, 1) := by decide +kernel
theorem dX4_hasShape_19 : decode cX4_hasShape 19 = .ok (.ifCond .eq 17, 3) := by decide +kernel
theorem dX4_hasShape_22 : decode cX4_hasShape 22 = .ok (.aload_n 0, 1) := by decide +kernel
theorem dX4_hasShape_23 : decode cX4_hasShape 23 = .ok (.getfield 19, 3) := by decide +kernel
theorem dX4_hasShape_26 : decode cX4_hasShape 26 = .ok (.iload_n 1, 1) := by decide +kernel
theorem dX4_hasShape_27 : decode cX4_hasShape 27 = .ok (.aaload, 1) := by decide +kernel
theorem dX4_hasShape_28 : decode cX4_hasShape 28 = .ok (.instanceof 55, 3) := by decide +kernel
theorem dX4_hasShape_31 : decode cX4_hasShape 31 = .ok (.ifCond .eq 5, 3) := by decide +kernel
theorem dX4_hasShape_34 : decode cX4_hasShape 34 = .ok (.iconst 1, 1) := by decide +kernel
theorem dX4_hasShape_35 : decode cX4_hasShape 35 = .ok (.ireturn, 1) := by decide +kernel
theorem dX4_hasShape_36 : decode cX4_hasShape 36 = .ok (.iinc 1 1, 3) := by decide +kernel
theorem dX4_hasShape_39 : decode cX4_hasShape 39 = .ok (.goto (-37), 3) := by decide +kernel
theorem dX4_hasShape_42 : decode cX4_hasShape 42 = .ok (.iconst 0, 1) := by decide +kernel
theorem dX4_hasShape_43 : decode cX4_hasShape 43 = .ok (.ireturn, 1) := by decide +kernel
theorem dX4_advanceBy_0 : decode cX4_advanceBy 0 = .ok (.iconst 1, 1) := by decide +kernel
theorem dX4_advanceBy_1 : decode cX4_advanceBy 1 = .ok (.istore_n 2, 1) := by decide +kernel
theorem dX4_advanceBy_2 : decode cX4_advanceBy 2 = .ok (.iconst 0, 1) := by decide +kernel
theorem dX4_advanceBy_3 : decode cX4_advanceBy 3 = .ok (.istore_n 3, 1) := by decide +kernel
theorem dX4_advanceBy_4 : decode cX4_advanceBy 4 = .ok (.iload_n 3, 1) := by decide +kernel
theorem dX4_advanceBy_5 : decode cX4_advanceBy 5 = .ok (.iload_n 1, 1) := by decide +kernel
theorem dX4_advanceBy_6 : decode cX4_advanceBy 6 = .ok (.if_icmp .ge 19, 3) := by decide +kernel
theorem dX4_advanceBy_9 : decode cX4_advanceBy 9 = .ok (.iload_n 2, 1) := by decide +kernel
theorem dX4_advanceBy_10 : decode cX4_advanceBy 10 = .ok (.iconst 1, 1) := by decide +kernel
theorem dX4_advanceBy_11 : decode cX4_advanceBy 11 = .ok (.if_icmp .ne 14, 3) := by decide +kernel
theorem dX4_advanceBy_14 : decode cX4_advanceBy 14 = .ok (.aload_n 0, 1) := by decide +kernel
theorem dX4_advanceBy_15 : decode cX4_advanceBy 15 = .ok (.invokevirtual 57, 3) := by decide +kernel
theorem dX4_advanceBy_18 : decode cX4_advanceBy 18 = .ok (.istore_n 2, 1) := by decide +kernel
theorem dX4_advanceBy_19 : decode cX4_advanceBy 19 = .ok (.iinc 3 1, 3) := by decide +kernel
theorem dX4_advanceBy_22 : decode cX4_advanceBy 22 = .ok (.goto (-18), 3) := by decide +kernel
theorem dX4_advanceBy_25 : decode cX4_advanceBy 25 = .ok (.iload_n 2, 1) := by decide +kernel
theorem dX4_advanceBy_26 : decode cX4_advanceBy 26 = .ok (.ireturn, 1) := by decide +kernel
theorem dX4_advance_0 : decode cX4_advance 0 = .ok (.aload_n 0, 1) := by decide +kernel
theorem dX4_advance_1 : decode cX4_advance 1 = .ok (.getfield 51, 3) := by decide +kernel
theorem dX4_advance_4 : decode cX4_advance 4 = .ok (.ifCond .ne 45, 3) := by decide +kernel
theorem dX4_advance_7 : decode cX4_advance 7 = .ok (.aload_n 0, 1) := by decide +kernel
theorem dX4_advance_8 : decode cX4_advance 8 = .ok (.iconst 1, 1) := by decide +kernel
theorem dX4_advance_9 : decode cX4_advance 9 = .ok (.putfield 51, 3) := by decide +kernel
theorem dX4_advance_12 : decode cX4_advance 12 = .ok (.aload_n 0, 1) := by decide +kernel
theorem dX4_advance_13 : decode cX4_advance 13 = .ok (.invokevirtual 61, 3) := by decide +kernel
theorem dX4_advance_16 : decode cX4_advance 16 = .ok (.ifCond .ne 6, 3) := by decide +kernel
theorem dX4_advance_19 : decode cX4_advance 19 = .ok (.bipush (-2), 2) := by decide +kernel
theorem dX4_advance_21 : decode cX4_advance 21 = .ok (.ireturn, 1) := by decide +kernel
theorem dX4_advance_22 : decode cX4_advance 22 = .ok (.aload_n 0, 1) := by decide +kernel
theorem dX4_advance_23 : decode cX4_advance 23 = .ok (.getfield 29, 3) := by decide +kernel
theorem dX4_advance_26 : decode cX4_advance 26 = .ok (.ifCond .ne 23, 3) := by decide +kernel
theorem dX4_advance_29 : decode cX4_advance 29 = .ok (.aload_n 0, 1) := by decide +kernel
theorem dX4_advance_30 : decode cX4_advance 30 = .ok (.aload_n 0, 1) := by decide +kernel
theorem dX4_advance_31 : decode cX4_advance 31 = .ok (.getfield 26, 3) := by decide +kernel
theorem dX4_advance_34 : decode cX4_advance 34 = .ok (.putfield 48, 3) := by decide +kernel
theorem dX4_advance_37 : decode cX4_advance 37 = .ok (.aload_n 0, 1) := by decide +kernel
theorem dX4_advance_38 : decode cX4_advance 38 = .ok (.dup, 1) := by decide +kernel
theorem dX4_advance_39 : decode cX4_advance 39 = .ok (.getfield 39, 3) := by decide +kernel
theorem dX4_advance_42 : decode cX4_advance 42 = .ok (.iconst 1, 1) := by decide +kernel
theorem dX4_advance_43 : decode cX4_advance 43 = .ok (.iadd, 1) := by decide +kernel
theorem dX4_advance_44 : decode cX4_advance 44 = .ok (.putfield 39, 3) := by decide +kernel
theorem dX4_advance_47 : decode cX4_advance 47 = .ok (.iconst 1, 1) := by decide +kernel
theorem dX4_advance_48 : decode cX4_advance 48 = .ok (.ireturn, 1) := by decide +kernel
theorem dX4_advance_49 : decode cX4_advance 49 = .ok (.iconst 0, 1) := by decide +kernel
theorem dX4_advance_50 : decode cX4_advance 50 = .ok (.istore_n 1, 1) := by decide +kernel
theorem dX4_advance_51 : decode cX4_advance 51 = .ok (.iload_n 1, 1) := by decide +kernel
theorem dX4_advance_52 : decode cX4_advance 52 = .ok (.ldc 64, 2) := by decide +kernel
theorem dX4_advance_54 : decode cX4_advance 54 = .ok (.if_icmp .ge 76, 3) := by decide +kernel
theorem dX4_advance_57 : decode cX4_advance 57 = .ok (.aload_n 0, 1) := by decide +kernel
theorem dX4_advance_58 : decode cX4_advance 58 = .ok (.getfield 48, 3) := by decide +kernel
theorem dX4_advance_61 : decode cX4_advance 61 = .ok (.aload_n 0, 1) := by decide +kernel
theorem dX4_advance_62 : decode cX4_advance 62 = .ok (.getfield 26, 3) := by decide +kernel
theorem dX4_advance_65 : decode cX4_advance 65 = .ok (.if_icmp .ge 22, 3) := by decide +kernel
theorem dX4_advance_68 : decode cX4_advance 68 = .ok (.aload_n 0, 1) := by decide +kernel
theorem dX4_advance_69 : decode cX4_advance 69 = .ok (.invokevirtual 61, 3) := by decide +kernel
theorem dX4_advance_72 : decode cX4_advance 72 = .ok (.ifCond .ne 6, 3) := by decide +kernel
theorem dX4_advance_75 : decode cX4_advance 75 = .ok (.bipush (-2), 2) := by decide +kernel
theorem dX4_advance_77 : decode cX4_advance 77 = .ok (.ireturn, 1) := by decide +kernel
theorem dX4_advance_78 : decode cX4_advance 78 = .ok (.aload_n 0, 1) := by decide +kernel
theorem dX4_advance_79 : decode cX4_advance 79 = .ok (.invokevirtual 65, 3) := by decide +kernel
theorem dX4_advance_82 : decode cX4_advance 82 = .ok (.ifCond .eq 42, 3) := by decide +kernel
theorem dX4_advance_85 : decode cX4_advance 85 = .ok (.iconst 1, 1) := by decide +kernel
theorem dX4_advance_86 : decode cX4_advance 86 = .ok (.ireturn, 1) := by decide +kernel
theorem dX4_advance_87 : decode cX4_advance 87 = .ok (.aload_n 0, 1) := by decide +kernel
theorem dX4_advance_88 : decode cX4_advance 88 = .ok (.getfield 45, 3) := by decide +kernel
theorem dX4_advance_91 : decode cX4_advance 91 = .ok (.ifCond .le 31, 3) := by decide +kernel
theorem dX4_advance_94 : decode cX4_advance 94 = .ok (.aload_n 0, 1) := by decide +kernel
theorem dX4_advance_95 : decode cX4_advance 95 = .ok (.dup, 1) := by decide +kernel
theorem dX4_advance_96 : decode cX4_advance 96 = .ok (.getfield 45, 3) := by decide +kernel
theorem dX4_advance_99 : decode cX4_advance 99 = .ok (.iconst 1, 1) := by decide +kernel
theorem dX4_advance_100 : decode cX4_advance 100 = .ok (.isub, 1) := by decide +kernel
theorem dX4_advance_101 : decode cX4_advance 101 = .ok (.putfield 45, 3) := by decide +kernel
theorem dX4_advance_104 : decode cX4_advance 104 = .ok (.aload_n 0, 1) := by decide +kernel
theorem dX4_advance_105 : decode cX4_advance 105 = .ok (.aload_n 0, 1) := by decide +kernel
theorem dX4_advance_106 : decode cX4_advance 106 = .ok (.getfield 9, 3) := by decide +kernel
theorem dX4_advance_109 : decode cX4_advance 109 = .ok (.aload_n 0, 1) := by decide +kernel
theorem dX4_advance_110 : decode cX4_advance 110 = .ok (.getfield 45, 3) := by decide +kernel
theorem dX4_advance_113 : decode cX4_advance 113 = .ok (.iaload, 1) := by decide +kernel
theorem dX4_advance_114 : decode cX4_advance 114 = .ok (.iconst 1, 1) := by decide +kernel
theorem dX4_advance_115 : decode cX4_advance 115 = .ok (.iadd, 1) := by decide +kernel
theorem dX4_advance_116 : decode cX4_advance 116 = .ok (.putfield 48, 3) := by decide +kernel
theorem dX4_advance_119 : decode cX4_advance 119 = .ok (.goto 5, 3) := by decide +kernel
theorem dX4_advance_122 : decode cX4_advance 122 = .ok (.iconst 0, 1) := by decide +kernel
theorem dX4_advance_123 : decode cX4_advance 123 = .ok (.ireturn, 1) := by decide +kernel
theorem dX4_advance_124 : decode cX4_advance 124 = .ok (.iinc 1 1, 3) := by decide +kernel
theorem dX4_advance_127 : decode cX4_advance 127 = .ok (.goto (-76), 3) := by decide +kernel
theorem dX4_advance_130 : decode cX4_advance 130 = .ok (.iconst 0, 1) := by decide +kernel
theorem dX4_advance_131 : decode cX4_advance 131 = .ok (.ireturn, 1) := by decide +kernel
theorem dX4_takeLook_0 : decode cX4_takeLook 0 = .ok (.aload_n 0, 1) := by decide +kernel
theorem dX4_takeLook_1 : decode cX4_takeLook 1 = .ok (.getfield 15, 3) := by decide +kernel
theorem dX4_takeLook_4 : decode cX4_takeLook 4 = .ok (.aload_n 0, 1) := by decide +kernel
theorem dX4_takeLook_5 : decode cX4_takeLook 5 = .ok (.getfield 36, 3) := by decide +kernel
theorem dX4_takeLook_8 : decode cX4_takeLook 8 = .ok (.iadd, 1) := by decide +kernel
theorem dX4_takeLook_9 : decode cX4_takeLook 9 = .ok (.sipush 20000, 3) := by decide +kernel
theorem dX4_takeLook_12 : decode cX4_takeLook 12 = .ok (.if_icmp .le 5, 3) := by decide +kernel
theorem dX4_takeLook_15 : decode cX4_takeLook 15 = .ok (.iconst 0, 1) := by decide +kernel
theorem dX4_takeLook_16 : decode cX4_takeLook 16 = .ok (.ireturn, 1) := by decide +kernel
theorem dX4_takeLook_17 : decode cX4_takeLook 17 = .ok (.aload_n 0, 1) := by decide +kernel
theorem dX4_takeLook_18 : decode cX4_takeLook 18 = .ok (.dup, 1) := by decide +kernel
theorem dX4_takeLook_19 : decode cX4_takeLook 19 = .ok (.getfield 15, 3) := by decide +kernel
theorem dX4_takeLook_22 : decode cX4_takeLook 22 = .ok (.aload_n 0, 1) := by decide +kernel
theorem dX4_takeLook_23 : decode cX4_takeLook 23 = .ok (.getfield 36, 3) := by decide +kernel
theorem dX4_takeLook_26 : decode cX4_takeLook 26 = .ok (.iadd, 1) := by decide +kernel
theorem dX4_takeLook_27 : decode cX4_takeLook 27 = .ok (.putfield 15, 3) := by decide +kernel
theorem dX4_takeLook_30 : decode cX4_takeLook 30 = .ok (.iconst 1, 1) := by decide +kernel
theorem dX4_takeLook_31 : decode cX4_takeLook 31 = .ok (.ireturn, 1) := by decide +kernel
theorem dX4_putBehind_0 : decode cX4_putBehind 0 = .ok (.aload_n 0, 1) := by decide +kernel
theorem dX4_putBehind_1 : decode cX4_putBehind 1 = .ok (.getfield 9, 3) := by decide +kernel
theorem dX4_putBehind_4 : decode cX4_putBehind 4 = .ok (.aload_n 0, 1) := by decide +kernel
theorem dX4_putBehind_5 : decode cX4_putBehind 5 = .ok (.getfield 45, 3) := by decide +kernel
theorem dX4_putBehind_8 : decode cX4_putBehind 8 = .ok (.aload_n 0, 1) := by decide +kernel
theorem dX4_putBehind_9 : decode cX4_putBehind 9 = .ok (.getfield 48, 3) := by decide +kernel
theorem dX4_putBehind_12 : decode cX4_putBehind 12 = .ok (.iastore, 1) := by decide +kernel
theorem dX4_putBehind_13 : decode cX4_putBehind 13 = .ok (.aload_n 0, 1) := by decide +kernel
theorem dX4_putBehind_14 : decode cX4_putBehind 14 = .ok (.dup, 1) := by decide +kernel
theorem dX4_putBehind_15 : decode cX4_putBehind 15 = .ok (.getfield 48, 3) := by decide +kernel
theorem dX4_putBehind_18 : decode cX4_putBehind 18 = .ok (.iconst 1, 1) := by decide +kernel
theorem dX4_putBehind_19 : decode cX4_putBehind 19 = .ok (.iadd, 1) := by decide +kernel
theorem dX4_putBehind_20 : decode cX4_putBehind 20 = .ok (.putfield 48, 3) := by decide +kernel
theorem dX4_putBehind_23 : decode cX4_putBehind 23 = .ok (.aload_n 0, 1) := by decide +kernel
theorem dX4_putBehind_24 : decode cX4_putBehind 24 = .ok (.getfield 19, 3) := by decide +kernel
theorem dX4_putBehind_27 : decode cX4_putBehind 27 = .ok (.aload_n 0, 1) := by decide +kernel
theorem dX4_putBehind_28 : decode cX4_putBehind 28 = .ok (.getfield 23, 3) := by decide +kernel
theorem dX4_putBehind_31 : decode cX4_putBehind 31 = .ok (.aload_n 0, 1) := by decide +kernel
theorem dX4_putBehind_32 : decode cX4_putBehind 32 = .ok (.getfield 9, 3) := by decide +kernel
theorem dX4_putBehind_35 : decode cX4_putBehind 35 = .ok (.aload_n 0, 1) := by decide +kernel
theorem dX4_putBehind_36 : decode cX4_putBehind 36 = .ok (.getfield 45, 3) := by decide +kernel
theorem dX4_putBehind_39 : decode cX4_putBehind 39 = .ok (.iconst 1, 1) := by decide +kernel
theorem dX4_putBehind_40 : decode cX4_putBehind 40 = .ok (.iadd, 1) := by decide +kernel
theorem dX4_putBehind_41 : decode cX4_putBehind 41 = .ok (.invokestatic 68, 3) := by decide +kernel
theorem dX4_putBehind_44 : decode cX4_putBehind 44 = .ok (.iconst (-1), 1) := by decide +kernel
theorem dX4_putBehind_45 : decode cX4_putBehind 45 = .ok (.if_icmp .eq 5, 3) := by decide +kernel
theorem dX4_putBehind_48 : decode cX4_putBehind 48 = .ok (.iconst 0, 1) := by decide +kernel
theorem dX4_putBehind_49 : decode cX4_putBehind 49 = .ok (.ireturn, 1) := by decide +kernel
theorem dX4_putBehind_50 : decode cX4_putBehind 50 = .ok (.aload_n 0, 1) := by decide +kernel
theorem dX4_putBehind_51 : decode cX4_putBehind 51 = .ok (.aload_n 0, 1) := by decide +kernel
theorem dX4_putBehind_52 : decode cX4_putBehind 52 = .ok (.getfield 42, 3) := by decide +kernel
theorem dX4_putBehind_55 : decode cX4_putBehind 55 = .ok (.aload_n 0, 1) := by decide +kernel
theorem dX4_putBehind_56 : decode cX4_putBehind 56 = .ok (.getfield 45, 3) := by decide +kernel
theorem dX4_putBehind_59 : decode cX4_putBehind 59 = .ok (.iconst 1, 1) := by decide +kernel
theorem dX4_putBehind_60 : decode cX4_putBehind 60 = .ok (.iadd, 1) := by decide +kernel
theorem dX4_putBehind_61 : decode cX4_putBehind 61 = .ok (.invokestatic 72, 3) := by decide +kernel
theorem dX4_putBehind_64 : decode cX4_putBehind 64 = .ok (.putfield 42, 3) := by decide +kernel
theorem dX4_putBehind_67 : decode cX4_putBehind 67 = .ok (.aload_n 0, 1) := by decide +kernel
theorem dX4_putBehind_68 : decode cX4_putBehind 68 = .ok (.getfield 45, 3) := by decide +kernel
theorem dX4_putBehind_71 : decode cX4_putBehind 71 = .ok (.iconst 1, 1) := by decide +kernel
theorem dX4_putBehind_72 : decode cX4_putBehind 72 = .ok (.iadd, 1) := by decide +kernel
theorem dX4_putBehind_73 : decode cX4_putBehind 73 = .ok (.aload_n 0, 1) := by decide +kernel
theorem dX4_putBehind_74 : decode cX4_putBehind 74 = .ok (.getfield 29, 3) := by decide +kernel
theorem dX4_putBehind_77 : decode cX4_putBehind 77 = .ok (.if_icmp .lt 15, 3) := by decide +kernel
theorem dX4_putBehind_80 : decode cX4_putBehind 80 = .ok (.aload_n 0, 1) := by decide +kernel
theorem dX4_putBehind_81 : decode cX4_putBehind 81 = .ok (.dup, 1) := by decide +kernel
theorem dX4_putBehind_82 : decode cX4_putBehind 82 = .ok (.getfield 39, 3) := by decide +kernel
theorem dX4_putBehind_85 : decode cX4_putBehind 85 = .ok (.iconst 1, 1) := by decide +kernel
theorem dX4_putBehind_86 : decode cX4_putBehind 86 = .ok (.iadd, 1) := by decide +kernel
theorem dX4_putBehind_87 : decode cX4_putBehind 87 = .ok (.putfield 39, 3) := by decide +kernel
theorem dX4_putBehind_90 : decode cX4_putBehind 90 = .ok (.iconst 1, 1) := by decide +kernel
theorem dX4_putBehind_91 : decode cX4_putBehind 91 = .ok (.ireturn, 1) := by decide +kernel
theorem dX4_putBehind_92 : decode cX4_putBehind 92 = .ok (.aload_n 0, 1) := by decide +kernel
theorem dX4_putBehind_93 : decode cX4_putBehind 93 = .ok (.dup, 1) := by decide +kernel
theorem dX4_putBehind_94 : decode cX4_putBehind 94 = .ok (.getfield 45, 3) := by decide +kernel
theorem dX4_putBehind_97 : decode cX4_putBehind 97 = .ok (.iconst 1, 1) := by decide +kernel
theorem dX4_putBehind_98 : decode cX4_putBehind 98 = .ok (.iadd, 1) := by decide +kernel
theorem dX4_putBehind_99 : decode cX4_putBehind 99 = .ok (.putfield 45, 3) := by decide +kernel
theorem dX4_putBehind_102 : decode cX4_putBehind 102 = .ok (.aload_n 0, 1) := by decide +kernel
theorem dX4_putBehind_103 : decode cX4_putBehind 103 = .ok (.iconst 0, 1) := by decide +kernel
theorem dX4_putBehind_104 : decode cX4_putBehind 104 = .ok (.putfield 48, 3) := by decide +kernel
theorem dX4_putBehind_107 : decode cX4_putBehind 107 = .ok (.iconst 0, 1) := by decide +kernel
theorem dX4_putBehind_108 : decode cX4_putBehind 108 = .ok (.ireturn, 1) := by decide +kernel
theorem dX5_init_0 : decode cX5_init 0 = .ok (.aload_n 0, 1) := by decide +kernel
theorem dX5_init_1 : decode cX5_init 1 = .ok (.invokespecial 3, 3) := by decide +kernel
theorem dX5_init_4 : decode cX5_init 4 = .ok (.aload_n 0, 1) := by decide +kernel
theorem dX5_init_5 : decode cX5_init 5 = .ok (.iconst 3, 1) := by decide +kernel
theorem dX5_init_6 : decode cX5_init 6 = .ok (.newarray .int, 2) := by decide +kernel
theorem dX5_init_8 : decode cX5_init 8 = .ok (.putfield 9, 3) := by decide +kernel
theorem dX5_init_11 : decode cX5_init 11 = .ok (.aload_n 0, 1) := by decide +kernel
theorem dX5_init_12 : decode cX5_init 12 = .ok (.iconst 3, 1) := by decide +kernel
theorem dX5_init_13 : decode cX5_init 13 = .ok (.newarray .int, 2) := by decide +kernel
theorem dX5_init_15 : decode cX5_init 15 = .ok (.putfield 15, 3) := by decide +kernel
theorem dX5_init_18 : decode cX5_init 18 = .ok (.aload_n 0, 1) := by decide +kernel
theorem dX5_init_19 : decode cX5_init 19 = .ok (.iconst 3, 1) := by decide +kernel
theorem dX5_init_20 : decode cX5_init 20 = .ok (.newarray .int, 2) := by decide +kernel
theorem dX5_init_22 : decode cX5_init 22 = .ok (.putfield 18, 3) := by decide +kernel
theorem dX5_init_25 : decode cX5_init 25 = .ok (.aload_n 0, 1) := by decide +kernel
theorem dX5_init_26 : decode cX5_init 26 = .ok (.iconst 3, 1) := by decide +kernel
theorem dX5_init_27 : decode cX5_init 27 = .ok (.newarray .int, 2) := by decide +kernel
theorem dX5_init_29 : decode cX5_init 29 = .ok (.putfield 21, 3) := by decide +kernel
theorem dX5_init_32 : decode cX5_init 32 = .ok (.aload_n 0, 1) := by decide +kernel
theorem dX5_init_33 : decode cX5_init 33 = .ok (.aload_n 1, 1) := by decide +kernel
theorem dX5_init_34 : decode cX5_init 34 = .ok (.putfield 24, 3) := by decide +kernel
theorem dX5_init_37 : decode cX5_init 37 = .ok (.aload_n 1, 1) := by decide +kernel
theorem dX5_init_38 : decode cX5_init 38 = .ok (.astore_n 2, 1) := by decide +kernel
theorem dX5_init_39 : decode cX5_init 39 = .ok (.aload_n 2, 1) := by decide +kernel
theorem dX5_init_40 : decode cX5_init 40 = .ok (.arraylength, 1) := by decide +kernel
theorem dX5_init_41 : decode cX5_init 41 = .ok (.istore_n 3, 1) := by decide +kernel
theorem dX5_init_42 : decode cX5_init 42 = .ok (.iconst 0, 1) := by decide +kernel
theorem dX5_init_43 : decode cX5_init 43 = .ok (.istore 4, 2) := by decide +kernel
theorem dX5_init_45 : decode cX5_init 45 = .ok (.iload 4, 2) := by decide +kernel
theorem dX5_init_47 : decode cX5_init 47 = .ok (.iload_n 3, 1) := by decide +kernel
theorem dX5_init_48 : decode cX5_init 48 = .ok (.if_icmp .ge 26, 3) := by decide +kernel
theorem dX5_init_51 : decode cX5_init 51 = .ok (.aload_n 2, 1) := by decide +kernel
theorem dX5_init_52 : decode cX5_init 52 = .ok (.iload 4, 2) := by decide +kernel
theorem dX5_init_54 : decode cX5_init 54 = .ok (.iaload, 1) := by decide +kernel
theorem dX5_init_55 : decode cX5_init 55 = .ok (.istore 5, 2) := by decide +kernel
theorem dX5_init_57 : decode cX5_init 57 = .ok (.aload_n 0, 1) := by decide +kernel
theorem dX5_init_58 : decode cX5_init 58 = .ok (.getfield 9, 3) := by decide +kernel
theorem dX5_init_61 : decode cX5_init 61 = .ok (.iload 5, 2) := by decide +kernel
theorem dX5_init_63 : decode cX5_init 63 = .ok (.dup2, 1) := by decide +kernel
theorem dX5_init_64 : decode cX5_init 64 = .ok (.iaload, 1) := by decide +kernel
theorem dX5_init_65 : decode cX5_init 65 = .ok (.iconst 1, 1) := by decide +kernel
theorem dX5_init_66 : decode cX5_init 66 = .ok (.iadd, 1) := by decide +kernel
theorem dX5_init_67 : decode cX5_init 67 = .ok (.iastore, 1) := by decide +kernel
theorem dX5_init_68 : decode cX5_init 68 = .ok (.iinc 4 1, 3) := by decide +kernel
theorem dX5_init_71 : decode cX5_init 71 = .ok (.goto (-26), 3) := by decide +kernel
theorem dX5_init_74 : decode cX5_init 74 = .ok (.aload_n 1, 1) := by decide +kernel
theorem dX5_init_75 : decode cX5_init 75 = .ok (.arraylength, 1) := by decide +kernel
theorem dX5_init_76 : decode cX5_init 76 = .ok (.istore_n 2, 1) := by decide +kernel
theorem dX5_init_77 : decode cX5_init 77 = .ok (.iload_n 2, 1) := by decide +kernel
theorem dX5_init_78 : decode cX5_init 78 = .ok (.ifCond .le 23, 3) := by decide +kernel
theorem dX5_init_81 : decode cX5_init 81 = .ok (.aload_n 0, 1) := by decide +kernel
theorem dX5_init_82 : decode cX5_init 82 = .ok (.getfield 9, 3) := by decide +kernel
theorem dX5_init_85 : decode cX5_init 85 = .ok (.aload_n 1, 1) := by decide +kernel
theorem dX5_init_86 : decode cX5_init 86 = .ok (.iload_n 2, 1) := by decide +kernel
theorem dX5_init_87 : decode cX5_init 87 = .ok (.iconst 1, 1) := by decide +kernel
theorem dX5_init_88 : decode cX5_init 88 = .ok (.isub, 1) := by decide +kernel
theorem dX5_init_89 : decode cX5_init 89 = .ok (.iaload, 1) := by decide +kernel
theorem dX5_init_90 : decode cX5_init 90 = .ok (.iaload, 1) := by decide +kernel
theorem dX5_init_91 : decode cX5_init 91 = .ok (.iconst 1, 1) := by decide +kernel
theorem dX5_init_92 : decode cX5_init 92 = .ok (.if_icmp .ne 9, 3) := by decide +kernel
theorem dX5_init_95 : decode cX5_init 95 = .ok (.iinc 2 (-1), 3) := by decide +kernel
theorem dX5_init_98 : decode cX5_init 98 = .ok (.goto (-21), 3) := by decide +kernel
theorem dX5_init_101 : decode cX5_init 101 = .ok (.aload_n 0, 1) := by decide +kernel
theorem dX5_init_102 : decode cX5_init 102 = .ok (.iload_n 2, 1) := by decide +kernel
theorem dX5_init_103 : decode cX5_init 103 = .ok (.putfield 27, 3) := by decide +kernel
theorem dX5_init_106 : decode cX5_init 106 = .ok (.return_, 1) := by decide +kernel
theorem dX5_shortest_0 : decode cX5_shortest 0 = .ok (.aload_n 0, 1) := by decide +kernel
theorem dX5_shortest_1 : decode cX5_shortest 1 = .ok (.iload_n 2, 1) := by decide +kernel
theorem dX5_shortest_2 : decode cX5_shortest 2 = .ok (.iconst 1, 1) := by decide +kernel
theorem dX5_shortest_3 : decode cX5_shortest 3 = .ok (.iadd, 1) := by decide +kernel
theorem dX5_shortest_4 : decode cX5_shortest 4 = .ok (.putfield 31, 3) := by decide +kernel
theorem dX5_shortest_7 : decode cX5_shortest 7 = .ok (.aload_n 0, 1) := by decide +kernel
theorem dX5_shortest_8 : decode cX5_shortest 8 = .ok (.aload_n 1, 1) := by decide +kernel
theorem dX5_shortest_9 : decode cX5_shortest 9 = .ok (.iload_n 2, 1) := by decide +kernel
theorem dX5_shortest_10 : decode cX5_shortest 10 = .ok (.aload_n 0, 1) := by decide +kernel
theorem dX5_shortest_11 : decode cX5_shortest 11 = .ok (.getfield 24, 3) := by decide +kernel
theorem dX5_shortest_14 : decode cX5_shortest 14 = .ok (.arraylength, 1) := by decide +kernel
theorem dX5_shortest_15 : decode cX5_shortest 15 = .ok (.iconst 1, 1) := by decide +kernel
theorem dX5_shortest_16 : decode cX5_shortest 16 = .ok (.isub, 1) := by decide +kernel
theorem dX5_shortest_17 : decode cX5_shortest 17 = .ok (.aload_n 0, 1) := by decide +kernel
theorem dX5_shortest_18 : decode cX5_shortest 18 = .ok (.getfield 24, 3) := by decide +kernel
theorem dX5_shortest_21 : decode cX5_shortest 21 = .ok (.arraylength, 1) := by decide +kernel
theorem dX5_shortest_22 : decode cX5_shortest 22 = .ok (.invokevirtual 34, 3) := by decide +kernel
theorem dX5_shortest_25 : decode cX5_shortest 25 = .ok (.aload_n 0, 1) := by decide +kernel
theorem dX5_shortest_26 : decode cX5_shortest 26 = .ok (.getfield 31, 3) := by decide +kernel
theorem dX5_shortest_29 : decode cX5_shortest 29 = .ok (.iload_n 2, 1) := by decide +kernel
theorem dX5_shortest_30 : decode cX5_shortest 30 = .ok (.if_icmp .le 7, 3) := by decide +kernel
theorem dX5_shortest_33 : decode cX5_shortest 33 = .ok (.iconst 0, 1) := by decide +kernel
theorem dX5_shortest_34 : decode cX5_shortest 34 = .ok (.goto 7, 3) := by decide +kernel
theorem dX5_shortest_37 : decode cX5_shortest 37 = .ok (.aload_n 0, 1) := by decide +kernel
theorem dX5_shortest_38 : decode cX5_shortest 38 = .ok (.getfield 31, 3) := by decide +kernel
theorem dX5_shortest_41 : decode cX5_shortest 41 = .ok (.ireturn, 1) := by decide +kernel
theorem dX5_fit_0 : decode cX5_fit 0 = .ok (.iload_n 3, 1) := by decide +kernel
theorem dX5_fit_1 : decode cX5_fit 1 = .ok (.ifCond .ge 10, 3) := by decide +kernel
theorem dX5_fit_4 : decode cX5_fit 4 = .ok (.aload_n 0, 1) := by decide +kernel
theorem dX5_fit_5 : decode cX5_fit 5 = .ok (.iload 4, 2) := by decide +kernel
theorem dX5_fit_7 : decode cX5_fit 7 = .ok (.putfield 31, 3) := by decide +kernel
theorem dX5_fit_10 : decode cX5_fit 10 = .ok (.return_, 1) := by decide +kernel
theorem dX5_fit_11 : decode cX5_fit 11 = .ok (.aload_n 0, 1) := by decide +kernel
theorem dX5_fit_12 : decode cX5_fit 12 = .ok (.getfield 24, 3) := by decide +kernel
theorem dX5_fit_15 : decode cX5_fit 15 = .ok (.iload_n 3, 1) := by decide +kernel
theorem dX5_fit_16 : decode cX5_fit 16 = .ok (.iaload, 1) := by decide +kernel
theorem dX5_fit_17 : decode cX5_fit 17 = .ok (.istore 5, 2) := by decide +kernel
theorem dX5_fit_19 : decode cX5_fit 19 = .ok (.aload_n 0, 1) := by decide +kernel
theorem dX5_fit_20 : decode cX5_fit 20 = .ok (.getfield 15, 3) := by decide +kernel
theorem dX5_fit_23 : decode cX5_fit 23 = .ok (.iload 5, 2) := by decide +kernel
theorem dX5_fit_25 : decode cX5_fit 25 = .ok (.iaload, 1) := by decide +kernel
theorem dX5_fit_26 : decode cX5_fit 26 = .ok (.ifCond .le 45, 3) := by decide +kernel
theorem dX5_fit_29 : decode cX5_fit 29 = .ok (.aload_n 1, 1) := by decide +kernel
theorem dX5_fit_30 : decode cX5_fit 30 = .ok (.iload_n 2, 1) := by decide +kernel
theorem dX5_fit_31 : decode cX5_fit 31 = .ok (.aload_n 0, 1) := by decide +kernel
theorem dX5_fit_32 : decode cX5_fit 32 = .ok (.getfield 18, 3) := by decide +kernel
theorem dX5_fit_35 : decode cX5_fit 35 = .ok (.iload 5, 2) := by decide +kernel
theorem dX5_fit_37 : decode cX5_fit 37 = .ok (.iaload, 1) := by decide +kernel
theorem dX5_fit_38 : decode cX5_fit 38 = .ok (.aload_n 0, 1) := by decide +kernel
theorem dX5_fit_39 : decode cX5_fit 39 = .ok (.getfield 15, 3) := by decide +kernel
theorem dX5_fit_42 : decode cX5_fit 42 = .ok (.iload 5, 2) := by decide +kernel
theorem dX5_fit_44 : decode cX5_fit 44 = .ok (.iaload, 1) := by decide +kernel
theorem dX5_fit_45 : decode cX5_fit 45 = .ok (.invokestatic 38, 3) := by decide +kernel
theorem dX5_fit_48 : decode cX5_fit 48 = .ok (.ifCond .eq 22, 3) := by decide +kernel
theorem dX5_fit_51 : decode cX5_fit 51 = .ok (.aload_n 0, 1) := by decide +kernel
theorem dX5_fit_52 : decode cX5_fit 52 = .ok (.aload_n 1, 1) := by decide +kernel
theorem dX5_fit_53 : decode cX5_fit 53 = .ok (.iload_n 2, 1) := by decide +kernel
theorem dX5_fit_54 : decode cX5_fit 54 = .ok (.aload_n 0, 1) := by decide +kernel
theorem dX5_fit_55 : decode cX5_fit 55 = .ok (.getfield 15, 3) := by decide +kernel
theorem dX5_fit_58 : decode cX5_fit 58 = .ok (.iload 5, 2) := by decide +kernel
theorem dX5_fit_60 : decode cX5_fit 60 = .ok (.iaload, 1) := by decide +kernel
theorem dX5_fit_61 : decode cX5_fit 61 = .ok (.isub, 1) := by decide +kernel
theorem dX5_fit_62 : decode cX5_fit 62 = .ok (.iload_n 3, 1) := by decide +kernel
theorem dX5_fit_63 : decode cX5_fit 63 = .ok (.iconst 1, 1) := by decide +kernel
theorem dX5_fit_64 : decode cX5_fit 64 = .ok (.isub, 1) := by decide +kernel
theorem dX5_fit_65 : decode cX5_fit 65 = .ok (.iload 4, 2) := by decide +kernel
theorem dX5_fit_67 : decode cX5_fit 67 = .ok (.invokevirtual 34, 3) := by decide +kernel
theorem dX5_fit_70 : decode cX5_fit 70 = .ok (.return_, 1) := by decide +kernel
theorem dX5_fit_71 : decode cX5_fit 71 = .ok (.aload_n 0, 1) := by decide +kernel
theorem dX5_fit_72 : decode cX5_fit 72 = .ok (.getfield 18, 3) := by decide +kernel
theorem dX5_fit_75 : decode cX5_fit 75 = .ok (.iload 5, 2) := by decide +kernel
theorem dX5_fit_77 : decode cX5_fit 77 = .ok (.iload_n 2, 1) := by decide +kernel
theorem dX5_fit_78 : decode cX5_fit 78 = .ok (.iastore, 1) := by decide +kernel
theorem dX5_fit_79 : decode cX5_fit 79 = .ok (.aload_n 0, 1) := by decide +kernel
theorem dX5_fit_80 : decode cX5_fit 80 = .ok (.aload_n 1, 1) := by decide +kernel
theorem dX5_fit_81 : decode cX5_fit 81 = .ok (.iload_n 2, 1) := by decide +kernel
theorem dX5_fit_82 : decode cX5_fit 82 = .ok (.iload_n 3, 1) := by decide +kernel
theorem dX5_fit_83 : decode cX5_fit 83 = .ok (.invokevirtual 42, 3) := by decide +kernel
theorem dX5_fit_86 : decode cX5_fit 86 = .ok (.istore 6, 2) := by decide +kernel
theorem dX5_fit_88 : decode cX5_fit 88 = .ok (.iconst 1, 1) := by decide +kernel
theorem dX5_fit_89 : decode cX5_fit 89 = .ok (.istore 7, 2) := by decide +kernel
theorem dX5_fit_91 : decode cX5_fit 91 = .ok (.iload 7, 2) := by decide +kernel
theorem dX5_fit_93 : decode cX5_fit 93 = .ok (.iload 6, 2) := by decide +kernel
theorem dX5_fit_95 : decode cX5_fit 95 = .ok (.if_icmp .gt 67, 3) := by decide +kernel
theorem dX5_fit_98 : decode cX5_fit 98 = .ok (.iload 4, 2) := by decide +kernel
theorem dX5_fit_100 : decode cX5_fit 100 = .ok (.iload 7, 2) := by decide +kernel
theorem dX5_fit_102 : decode cX5_fit 102 = .ok (.iconst 1, 1) := by decide +kernel
theorem dX5_fit_103 : decode cX5_fit 103 = .ok (.isub, 1) := by decide +kernel
theorem dX5_fit_104 : decode cX5_fit 104 = .ok (.aload_n 0, 1) := by decide +kernel
theorem dX5_fit_105 : decode cX5_fit 105 = .ok (.getfield 9, 3) := by decide +kernel
theorem dX5_fit_108 : decode cX5_fit 108 = .ok (.iload 5, 2) := by decide +kernel
theorem dX5_fit_110 : decode cX5_fit 110 = .ok (.iaload, 1) := by decide +kernel
theorem dX5_fit_111 : decode cX5_fit 111 = .ok (.imul, 1) := by decide +kernel
theorem dX5_fit_112 : decode cX5_fit 112 = .ok (.iadd, 1) := by decide +kernel
theorem dX5_fit_113 : decode cX5_fit 113 = .ok (.aload_n 0, 1) := by decide +kernel
theorem dX5_fit_114 : decode cX5_fit 114 = .ok (.getfield 31, 3) := by decide +kernel
theorem dX5_fit_117 : decode cX5_fit 117 = .ok (.if_icmp .ge 45, 3) := by decide +kernel
theorem dX5_fit_120 : decode cX5_fit 120 = .ok (.aload_n 0, 1) := by decide +kernel
theorem dX5_fit_121 : decode cX5_fit 121 = .ok (.getfield 15, 3) := by decide +kernel
theorem dX5_fit_124 : decode cX5_fit 124 = .ok (.iload 5, 2) := by decide +kernel
theorem dX5_fit_126 : decode cX5_fit 126 = .ok (.iload 7, 2) := by decide +kernel
theorem dX5_fit_128 : decode cX5_fit 128 = .ok (.iastore, 1) := by decide +kernel
theorem dX5_fit_129 : decode cX5_fit 129 = .ok (.aload_n 0, 1) := by decide +kernel
theorem dX5_fit_130 : decode cX5_fit 130 = .ok (.aload_n 1, 1) := by decide +kernel
theorem dX5_fit_131 : decode cX5_fit 131 = .ok (.iload_n 2, 1) := by decide +kernel
theorem dX5_fit_132 : decode cX5_fit 132 = .ok (.iload 7, 2) := by decide +kernel
theorem dX5_fit_134 : decode cX5_fit 134 = .ok (.isub, 1) := by decide +kernel
theorem dX5_fit_135 : decode cX5_fit 135 = .ok (.iload_n 3, 1) := by decide +kernel
theorem dX5_fit_136 : decode cX5_fit 136 = .ok (.iconst 1, 1) := by decide +kernel
theorem dX5_fit_137 : decode cX5_fit 137 = .ok (.isub, 1) := by decide +kernel
theorem dX5_fit_138 : decode cX5_fit 138 = .ok (.iload 4, 2) := by decide +kernel
theorem dX5_fit_140 : decode cX5_fit 140 = .ok (.iload 7, 2) := by decide +kernel
theorem dX5_fit_142 : decode cX5_fit 142 = .ok (.iconst 1, 1) := by decide +kernel
theorem dX5_fit_143 : decode cX5_fit 143 = .ok (.isub, 1) := by decide +kernel
theorem dX5_fit_144 : decode cX5_fit 144 = .ok (.aload_n 0, 1) := by decide +kernel
theorem dX5_fit_145 : decode cX5_fit 145 = .ok (.getfield 9, 3) := by decide +kernel
theorem dX5_fit_148 : decode cX5_fit 148 = .ok (.iload 5, 2) := by decide +kernel
theorem dX5_fit_150 : decode cX5_fit 150 = .ok (.iaload, 1) := by decide +kernel
theorem dX5_fit_151 : decode cX5_fit 151 = .ok (.imul, 1) := by decide +kernel
theorem dX5_fit_152 : decode cX5_fit 152 = .ok (.iadd, 1) := by decide +kernel
theorem dX5_fit_153 : decode cX5_fit 153 = .ok (.invokevirtual 34, 3) := by decide +kernel
theorem dX5_fit_156 : decode cX5_fit 156 = .ok (.iinc 7 1, 3) := by decide +kernel
theorem dX5_fit_159 : decode cX5_fit 159 = .ok (.goto (-68), 3) := by decide +kernel
theorem dX5_fit_162 : decode cX5_fit 162 = .ok (.aload_n 0, 1) := by decide +kernel
theorem dX5_fit_163 : decode cX5_fit 163 = .ok (.getfield 15, 3) := by decide +kernel
theorem dX5_fit_166 : decode cX5_fit 166 = .ok (.iload 5, 2) := by decide +kernel
theorem dX5_fit_168 : decode cX5_fit 168 = .ok (.iconst 0, 1) := by decide +kernel
theorem dX5_fit_169 : decode cX5_fit 169 = .ok (.iastore, 1) := by decide +kernel
theorem dX5_fit_170 : decode cX5_fit 170 = .ok (.return_, 1) := by decide +kernel
theorem dX5_mostFor_0 : decode cX5_mostFor 0 = .ok (.iload_n 3, 1) := by decide +kernel
theorem dX5_mostFor_1 : decode cX5_mostFor 1 = .ok (.aload_n 0, 1) := by decide +kernel
theorem dX5_mostFor_2 : decode cX5_mostFor 2 = .ok (.getfield 27, 3) := by decide +kernel
theorem dX5_mostFor_5 : decode cX5_mostFor 5 = .ok (.if_icmp .lt 5, 3) := by decide +kernel
theorem dX5_mostFor_8 : decode cX5_mostFor 8 = .ok (.iconst 1, 1) := by decide +kernel
theorem dX5_mostFor_9 : decode cX5_mostFor 9 = .ok (.ireturn, 1) := by decide +kernel
theorem dX5_mostFor_10 : decode cX5_mostFor 10 = .ok (.aload_n 0, 1) := by decide +kernel
theorem dX5_mostFor_11 : decode cX5_mostFor 11 = .ok (.getfield 9, 3) := by decide +kernel
theorem dX5_mostFor_14 : decode cX5_mostFor 14 = .ok (.aload_n 0, 1) := by decide +kernel
theorem dX5_mostFor_15 : decode cX5_mostFor 15 = .ok (.getfield 24, 3) := by decide +kernel
theorem dX5_mostFor_18 : decode cX5_mostFor 18 = .ok (.iload_n 3, 1) := by decide +kernel
theorem dX5_mostFor_19 : decode cX5_mostFor 19 = .ok (.iaload, 1) := by decide +kernel
theorem dX5_mostFor_20 : decode cX5_mostFor 20 = .ok (.iaload, 1) := by decide +kernel
theorem dX5_mostFor_21 : decode cX5_mostFor 21 = .ok (.iconst 1, 1) := by decide +kernel
theorem dX5_mostFor_22 : decode cX5_mostFor 22 = .ok (.if_icmp .ne 5, 3) := by decide +kernel
theorem dX5_mostFor_25 : decode cX5_mostFor 25 = .ok (.iload_n 2, 1) := by decide +kernel
theorem dX5_mostFor_26 : decode cX5_mostFor 26 = .ok (.ireturn, 1) := by decide +kernel
theorem dX5_mostFor_27 : decode cX5_mostFor 27 = .ok (.iconst 0, 1) := by decide +kernel
theorem dX5_mostFor_28 : decode cX5_mostFor 28 = .ok (.istore 4, 2) := by decide +kernel
theorem dX5_mostFor_30 : decode cX5_mostFor 30 = .ok (.iload_n 2, 1) := by decide +kernel
theorem dX5_mostFor_31 : decode cX5_mostFor 31 = .ok (.iconst 1, 1) := by decide +kernel
theorem dX5_mostFor_32 : decode cX5_mostFor 32 = .ok (.isub, 1) := by decide +kernel
theorem dX5_mostFor_33 : decode cX5_mostFor 33 = .ok (.istore 5, 2) := by decide +kernel
theorem dX5_mostFor_35 : decode cX5_mostFor 35 = .ok (.iload 5, 2) := by decide +kernel
theorem dX5_mostFor_37 : decode cX5_mostFor 37 = .ok (.iload 4, 2) := by decide +kernel
theorem dX5_mostFor_39 : decode cX5_mostFor 39 = .ok (.if_icmp .le 70, 3) := by decide +kernel
theorem dX5_mostFor_42 : decode cX5_mostFor 42 = .ok (.iconst 0, 1) := by decide +kernel
theorem dX5_mostFor_43 : decode cX5_mostFor 43 = .ok (.istore 6, 2) := by decide +kernel
theorem dX5_mostFor_45 : decode cX5_mostFor 45 = .ok (.iload 6, 2) := by decide +kernel
theorem dX5_mostFor_47 : decode cX5_mostFor 47 = .ok (.iload 5, 2) := by decide +kernel
theorem dX5_mostFor_49 : decode cX5_mostFor 49 = .ok (.if_icmp .ge 38, 3) := by decide +kernel
theorem dX5_mostFor_52 : decode cX5_mostFor 52 = .ok (.iload 6, 2) := by decide +kernel
theorem dX5_mostFor_54 : decode cX5_mostFor 54 = .ok (.iload_n 2, 1) := by decide +kernel
theorem dX5_mostFor_55 : decode cX5_mostFor 55 = .ok (.iload 5, 2) := by decide +kernel
theorem dX5_mostFor_57 : decode cX5_mostFor 57 = .ok (.isub, 1) := by decide +kernel
theorem dX5_mostFor_58 : decode cX5_mostFor 58 = .ok (.if_icmp .ge 29, 3) := by decide +kernel
theorem dX5_mostFor_61 : decode cX5_mostFor 61 = .ok (.aload_n 1, 1) := by decide +kernel
theorem dX5_mostFor_62 : decode cX5_mostFor 62 = .ok (.iload_n 2, 1) := by decide +kernel
theorem dX5_mostFor_63 : decode cX5_mostFor 63 = .ok (.iconst 1, 1) := by decide +kernel
theorem dX5_mostFor_64 : decode cX5_mostFor 64 = .ok (.isub, 1) := by decide +kernel
theorem dX5_mostFor_65 : decode cX5_mostFor 65 = .ok (.iload 6, 2) := by decide +kernel
theorem dX5_mostFor_67 : decode cX5_mostFor 67 = .ok (.isub, 1) := by decide +kernel
theorem dX5_mostFor_68 : decode cX5_mostFor 68 = .ok (.iaload, 1) := by decide +kernel
theorem dX5_mostFor_69 : decode cX5_mostFor 69 = .ok (.aload_n 1, 1) := by decide +kernel
theorem dX5_mostFor_70 : decode cX5_mostFor 70 = .ok (.iload 5, 2) := by decide +kernel
theorem dX5_mostFor_72 : decode cX5_mostFor 72 = .ok (.iconst 1, 1) := by decide +kernel
theorem dX5_mostFor_73 : decode cX5_mostFor 73 = .ok (.isub, 1) := by decide +kernel
theorem dX5_mostFor_74 : decode cX5_mostFor 74 = .ok (.iload 6, 2) := by decide +kernel
theorem dX5_mostFor_76 : decode cX5_mostFor 76 = .ok (.isub, 1) := by decide +kernel
theorem dX5_mostFor_77 : decode cX5_mostFor 77 = .ok (.iaload, 1) := by decide +kernel
theorem dX5_mostFor_78 : decode cX5_mostFor 78 = .ok (.if_icmp .ne 9, 3) := by decide +kernel
theorem dX5_mostFor_81 : decode cX5_mostFor 81 = .ok (.iinc 6 1, 3) := by decide +kernel
theorem dX5_mostFor_84 : decode cX5_mostFor 84 = .ok (.goto (-39), 3) := by decide +kernel
theorem dX5_mostFor_87 : decode cX5_mostFor 87 = .ok (.iload 6, 2) := by decide +kernel
theorem dX5_mostFor_89 : decode cX5_mostFor 89 = .ok (.iload 4, 2) := by decide +kernel
theorem dX5_mostFor_91 : decode cX5_mostFor 91 = .ok (.if_icmp .le 8, 3) := by decide +kernel
theorem dX5_mostFor_94 : decode cX5_mostFor 94 = .ok (.iload 6, 2) := by decide +kernel
theorem dX5_mostFor_96 : decode cX5_mostFor 96 = .ok (.goto 5, 3) := by decide +kernel
theorem dX5_mostFor_99 : decode cX5_mostFor 99 = .ok (.iload 4, 2) := by decide +kernel
theorem dX5_mostFor_101 : decode cX5_mostFor 101 = .ok (.istore 4, 2) := by decide +kernel
theorem dX5_mostFor_103 : decode cX5_mostFor 103 = .ok (.iinc 5 (-1), 3) := by decide +kernel
theorem dX5_mostFor_106 : decode cX5_mostFor 106 = .ok (.goto (-71), 3) := by decide +kernel
theorem dX5_mostFor_109 : decode cX5_mostFor 109 = .ok (.iload 4, 2) := by decide +kernel
theorem dX5_mostFor_111 : decode cX5_mostFor 111 = .ok (.ireturn, 1) := by decide +kernel
theorem dX5_areSame_0 : decode cX5_areSame 0 = .ok (.iload_n 3, 1) := by decide +kernel
theorem dX5_areSame_1 : decode cX5_areSame 1 = .ok (.iload_n 1, 1) := by decide +kernel
theorem dX5_areSame_2 : decode cX5_areSame 2 = .ok (.if_icmp .gt 8, 3) := by decide +kernel
theorem dX5_areSame_5 : decode cX5_areSame 5 = .ok (.iload_n 3, 1) := by decide +kernel
theorem dX5_areSame_6 : decode cX5_areSame 6 = .ok (.iload_n 2, 1) := by decide +kernel
theorem dX5_areSame_7 : decode cX5_areSame 7 = .ok (.if_icmp .le 5, 3) := by decide +kernel
theorem dX5_areSame_10 : decode cX5_areSame 10 = .ok (.iconst 0, 1) := by decide +kernel
theorem dX5_areSame_11 : decode cX5_areSame 11 = .ok (.ireturn, 1) := by decide +kernel
theorem dX5_areSame_12 : decode cX5_areSame 12 = .ok (.iconst 1, 1) := by decide +kernel
theorem dX5_areSame_13 : decode cX5_areSame 13 = .ok (.istore 4, 2) := by decide +kernel
theorem dX5_areSame_15 : decode cX5_areSame 15 = .ok (.iload 4, 2) := by decide +kernel
theorem dX5_areSame_17 : decode cX5_areSame 17 = .ok (.iload_n 3, 1) := by decide +kernel
theorem dX5_areSame_18 : decode cX5_areSame 18 = .ok (.if_icmp .gt 26, 3) := by decide +kernel
theorem dX5_areSame_21 : decode cX5_areSame 21 = .ok (.aload_n 0, 1) := by decide +kernel
theorem dX5_areSame_22 : decode cX5_areSame 22 = .ok (.iload_n 1, 1) := by decide +kernel
theorem dX5_areSame_23 : decode cX5_areSame 23 = .ok (.iload 4, 2) := by decide +kernel
theorem dX5_areSame_25 : decode cX5_areSame 25 = .ok (.isub, 1) := by decide +kernel
theorem dX5_areSame_26 : decode cX5_areSame 26 = .ok (.iaload, 1) := by decide +kernel
theorem dX5_areSame_27 : decode cX5_areSame 27 = .ok (.aload_n 0, 1) := by decide +kernel
theorem dX5_areSame_28 : decode cX5_areSame 28 = .ok (.iload_n 2, 1) := by decide +kernel
theorem dX5_areSame_29 : decode cX5_areSame 29 = .ok (.iload 4, 2) := by decide +kernel
theorem dX5_areSame_31 : decode cX5_areSame 31 = .ok (.isub, 1) := by decide +kernel
theorem dX5_areSame_32 : decode cX5_areSame 32 = .ok (.iaload, 1) := by decide +kernel
theorem dX5_areSame_33 : decode cX5_areSame 33 = .ok (.if_icmp .eq 5, 3) := by decide +kernel
theorem dX5_areSame_36 : decode cX5_areSame 36 = .ok (.iconst 0, 1) := by decide +kernel
theorem dX5_areSame_37 : decode cX5_areSame 37 = .ok (.ireturn, 1) := by decide +kernel
theorem dX5_areSame_38 : decode cX5_areSame 38 = .ok (.iinc 4 1, 3) := by decide +kernel
theorem dX5_areSame_41 : decode cX5_areSame 41 = .ok (.goto (-26), 3) := by decide +kernel
theorem dX5_areSame_44 : decode cX5_areSame 44 = .ok (.iconst 1, 1) := by decide +kernel
theorem dX5_areSame_45 : decode cX5_areSame 45 = .ok (.ireturn, 1) := by decide +kernel
theorem dX5_unknowns_0 : decode cX5_unknowns 0 = .ok (.iconst 0, 1) := by decide +kernel
theorem dX5_unknowns_1 : decode cX5_unknowns 1 = .ok (.istore_n 1, 1) := by decide +kernel
theorem dX5_unknowns_2 : decode cX5_unknowns 2 = .ok (.aload_n 0, 1) := by decide +kernel
theorem dX5_unknowns_3 : decode cX5_unknowns 3 = .ok (.getfield 24, 3) := by decide +kernel
theorem dX5_unknowns_6 : decode cX5_unknowns 6 = .ok (.astore_n 2, 1) := by decide +kernel
theorem dX5_unknowns_7 : decode cX5_unknowns 7 = .ok (.aload_n 2, 1) := by decide +kernel
theorem dX5_unknowns_8 : decode cX5_unknowns 8 = .ok (.arraylength, 1) := by decide +kernel
theorem dX5_unknowns_9 : decode cX5_unknowns 9 = .ok (.istore_n 3, 1) := by decide +kernel
theorem dX5_unknowns_10 : decode cX5_unknowns 10 = .ok (.iconst 0, 1) := by decide +kernel
theorem dX5_unknowns_11 : decode cX5_unknowns 11 = .ok (.istore 4, 2) := by decide +kernel
theorem dX5_unknowns_13 : decode cX5_unknowns 13 = .ok (.iload 4, 2) := by decide +kernel
theorem dX5_unknowns_15 : decode cX5_unknowns 15 = .ok (.iload_n 3, 1) := by decide +kernel
theorem dX5_unknowns_16 : decode cX5_unknowns 16 = .ok (.if_icmp .ge 22, 3) := by decide +kernel
theorem dX5_unknowns_19 : decode cX5_unknowns 19 = .ok (.aload_n 2, 1) := by decide +kernel
theorem dX5_unknowns_20 : decode cX5_unknowns 20 = .ok (.iload 4, 2) := by decide +kernel
theorem dX5_unknowns_22 : decode cX5_unknowns 22 = .ok (.iaload, 1) := by decide +kernel
theorem dX5_unknowns_23 : decode cX5_unknowns 23 = .ok (.istore 5, 2) := by decide +kernel
theorem dX5_unknowns_25 : decode cX5_unknowns 25 = .ok (.iload_n 1, 1) := by decide +kernel
theorem dX5_unknowns_26 : decode cX5_unknowns 26 = .ok (.iconst 1, 1) := by decide +kernel
theorem dX5_unknowns_27 : decode cX5_unknowns 27 = .ok (.iload 5, 2) := by decide +kernel
theorem dX5_unknowns_29 : decode cX5_unknowns 29 = .ok (.ishl, 1) := by decide +kernel
theorem dX5_unknowns_30 : decode cX5_unknowns 30 = .ok (.ior, 1) := by decide +kernel
theorem dX5_unknowns_31 : decode cX5_unknowns 31 = .ok (.istore_n 1, 1) := by decide +kernel
theorem dX5_unknowns_32 : decode cX5_unknowns 32 = .ok (.iinc 4 1, 3) := by decide +kernel
theorem dX5_unknowns_35 : decode cX5_unknowns 35 = .ok (.goto (-22), 3) := by decide +kernel
theorem dX5_unknowns_38 : decode cX5_unknowns 38 = .ok (.iload_n 1, 1) := by decide +kernel
theorem dX5_unknowns_39 : decode cX5_unknowns 39 = .ok (.ireturn, 1) := by decide +kernel
theorem dX5_standsInZimin_0 : decode cX5_standsInZimin 0 = .ok (.iconst 1, 1) := by decide +kernel
theorem dX5_standsInZimin_1 : decode cX5_standsInZimin 1 = .ok (.aload_n 0, 1) := by decide +kernel
theorem dX5_standsInZimin_2 : decode cX5_standsInZimin 2 = .ok (.invokevirtual 46, 3) := by decide +kernel
theorem dX5_standsInZimin_5 : decode cX5_standsInZimin 5 = .ok (.invokestatic 50, 3) := by decide +kernel
theorem dX5_standsInZimin_8 : decode cX5_standsInZimin 8 = .ok (.ishl, 1) := by decide +kernel
theorem dX5_standsInZimin_9 : decode cX5_standsInZimin 9 = .ok (.iconst 1, 1) := by decide +kernel
theorem dX5_standsInZimin_10 : decode cX5_standsInZimin 10 = .ok (.isub, 1) := by decide +kernel
theorem dX5_standsInZimin_11 : decode cX5_standsInZimin 11 = .ok (.istore_n 1, 1) := by decide +kernel
theorem dX5_standsInZimin_12 : decode cX5_standsInZimin 12 = .ok (.iconst 1, 1) := by decide +kernel
theorem dX5_standsInZimin_13 : decode cX5_standsInZimin 13 = .ok (.istore_n 2, 1) := by decide +kernel
theorem dX5_standsInZimin_14 : decode cX5_standsInZimin 14 = .ok (.iload_n 2, 1) := by decide +kernel
theorem dX5_standsInZimin_15 : decode cX5_standsInZimin 15 = .ok (.iload_n 1, 1) := by decide +kernel
theorem dX5_standsInZimin_16 : decode cX5_standsInZimin 16 = .ok (.if_icmp .gt 30, 3) := by decide +kernel
theorem dX5_standsInZimin_19 : decode cX5_standsInZimin 19 = .ok (.iload_n 2, 1) := by decide +kernel
theorem dX5_standsInZimin_20 : decode cX5_standsInZimin 20 = .ok (.getstatic 56, 3) := by decide +kernel
theorem dX5_standsInZimin_23 : decode cX5_standsInZimin 23 = .ok (.arraylength, 1) := by decide +kernel
theorem dX5_standsInZimin_24 : decode cX5_standsInZimin 24 = .ok (.if_icmp .gt 22, 3) := by decide +kernel
theorem dX5_standsInZimin_27 : decode cX5_standsInZimin 27 = .ok (.aload_n 0, 1) := by decide +kernel
theorem dX5_standsInZimin_28 : decode cX5_standsInZimin 28 = .ok (.getstatic 56, 3) := by decide +kernel
theorem dX5_standsInZimin_31 : decode cX5_standsInZimin 31 = .ok (.iload_n 2, 1) := by decide +kernel
theorem dX5_standsInZimin_32 : decode cX5_standsInZimin 32 = .ok (.invokevirtual 59, 3) := by decide +kernel
theorem dX5_standsInZimin_35 : decode cX5_standsInZimin 35 = .ok (.ifCond .le 5, 3) := by decide +kernel
theorem dX5_standsInZimin_38 : decode cX5_standsInZimin 38 = .ok (.iconst 1, 1) := by decide +kernel
theorem dX5_standsInZimin_39 : decode cX5_standsInZimin 39 = .ok (.ireturn, 1) := by decide +kernel
theorem dX5_standsInZimin_40 : decode cX5_standsInZimin 40 = .ok (.iinc 2 1, 3) := by decide +kernel
theorem dX5_standsInZimin_43 : decode cX5_standsInZimin 43 = .ok (.goto (-29), 3) := by decide +kernel
theorem dX5_standsInZimin_46 : decode cX5_standsInZimin 46 = .ok (.iconst 0, 1) := by decide +kernel
theorem dX5_standsInZimin_47 : decode cX5_standsInZimin 47 = .ok (.ireturn, 1) := by decide +kernel
theorem dX5_seekSteps_0 : decode cX5_seekSteps 0 = .ok (.aload_n 0, 1) := by decide +kernel
theorem dX5_seekSteps_1 : decode cX5_seekSteps 1 = .ok (.aload_n 0, 1) := by decide +kernel
theorem dX5_seekSteps_2 : decode cX5_seekSteps 2 = .ok (.invokevirtual 46, 3) := by decide +kernel
theorem dX5_seekSteps_5 : decode cX5_seekSteps 5 = .ok (.iconst 0, 1) := by decide +kernel
theorem dX5_seekSteps_6 : decode cX5_seekSteps 6 = .ok (.invokevirtual 63, 3) := by decide +kernel
theorem dX5_seekSteps_9 : decode cX5_seekSteps 9 = .ok (.ireturn, 1) := by decide +kernel
theorem dX5_stepAt_0 : decode cX5_stepAt 0 = .ok (.iload_n 1, 1) := by decide +kernel
theorem dX5_stepAt_1 : decode cX5_stepAt 1 = .ok (.ifCond .lt 21, 3) := by decide +kernel
theorem dX5_stepAt_4 : decode cX5_stepAt 4 = .ok (.iload_n 1, 1) := by decide +kernel
theorem dX5_stepAt_5 : decode cX5_stepAt 5 = .ok (.aload_n 0, 1) := by decide +kernel
theorem dX5_stepAt_6 : decode cX5_stepAt 6 = .ok (.getfield 21, 3) := by decide +kernel
theorem dX5_stepAt_9 : decode cX5_stepAt 9 = .ok (.arraylength, 1) := by decide +kernel
theorem dX5_stepAt_10 : decode cX5_stepAt 10 = .ok (.if_icmp .ge 12, 3) := by decide +kernel
theorem dX5_stepAt_13 : decode cX5_stepAt 13 = .ok (.aload_n 0, 1) := by decide +kernel
theorem dX5_stepAt_14 : decode cX5_stepAt 14 = .ok (.getfield 21, 3) := by decide +kernel
theorem dX5_stepAt_17 : decode cX5_stepAt 17 = .ok (.iload_n 1, 1) := by decide +kernel
theorem dX5_stepAt_18 : decode cX5_stepAt 18 = .ok (.iaload, 1) := by decide +kernel
theorem dX5_stepAt_19 : decode cX5_stepAt 19 = .ok (.goto 4, 3) := by decide +kernel
theorem dX5_stepAt_22 : decode cX5_stepAt 22 = .ok (.iconst 0, 1) := by decide +kernel
theorem dX5_stepAt_23 : decode cX5_stepAt 23 = .ok (.ireturn, 1) := by decide +kernel
theorem dX5_takeOff_0 : decode cX5_takeOff 0 = .ok (.iload_n 1, 1) := by decide +kernel
theorem dX5_takeOff_1 : decode cX5_takeOff 1 = .ok (.ifCond .eq 12, 3) := by decide +kernel
theorem dX5_takeOff_4 : decode cX5_takeOff 4 = .ok (.iload_n 2, 1) := by decide +kernel
theorem dX5_takeOff_5 : decode cX5_takeOff 5 = .ok (.aload_n 0, 1) := by decide +kernel
theorem dX5_takeOff_6 : decode cX5_takeOff 6 = .ok (.getfield 21, 3) := by decide +kernel
theorem dX5_takeOff_9 : decode cX5_takeOff 9 = .ok (.arraylength, 1) := by decide +kernel
theorem dX5_takeOff_10 : decode cX5_takeOff 10 = .ok (.if_icmp .lt 13, 3) := by decide +kernel
theorem dX5_takeOff_13 : decode cX5_takeOff 13 = .ok (.iload_n 1, 1) := by decide +kernel
theorem dX5_takeOff_14 : decode cX5_takeOff 14 = .ok (.ifCond .ne 7, 3) := by decide +kernel
theorem dX5_takeOff_17 : decode cX5_takeOff 17 = .ok (.iload_n 2, 1) := by decide +kernel
theorem dX5_takeOff_18 : decode cX5_takeOff 18 = .ok (.goto 4, 3) := by decide +kernel
theorem dX5_takeOff_21 : decode cX5_takeOff 21 = .ok (.iconst 0, 1) := by decide +kernel
theorem dX5_takeOff_22 : decode cX5_takeOff 22 = .ok (.ireturn, 1) := by decide +kernel
theorem dX5_takeOff_23 : decode cX5_takeOff 23 = .ok (.iconst 1, 1) := by decide +kernel
theorem dX5_takeOff_24 : decode cX5_takeOff 24 = .ok (.istore_n 3, 1) := by decide +kernel
theorem dX5_takeOff_25 : decode cX5_takeOff 25 = .ok (.iload_n 3, 1) := by decide +kernel
theorem dX5_takeOff_26 : decode cX5_takeOff 26 = .ok (.iload_n 1, 1) := by decide +kernel
theorem dX5_takeOff_27 : decode cX5_takeOff 27 = .ok (.if_icmp .gt 55, 3) := by decide +kernel
theorem dX5_takeOff_30 : decode cX5_takeOff 30 = .ok (.iload_n 3, 1) := by decide +kernel
theorem dX5_takeOff_31 : decode cX5_takeOff 31 = .ok (.iload_n 1, 1) := by decide +kernel
theorem dX5_takeOff_32 : decode cX5_takeOff 32 = .ok (.iconst (-1), 1) := by decide +kernel
theorem dX5_takeOff_33 : decode cX5_takeOff 33 = .ok (.ixor, 1) := by decide +kernel
theorem dX5_takeOff_34 : decode cX5_takeOff 34 = .ok (.iand, 1) := by decide +kernel
theorem dX5_takeOff_35 : decode cX5_takeOff 35 = .ok (.ifCond .ne 41, 3) := by decide +kernel
theorem dX5_takeOff_38 : decode cX5_takeOff 38 = .ok (.aload_n 0, 1) := by decide +kernel
theorem dX5_takeOff_39 : decode cX5_takeOff 39 = .ok (.iload_n 3, 1) := by decide +kernel
theorem dX5_takeOff_40 : decode cX5_takeOff 40 = .ok (.iload_n 1, 1) := by decide +kernel
theorem dX5_takeOff_41 : decode cX5_takeOff 41 = .ok (.invokevirtual 67, 3) := by decide +kernel
theorem dX5_takeOff_44 : decode cX5_takeOff 44 = .ok (.ifCond .eq 32, 3) := by decide +kernel
theorem dX5_takeOff_47 : decode cX5_takeOff 47 = .ok (.aload_n 0, 1) := by decide +kernel
theorem dX5_takeOff_48 : decode cX5_takeOff 48 = .ok (.getfield 21, 3) := by decide +kernel
theorem dX5_takeOff_51 : decode cX5_takeOff 51 = .ok (.iload_n 2, 1) := by decide +kernel
theorem dX5_takeOff_52 : decode cX5_takeOff 52 = .ok (.iload_n 3, 1) := by decide +kernel
theorem dX5_takeOff_53 : decode cX5_takeOff 53 = .ok (.iastore, 1) := by decide +kernel
theorem dX5_takeOff_54 : decode cX5_takeOff 54 = .ok (.aload_n 0, 1) := by decide +kernel
theorem dX5_takeOff_55 : decode cX5_takeOff 55 = .ok (.iload_n 1, 1) := by decide +kernel
theorem dX5_takeOff_56 : decode cX5_takeOff 56 = .ok (.iload_n 3, 1) := by decide +kernel
theorem dX5_takeOff_57 : decode cX5_takeOff 57 = .ok (.iconst (-1), 1) := by decide +kernel
theorem dX5_takeOff_58 : decode cX5_takeOff 58 = .ok (.ixor, 1) := by decide +kernel
theorem dX5_takeOff_59 : decode cX5_takeOff 59 = .ok (.iand, 1) := by decide +kernel
theorem dX5_takeOff_60 : decode cX5_takeOff 60 = .ok (.iload_n 2, 1) := by decide +kernel
theorem dX5_takeOff_61 : decode cX5_takeOff 61 = .ok (.iconst 1, 1) := by decide +kernel
theorem dX5_takeOff_62 : decode cX5_takeOff 62 = .ok (.iadd, 1) := by decide +kernel
theorem dX5_takeOff_63 : decode cX5_takeOff 63 = .ok (.invokevirtual 63, 3) := by decide +kernel
theorem dX5_takeOff_66 : decode cX5_takeOff 66 = .ok (.istore 4, 2) := by decide +kernel
theorem dX5_takeOff_68 : decode cX5_takeOff 68 = .ok (.iload 4, 2) := by decide +kernel
theorem dX5_takeOff_70 : decode cX5_takeOff 70 = .ok (.ifCond .le 6, 3) := by decide +kernel
theorem dX5_takeOff_73 : decode cX5_takeOff 73 = .ok (.iload 4, 2) := by decide +kernel
theorem dX5_takeOff_75 : decode cX5_takeOff 75 = .ok (.ireturn, 1) := by decide +kernel
theorem dX5_takeOff_76 : decode cX5_takeOff 76 = .ok (.iinc 3 1, 3) := by decide +kernel
theorem dX5_takeOff_79 : decode cX5_takeOff 79 = .ok (.goto (-54), 3) := by decide +kernel
theorem dX5_takeOff_82 : decode cX5_takeOff 82 = .ok (.iconst 0, 1) := by decide +kernel
theorem dX5_takeOff_83 : decode cX5_takeOff 83 = .ok (.ireturn, 1) := by decide +kernel
theorem dX5_isLoose_0 : decode cX5_isLoose 0 = .ok (.iload_n 1, 1) := by decide +kernel
theorem dX5_isLoose_1 : decode cX5_isLoose 1 = .ok (.istore_n 3, 1) := by decide +kernel
theorem dX5_isLoose_2 : decode cX5_isLoose 2 = .ok (.iconst 0, 1) := by decide +kernel
theorem dX5_isLoose_3 : decode cX5_isLoose 3 = .ok (.istore 4, 2) := by decide +kernel
theorem dX5_isLoose_5 : decode cX5_isLoose 5 = .ok (.iload 4, 2) := by decide +kernel
theorem dX5_isLoose_7 : decode cX5_isLoose 7 = .ok (.bipush 6, 2) := by decide +kernel
theorem dX5_isLoose_9 : decode cX5_isLoose 9 = .ok (.if_icmp .ge 16, 3) := by decide +kernel
theorem dX5_isLoose_12 : decode cX5_isLoose 12 = .ok (.aload_n 0, 1) := by decide +kernel
theorem dX5_isLoose_13 : decode cX5_isLoose 13 = .ok (.iload_n 3, 1) := by decide +kernel
theorem dX5_isLoose_14 : decode cX5_isLoose 14 = .ok (.iload_n 2, 1) := by decide +kernel
theorem dX5_isLoose_15 : decode cX5_isLoose 15 = .ok (.invokevirtual 71, 3) := by decide +kernel
theorem dX5_isLoose_18 : decode cX5_isLoose 18 = .ok (.istore_n 3, 1) := by decide +kernel
theorem dX5_isLoose_19 : decode cX5_isLoose 19 = .ok (.iinc 4 1, 3) := by decide +kernel
theorem dX5_isLoose_22 : decode cX5_isLoose 22 = .ok (.goto (-17), 3) := by decide +kernel
theorem dX5_isLoose_25 : decode cX5_isLoose 25 = .ok (.iload_n 3, 1) := by decide +kernel
theorem dX5_isLoose_26 : decode cX5_isLoose 26 = .ok (.iconst 3, 1) := by decide +kernel
theorem dX5_isLoose_27 : decode cX5_isLoose 27 = .ok (.ishr, 1) := by decide +kernel
theorem dX5_isLoose_28 : decode cX5_isLoose 28 = .ok (.iload_n 1, 1) := by decide +kernel
theorem dX5_isLoose_29 : decode cX5_isLoose 29 = .ok (.iand, 1) := by decide +kernel
theorem dX5_isLoose_30 : decode cX5_isLoose 30 = .ok (.ifCond .ne 7, 3) := by decide +kernel
theorem dX5_isLoose_33 : decode cX5_isLoose 33 = .ok (.iconst 1, 1) := by decide +kernel
theorem dX5_isLoose_34 : decode cX5_isLoose 34 = .ok (.goto 4, 3) := by decide +kernel
theorem dX5_isLoose_37 : decode cX5_isLoose 37 = .ok (.iconst 0, 1) := by decide +kernel
theorem dX5_isLoose_38 : decode cX5_isLoose 38 = .ok (.ireturn, 1) := by decide +kernel
theorem dX5_reachOn_0 : decode cX5_reachOn 0 = .ok (.iconst 0, 1) := by decide +kernel
theorem dX5_reachOn_1 : decode cX5_reachOn 1 = .ok (.istore_n 3, 1) := by decide +kernel
theorem dX5_reachOn_2 : decode cX5_reachOn 2 = .ok (.aload_n 0, 1) := by decide +kernel
theorem dX5_reachOn_3 : decode cX5_reachOn 3 = .ok (.getfield 24, 3) := by decide +kernel
theorem dX5_reachOn_6 : decode cX5_reachOn 6 = .ok (.astore 4, 2) := by decide +kernel
theorem dX5_reachOn_8 : decode cX5_reachOn 8 = .ok (.aload 4, 2) := by decide +kernel
theorem dX5_reachOn_10 : decode cX5_reachOn 10 = .ok (.arraylength, 1) := by decide +kernel
theorem dX5_reachOn_11 : decode cX5_reachOn 11 = .ok (.istore 5, 2) := by decide +kernel
theorem dX5_reachOn_13 : decode cX5_reachOn 13 = .ok (.iconst 0, 1) := by decide +kernel
theorem dX5_reachOn_14 : decode cX5_reachOn 14 = .ok (.istore 6, 2) := by decide +kernel
theorem dX5_reachOn_16 : decode cX5_reachOn 16 = .ok (.iload 6, 2) := by decide +kernel
theorem dX5_reachOn_18 : decode cX5_reachOn 18 = .ok (.iload 5, 2) := by decide +kernel
theorem dX5_reachOn_20 : decode cX5_reachOn 20 = .ok (.if_icmp .ge 59, 3) := by decide +kernel
theorem dX5_reachOn_23 : decode cX5_reachOn 23 = .ok (.aload 4, 2) := by decide +kernel
theorem dX5_reachOn_25 : decode cX5_reachOn 25 = .ok (.iload 6, 2) := by decide +kernel
theorem dX5_reachOn_27 : decode cX5_reachOn 27 = .ok (.iaload, 1) := by decide +kernel
theorem dX5_reachOn_28 : decode cX5_reachOn 28 = .ok (.istore 7, 2) := by decide +kernel
theorem dX5_reachOn_30 : decode cX5_reachOn 30 = .ok (.iload_n 2, 1) := by decide +kernel
theorem dX5_reachOn_31 : decode cX5_reachOn 31 = .ok (.iload 7, 2) := by decide +kernel
theorem dX5_reachOn_33 : decode cX5_reachOn 33 = .ok (.ishr, 1) := by decide +kernel
theorem dX5_reachOn_34 : decode cX5_reachOn 34 = .ok (.iconst 1, 1) := by decide +kernel
theorem dX5_reachOn_35 : decode cX5_reachOn 35 = .ok (.iand, 1) := by decide +kernel
theorem dX5_reachOn_36 : decode cX5_reachOn 36 = .ok (.ifCond .ne 6, 3) := by decide +kernel
theorem dX5_reachOn_39 : decode cX5_reachOn 39 = .ok (.goto 34, 3) := by decide +kernel
theorem dX5_reachOn_42 : decode cX5_reachOn 42 = .ok (.iload_n 3, 1) := by decide +kernel
theorem dX5_reachOn_43 : decode cX5_reachOn 43 = .ok (.iconst 1, 1) := by decide +kernel
theorem dX5_reachOn_44 : decode cX5_reachOn 44 = .ok (.iload 7, 2) := by decide +kernel
theorem dX5_reachOn_46 : decode cX5_reachOn 46 = .ok (.iconst 3, 1) := by decide +kernel
theorem dX5_reachOn_47 : decode cX5_reachOn 47 = .ok (.iadd, 1) := by decide +kernel
theorem dX5_reachOn_48 : decode cX5_reachOn 48 = .ok (.ishl, 1) := by decide +kernel
theorem dX5_reachOn_49 : decode cX5_reachOn 49 = .ok (.ior, 1) := by decide +kernel
theorem dX5_reachOn_50 : decode cX5_reachOn 50 = .ok (.istore 8, 2) := by decide +kernel
theorem dX5_reachOn_52 : decode cX5_reachOn 52 = .ok (.iload_n 3, 1) := by decide +kernel
theorem dX5_reachOn_53 : decode cX5_reachOn 53 = .ok (.ifCond .eq 15, 3) := by decide +kernel
theorem dX5_reachOn_56 : decode cX5_reachOn 56 = .ok (.iload_n 1, 1) := by decide +kernel
theorem dX5_reachOn_57 : decode cX5_reachOn 57 = .ok (.iload 8, 2) := by decide +kernel
theorem dX5_reachOn_59 : decode cX5_reachOn 59 = .ok (.iand, 1) := by decide +kernel
theorem dX5_reachOn_60 : decode cX5_reachOn 60 = .ok (.ifCond .eq 8, 3) := by decide +kernel
theorem dX5_reachOn_63 : decode cX5_reachOn 63 = .ok (.iload_n 1, 1) := by decide +kernel
theorem dX5_reachOn_64 : decode cX5_reachOn 64 = .ok (.iload 8, 2) := by decide +kernel
theorem dX5_reachOn_66 : decode cX5_reachOn 66 = .ok (.ior, 1) := by decide +kernel
theorem dX5_reachOn_67 : decode cX5_reachOn 67 = .ok (.istore_n 1, 1) := by decide +kernel
theorem dX5_reachOn_68 : decode cX5_reachOn 68 = .ok (.iconst 1, 1) := by decide +kernel
theorem dX5_reachOn_69 : decode cX5_reachOn 69 = .ok (.iload 7, 2) := by decide +kernel
theorem dX5_reachOn_71 : decode cX5_reachOn 71 = .ok (.ishl, 1) := by decide +kernel
theorem dX5_reachOn_72 : decode cX5_reachOn 72 = .ok (.istore_n 3, 1) := by decide +kernel
theorem dX5_reachOn_73 : decode cX5_reachOn 73 = .ok (.iinc 6 1, 3) := by decide +kernel
theorem dX5_reachOn_76 : decode cX5_reachOn 76 = .ok (.goto (-60), 3) := by decide +kernel
theorem dX5_reachOn_79 : decode cX5_reachOn 79 = .ok (.iload_n 1, 1) := by decide +kernel
theorem dX5_reachOn_80 : decode cX5_reachOn 80 = .ok (.ireturn, 1) := by decide +kernel
theorem dX6_init_0 : decode cX6_init 0 = .ok (.aload_n 0, 1) := by decide +kernel
theorem dX6_init_1 : decode cX6_init 1 = .ok (.invokespecial 3, 3) := by decide +kernel
theorem dX6_init_4 : decode cX6_init 4 = .ok (.aload_n 0, 1) := by decide +kernel
theorem dX6_init_5 : decode cX6_init 5 = .ok (.sipush 800, 3) := by decide +kernel
theorem dX6_init_8 : decode cX6_init 8 = .ok (.newarray .int, 2) := by decide +kernel
theorem dX6_init_10 : decode cX6_init 10 = .ok (.putfield 9, 3) := by decide +kernel
theorem dX6_init_13 : decode cX6_init 13 = .ok (.aload_n 0, 1) := by decide +kernel
theorem dX6_init_14 : decode cX6_init 14 = .ok (.bipush 10, 2) := by decide +kernel
theorem dX6_init_16 : decode cX6_init 16 = .ok (.newarray .int, 2) := by decide +kernel
theorem dX6_init_18 : decode cX6_init 18 = .ok (.putfield 15, 3) := by decide +kernel
theorem dX6_init_21 : decode cX6_init 21 = .ok (.aload_n 0, 1) := by decide +kernel
theorem dX6_init_22 : decode cX6_init 22 = .ok (.iload_n 1, 1) := by decide +kernel
theorem dX6_init_23 : decode cX6_init 23 = .ok (.putfield 18, 3) := by decide +kernel
theorem dX6_init_26 : decode cX6_init 26 = .ok (.aload_n 0, 1) := by decide +kernel
theorem dX6_init_27 : decode cX6_init 27 = .ok (.getfield 15, 3) := by decide +kernel
theorem dX6_init_30 : decode cX6_init 30 = .ok (.iconst (-1), 1) := by decide +kernel
theorem dX6_init_31 : decode cX6_init 31 = .ok (.invokestatic 22, 3) := by decide +kernel
theorem dX6_init_34 : decode cX6_init 34 = .ok (.return_, 1) := by decide +kernel
theorem dX6_sizeOf_0 : decode cX6_sizeOf 0 = .ok (.aload_n 0, 1) := by decide +kernel
theorem dX6_sizeOf_1 : decode cX6_sizeOf 1 = .ok (.getfield 15, 3) := by decide +kernel
theorem dX6_sizeOf_4 : decode cX6_sizeOf 4 = .ok (.iload_n 1, 1) := by decide +kernel
theorem dX6_sizeOf_5 : decode cX6_sizeOf 5 = .ok (.iaload, 1) := by decide +kernel
theorem dX6_sizeOf_6 : decode cX6_sizeOf 6 = .ok (.ireturn, 1) := by decide +kernel
theorem dX6_renew_0 : decode cX6_renew 0 = .ok (.aload_n 0, 1) := by decide +kernel
theorem dX6_renew_1 : decode cX6_renew 1 = .ok (.getfield 9, 3) := by decide +kernel
theorem dX6_renew_4 : decode cX6_renew 4 = .ok (.iload_n 1, 1) := by decide +kernel
theorem dX6_renew_5 : decode cX6_renew 5 = .ok (.bipush 80, 2) := by decide +kernel
theorem dX6_renew_7 : decode cX6_renew 7 = .ok (.imul, 1) := by decide +kernel
theorem dX6_renew_8 : decode cX6_renew 8 = .ok (.iload_n 1, 1) := by decide +kernel
theorem dX6_renew_9 : decode cX6_renew 9 = .ok (.bipush 80, 2) := by decide +kernel
theorem dX6_renew_11 : decode cX6_renew 11 = .ok (.imul, 1) := by decide +kernel
theorem dX6_renew_12 : decode cX6_renew 12 = .ok (.iload_n 2, 1) := by decide +kernel
theorem dX6_renew_13 : decode cX6_renew 13 = .ok (.iadd, 1) := by decide +kernel
theorem dX6_renew_14 : decode cX6_renew 14 = .ok (.iconst 0, 1) := by decide +kernel
theorem dX6_renew_15 : decode cX6_renew 15 = .ok (.invokestatic 28, 3) := by decide +kernel
theorem dX6_renew_18 : decode cX6_renew 18 = .ok (.aload_n 0, 1) := by decide +kernel
theorem dX6_renew_19 : decode cX6_renew 19 = .ok (.getfield 15, 3) := by decide +kernel
theorem dX6_renew_22 : decode cX6_renew 22 = .ok (.iload_n 1, 1) := by decide +kernel
theorem dX6_renew_23 : decode cX6_renew 23 = .ok (.iload_n 2, 1) := by decide +kernel
theorem dX6_renew_24 : decode cX6_renew 24 = .ok (.iastore, 1) := by decide +kernel
theorem dX6_renew_25 : decode cX6_renew 25 = .ok (.return_, 1) := by decide +kernel
theorem dX6_write_0 : decode cX6_write 0 = .ok (.aload_n 0, 1) := by decide +kernel
theorem dX6_write_1 : decode cX6_write 1 = .ok (.getfield 9, 3) := by decide +kernel
theorem dX6_write_4 : decode cX6_write 4 = .ok (.iload_n 1, 1) := by decide +kernel
theorem dX6_write_5 : decode cX6_write 5 = .ok (.bipush 80, 2) := by decide +kernel
theorem dX6_write_7 : decode cX6_write 7 = .ok (.imul, 1) := by decide +kernel
theorem dX6_write_8 : decode cX6_write 8 = .ok (.iload_n 2, 1) := by decide +kernel
theorem dX6_write_9 : decode cX6_write 9 = .ok (.iadd, 1) := by decide +kernel
theorem dX6_write_10 : decode cX6_write 10 = .ok (.aload_n 0, 1) := by decide +kernel
theorem dX6_write_11 : decode cX6_write 11 = .ok (.getfield 18, 3) := by decide +kernel
theorem dX6_write_14 : decode cX6_write 14 = .ok (.ifCond .ne 8, 3) := by decide +kernel
theorem dX6_write_17 : decode cX6_write 17 = .ok (.iload_n 3, 1) := by decide +kernel
theorem dX6_write_18 : decode cX6_write 18 = .ok (.i2b, 1) := by decide +kernel
theorem dX6_write_19 : decode cX6_write 19 = .ok (.goto 17, 3) := by decide +kernel
theorem dX6_write_22 : decode cX6_write 22 = .ok (.aload_n 0, 1) := by decide +kernel
theorem dX6_write_23 : decode cX6_write 23 = .ok (.getfield 18, 3) := by decide +kernel
theorem dX6_write_26 : decode cX6_write 26 = .ok (.iconst 1, 1) := by decide +kernel
theorem dX6_write_27 : decode cX6_write 27 = .ok (.if_icmp .ne 8, 3) := by decide +kernel
theorem dX6_write_30 : decode cX6_write 30 = .ok (.iload_n 3, 1) := by decide +kernel
theorem dX6_write_31 : decode cX6_write 31 = .ok (.i2s, 1) := by decide +kernel
theorem dX6_write_32 : decode cX6_write 32 = .ok (.goto 4, 3) := by decide +kernel
theorem dX6_write_35 : decode cX6_write 35 = .ok (.iload_n 3, 1) := by decide +kernel
theorem dX6_write_36 : decode cX6_write 36 = .ok (.iastore, 1) := by decide +kernel
theorem dX6_write_37 : decode cX6_write 37 = .ok (.return_, 1) := by decide +kernel
theorem dX6_drop_0 : decode cX6_drop 0 = .ok (.aload_n 0, 1) := by decide +kernel
theorem dX6_drop_1 : decode cX6_drop 1 = .ok (.getfield 15, 3) := by decide +kernel
theorem dX6_drop_4 : decode cX6_drop 4 = .ok (.iload_n 1, 1) := by decide +kernel
theorem dX6_drop_5 : decode cX6_drop 5 = .ok (.iaload, 1) := by decide +kernel
theorem dX6_drop_6 : decode cX6_drop 6 = .ok (.istore_n 2, 1) := by decide +kernel
theorem dX6_drop_7 : decode cX6_drop 7 = .ok (.aload_n 0, 1) := by decide +kernel
theorem dX6_drop_8 : decode cX6_drop 8 = .ok (.getfield 15, 3) := by decide +kernel
theorem dX6_drop_11 : decode cX6_drop 11 = .ok (.iload_n 1, 1) := by decide +kernel
theorem dX6_drop_12 : decode cX6_drop 12 = .ok (.iconst (-1), 1) := by decide +kernel
theorem dX6_drop_13 : decode cX6_drop 13 = .ok (.iastore, 1) := by decide +kernel
theorem dX6_drop_14 : decode cX6_drop 14 = .ok (.iload_n 2, 1) := by decide +kernel
theorem dX6_drop_15 : decode cX6_drop 15 = .ok (.ireturn, 1) := by decide +kernel
theorem dX6_copyIn_0 : decode cX6_copyIn 0 = .ok (.aload_n 2, 1) := by decide +kernel
theorem dX6_copyIn_1 : decode cX6_copyIn 1 = .ok (.iconst 0, 1) := by decide +kernel
theorem dX6_copyIn_2 : decode cX6_copyIn 2 = .ok (.aload_n 0, 1) := by decide +kernel
theorem dX6_copyIn_3 : decode cX6_copyIn 3 = .ok (.getfield 9, 3) := by decide +kernel
theorem dX6_copyIn_6 : decode cX6_copyIn 6 = .ok (.iload_n 1, 1) := by decide +kernel
theorem dX6_copyIn_7 : decode cX6_copyIn 7 = .ok (.bipush 80, 2) := by decide +kernel
theorem dX6_copyIn_9 : decode cX6_copyIn 9 = .ok (.imul, 1) := by decide +kernel
theorem dX6_copyIn_10 : decode cX6_copyIn 10 = .ok (.iload_n 3, 1) := by decide +kernel
theorem dX6_copyIn_11 : decode cX6_copyIn 11 = .ok (.invokestatic 31, 3) := by decide +kernel
theorem dX6_copyIn_14 : decode cX6_copyIn 14 = .ok (.aload_n 0, 1) := by decide +kernel
theorem dX6_copyIn_15 : decode cX6_copyIn 15 = .ok (.getfield 15, 3) := by decide +kernel
theorem dX6_copyIn_18 : decode cX6_copyIn 18 = .ok (.iload_n 1, 1) := by decide +kernel
theorem dX6_copyIn_19 : decode cX6_copyIn 19 = .ok (.iload_n 3, 1) := by decide +kernel
theorem dX6_copyIn_20 : decode cX6_copyIn 20 = .ok (.iastore, 1) := by decide +kernel
theorem dX6_copyIn_21 : decode cX6_copyIn 21 = .ok (.return_, 1) := by decide +kernel
theorem dX6_readInto_0 : decode cX6_readInto 0 = .ok (.aload_n 0, 1) := by decide +kernel
theorem dX6_readInto_1 : decode cX6_readInto 1 = .ok (.getfield 15, 3) := by decide +kernel
theorem dX6_readInto_4 : decode cX6_readInto 4 = .ok (.iload_n 1, 1) := by decide +kernel
theorem dX6_readInto_5 : decode cX6_readInto 5 = .ok (.iaload, 1) := by decide +kernel
theorem dX6_readInto_6 : decode cX6_readInto 6 = .ok (.iconst 0, 1) := by decide +kernel
theorem dX6_readInto_7 : decode cX6_readInto 7 = .ok (.invokestatic 37, 3) := by decide +kernel
theorem dX6_readInto_10 : decode cX6_readInto 10 = .ok (.istore_n 3, 1) := by decide +kernel
theorem dX6_readInto_11 : decode cX6_readInto 11 = .ok (.iload_n 3, 1) := by decide +kernel
theorem dX6_readInto_12 : decode cX6_readInto 12 = .ok (.bipush 60, 2) := by decide +kernel
theorem dX6_readInto_14 : decode cX6_readInto 14 = .ok (.if_icmp .gt 9, 3) := by decide +kernel
theorem dX6_readInto_17 : decode cX6_readInto 17 = .ok (.iload_n 3, 1) := by decide +kernel
theorem dX6_readInto_18 : decode cX6_readInto 18 = .ok (.aload_n 2, 1) := by decide +kernel
theorem dX6_readInto_19 : decode cX6_readInto 19 = .ok (.arraylength, 1) := by decide +kernel
theorem dX6_readInto_20 : decode cX6_readInto 20 = .ok (.if_icmp .le 5, 3) := by decide +kernel
theorem dX6_readInto_23 : decode cX6_readInto 23 = .ok (.iconst (-1), 1) := by decide +kernel
theorem dX6_readInto_24 : decode cX6_readInto 24 = .ok (.ireturn, 1) := by decide +kernel
theorem dX6_readInto_25 : decode cX6_readInto 25 = .ok (.iconst 0, 1) := by decide +kernel
theorem dX6_readInto_26 : decode cX6_readInto 26 = .ok (.istore 4, 2) := by decide +kernel
theorem dX6_readInto_28 : decode cX6_readInto 28 = .ok (.iload 4, 2) := by decide +kernel
theorem dX6_readInto_30 : decode cX6_readInto 30 = .ok (.iload_n 3, 1) := by decide +kernel
theorem dX6_readInto_31 : decode cX6_readInto 31 = .ok (.if_icmp .ge 43, 3) := by decide +kernel
theorem dX6_readInto_34 : decode cX6_readInto 34 = .ok (.aload_n 2, 1) := by decide +kernel
theorem dX6_readInto_35 : decode cX6_readInto 35 = .ok (.iload 4, 2) := by decide +kernel
theorem dX6_readInto_37 : decode cX6_readInto 37 = .ok (.aload_n 0, 1) := by decide +kernel
theorem dX6_readInto_38 : decode cX6_readInto 38 = .ok (.getfield 9, 3) := by decide +kernel
theorem dX6_readInto_41 : decode cX6_readInto 41 = .ok (.iload_n 1, 1) := by decide +kernel
theorem dX6_readInto_42 : decode cX6_readInto 42 = .ok (.bipush 80, 2) := by decide +kernel
theorem dX6_readInto_44 : decode cX6_readInto 44 = .ok (.imul, 1) := by decide +kernel
theorem dX6_readInto_45 : decode cX6_readInto 45 = .ok (.iload 4, 2) := by decide +kernel
theorem dX6_readInto_47 : decode cX6_readInto 47 = .ok (.iadd, 1) := by decide +kernel
theorem dX6_readInto_48 : decode cX6_readInto 48 = .ok (.iaload, 1) := by decide +kernel
theorem dX6_readInto_49 : decode cX6_readInto 49 = .ok (.iastore, 1) := by decide +kernel
theorem dX6_readInto_50 : decode cX6_readInto 50 = .ok (.aload_n 2, 1) := by decide +kernel
theorem dX6_readInto_51 : decode cX6_readInto 51 = .ok (.iload 4, 2) := by decide +kernel
theorem dX6_readInto_53 : decode cX6_readInto 53 = .ok (.iaload, 1) := by decide +kernel
theorem dX6_readInto_54 : decode cX6_readInto 54 = .ok (.ifCond .lt 12, 3) := by decide +kernel
theorem dX6_readInto_57 : decode cX6_readInto 57 = .ok (.aload_n 2, 1) := by decide +kernel
theorem dX6_readInto_58 : decode cX6_readInto 58 = .ok (.iload 4, 2) := by decide +kernel
theorem dX6_readInto_60 : decode cX6_readInto 60 = .ok (.iaload, 1) := by decide +kernel
theorem dX6_readInto_61 : decode cX6_readInto 61 = .ok (.bipush 8, 2) := by decide +kernel
theorem dX6_readInto_63 : decode cX6_readInto 63 = .ok (.if_icmp .lt 5, 3) := by decide +kernel
theorem dX6_readInto_66 : decode cX6_readInto 66 = .ok (.iconst (-1), 1) := by decide +kernel
theorem dX6_readInto_67 : decode cX6_readInto 67 = .ok (.ireturn, 1) := by decide +kernel
theorem dX6_readInto_68 : decode cX6_readInto 68 = .ok (.iinc 4 1, 3) := by decide +kernel
theorem dX6_readInto_71 : decode cX6_readInto 71 = .ok (.goto (-43), 3) := by decide +kernel
theorem dX6_readInto_74 : decode cX6_readInto 74 = .ok (.iload_n 3, 1) := by decide +kernel
theorem dX6_readInto_75 : decode cX6_readInto 75 = .ok (.ireturn, 1) := by decide +kernel
theorem dX7_init_0 : decode cX7_init 0 = .ok (.aload_n 0, 1) := by decide +kernel
theorem dX7_init_1 : decode cX7_init 1 = .ok (.invokespecial 1, 3) := by decide +kernel
theorem dX7_init_4 : decode cX7_init 4 = .ok (.aload_n 0, 1) := by decide +kernel
theorem dX7_init_5 : decode cX7_init 5 = .ok (.aload_n 1, 1) := by decide +kernel
theorem dX7_init_6 : decode cX7_init 6 = .ok (.putfield 7, 3) := by decide +kernel
theorem dX7_init_9 : decode cX7_init 9 = .ok (.return_, 1) := by decide +kernel
theorem dX7_shortest_0 : decode cX7_shortest 0 = .ok (.aload_n 0, 1) := by decide +kernel
theorem dX7_shortest_1 : decode cX7_shortest 1 = .ok (.getfield 7, 3) := by decide +kernel
theorem dX7_shortest_4 : decode cX7_shortest 4 = .ok (.arraylength, 1) := by decide +kernel
theorem dX7_shortest_5 : decode cX7_shortest 5 = .ok (.iload_n 2, 1) := by decide +kernel
theorem dX7_shortest_6 : decode cX7_shortest 6 = .ok (.if_icmp .le 5, 3) := by decide +kernel
theorem dX7_shortest_9 : decode cX7_shortest 9 = .ok (.iconst 0, 1) := by decide +kernel
theorem dX7_shortest_10 : decode cX7_shortest 10 = .ok (.ireturn, 1) := by decide +kernel
theorem dX7_shortest_11 : decode cX7_shortest 11 = .ok (.iconst 1, 1) := by decide +kernel
theorem dX7_shortest_12 : decode cX7_shortest 12 = .ok (.istore_n 3, 1) := by decide +kernel
theorem dX7_shortest_13 : decode cX7_shortest 13 = .ok (.iload_n 3, 1) := by decide +kernel
theorem dX7_shortest_14 : decode cX7_shortest 14 = .ok (.aload_n 0, 1) := by decide +kernel
theorem dX7_shortest_15 : decode cX7_shortest 15 = .ok (.getfield 7, 3) := by decide +kernel
theorem dX7_shortest_18 : decode cX7_shortest 18 = .ok (.arraylength, 1) := by decide +kernel
theorem dX7_shortest_19 : decode cX7_shortest 19 = .ok (.if_icmp .gt 31, 3) := by decide +kernel
theorem dX7_shortest_22 : decode cX7_shortest 22 = .ok (.aload_n 0, 1) := by decide +kernel
theorem dX7_shortest_23 : decode cX7_shortest 23 = .ok (.getfield 7, 3) := by decide +kernel
theorem dX7_shortest_26 : decode cX7_shortest 26 = .ok (.aload_n 0, 1) := by decide +kernel
theorem dX7_shortest_27 : decode cX7_shortest 27 = .ok (.getfield 7, 3) := by decide +kernel
theorem dX7_shortest_30 : decode cX7_shortest 30 = .ok (.arraylength, 1) := by decide +kernel
theorem dX7_shortest_31 : decode cX7_shortest 31 = .ok (.iload_n 3, 1) := by decide +kernel
theorem dX7_shortest_32 : decode cX7_shortest 32 = .ok (.isub, 1) := by decide +kernel
theorem dX7_shortest_33 : decode cX7_shortest 33 = .ok (.iaload, 1) := by decide +kernel
theorem dX7_shortest_34 : decode cX7_shortest 34 = .ok (.aload_n 1, 1) := by decide +kernel
theorem dX7_shortest_35 : decode cX7_shortest 35 = .ok (.iload_n 2, 1) := by decide +kernel
theorem dX7_shortest_36 : decode cX7_shortest 36 = .ok (.iload_n 3, 1) := by decide +kernel
theorem dX7_shortest_37 : decode cX7_shortest 37 = .ok (.isub, 1) := by decide +kernel
theorem dX7_shortest_38 : decode cX7_shortest 38 = .ok (.iaload, 1) := by decide +kernel
theorem dX7_shortest_39 : decode cX7_shortest 39 = .ok (.if_icmp .eq 5, 3) := by decide +kernel
theorem dX7_shortest_42 : decode cX7_shortest 42 = .ok (.iconst 0, 1) := by decide +kernel
theorem dX7_shortest_43 : decode cX7_shortest 43 = .ok (.ireturn, 1) := by decide +kernel
theorem dX7_shortest_44 : decode cX7_shortest 44 = .ok (.iinc 3 1, 3) := by decide +kernel
theorem dX7_shortest_47 : decode cX7_shortest 47 = .ok (.goto (-34), 3) := by decide +kernel
theorem dX7_shortest_50 : decode cX7_shortest 50 = .ok (.aload_n 0, 1) := by decide +kernel
theorem dX7_shortest_51 : decode cX7_shortest 51 = .ok (.getfield 7, 3) := by decide +kernel
theorem dX7_shortest_54 : decode cX7_shortest 54 = .ok (.arraylength, 1) := by decide +kernel
theorem dX7_shortest_55 : decode cX7_shortest 55 = .ok (.ireturn, 1) := by decide +kernel
theorem dX8_init_0 : decode cX8_init 0 = .ok (.aload_n 0, 1) := by decide +kernel
theorem dX8_init_1 : decode cX8_init 1 = .ok (.invokespecial 1, 3) := by decide +kernel
theorem dX8_init_4 : decode cX8_init 4 = .ok (.return_, 1) := by decide +kernel
theorem dX8_shortest_0 : decode cX8_shortest 0 = .ok (.lconst 0, 1) := by decide +kernel
theorem dX8_shortest_1 : decode cX8_shortest 1 = .ok (.lstore_n 3, 1) := by decide +kernel
theorem dX8_shortest_2 : decode cX8_shortest 2 = .ok (.iconst 1, 1) := by decide +kernel
theorem dX8_shortest_3 : decode cX8_shortest 3 = .ok (.istore 5, 2) := by decide +kernel
theorem dX8_shortest_5 : decode cX8_shortest 5 = .ok (.iconst 2, 1) := by decide +kernel
theorem dX8_shortest_6 : decode cX8_shortest 6 = .ok (.iload 5, 2) := by decide +kernel
theorem dX8_shortest_8 : decode cX8_shortest 8 = .ok (.imul, 1) := by decide +kernel
theorem dX8_shortest_9 : decode cX8_shortest 9 = .ok (.iload_n 2, 1) := by decide +kernel
theorem dX8_shortest_10 : decode cX8_shortest 10 = .ok (.if_icmp .gt 62, 3) := by decide +kernel
theorem dX8_shortest_13 : decode cX8_shortest 13 = .ok (.lload_n 3, 1) := by decide +kernel
theorem dX8_shortest_14 : decode cX8_shortest 14 = .ok (.ldc2_w 7, 3) := by decide +kernel
theorem dX8_shortest_17 : decode cX8_shortest 17 = .ok (.aload_n 1, 1) := by decide +kernel
theorem dX8_shortest_18 : decode cX8_shortest 18 = .ok (.iload_n 2, 1) := by decide +kernel
theorem dX8_shortest_19 : decode cX8_shortest 19 = .ok (.iload 5, 2) := by decide +kernel
theorem dX8_shortest_21 : decode cX8_shortest 21 = .ok (.isub, 1) := by decide +kernel
theorem dX8_shortest_22 : decode cX8_shortest 22 = .ok (.iaload, 1) := by decide +kernel
theorem dX8_shortest_23 : decode cX8_shortest 23 = .ok (.invokestatic 9, 3) := by decide +kernel
theorem dX8_shortest_26 : decode cX8_shortest 26 = .ok (.lmul, 1) := by decide +kernel
theorem dX8_shortest_27 : decode cX8_shortest 27 = .ok (.aload_n 1, 1) := by decide +kernel
theorem dX8_shortest_28 : decode cX8_shortest 28 = .ok (.iload_n 2, 1) := by decide +kernel
theorem dX8_shortest_29 : decode cX8_shortest 29 = .ok (.iconst 2, 1) := by decide +kernel
theorem dX8_shortest_30 : decode cX8_shortest 30 = .ok (.iload 5, 2) := by decide +kernel
theorem dX8_shortest_32 : decode cX8_shortest 32 = .ok (.imul, 1) := by decide +kernel
theorem dX8_shortest_33 : decode cX8_shortest 33 = .ok (.isub, 1) := by decide +kernel
theorem dX8_shortest_34 : decode cX8_shortest 34 = .ok (.iaload, 1) := by decide +kernel
theorem dX8_shortest_35 : decode cX8_shortest 35 = .ok (.invokestatic 9, 3) := by decide +kernel
theorem dX8_shortest_38 : decode cX8_shortest 38 = .ok (.lsub, 1) := by decide +kernel
theorem dX8_shortest_39 : decode cX8_shortest 39 = .ok (.aload_n 1, 1) := by decide +kernel
theorem dX8_shortest_40 : decode cX8_shortest 40 = .ok (.iload_n 2, 1) := by decide +kernel
theorem dX8_shortest_41 : decode cX8_shortest 41 = .ok (.iconst 2, 1) := by decide +kernel
theorem dX8_shortest_42 : decode cX8_shortest 42 = .ok (.iload 5, 2) := by decide +kernel
theorem dX8_shortest_44 : decode cX8_shortest 44 = .ok (.imul, 1) := by decide +kernel
theorem dX8_shortest_45 : decode cX8_shortest 45 = .ok (.isub, 1) := by decide +kernel
theorem dX8_shortest_46 : decode cX8_shortest 46 = .ok (.iconst 1, 1) := by decide +kernel
theorem dX8_shortest_47 : decode cX8_shortest 47 = .ok (.iadd, 1) := by decide +kernel
theorem dX8_shortest_48 : decode cX8_shortest 48 = .ok (.iaload, 1) := by decide +kernel
theorem dX8_shortest_49 : decode cX8_shortest 49 = .ok (.invokestatic 9, 3) := by decide +kernel
theorem dX8_shortest_52 : decode cX8_shortest 52 = .ok (.lsub, 1) := by decide +kernel
theorem dX8_shortest_53 : decode cX8_shortest 53 = .ok (.ladd, 1) := by decide +kernel
theorem dX8_shortest_54 : decode cX8_shortest 54 = .ok (.lstore_n 3, 1) := by decide +kernel
theorem dX8_shortest_55 : decode cX8_shortest 55 = .ok (.lload_n 3, 1) := by decide +kernel
theorem dX8_shortest_56 : decode cX8_shortest 56 = .ok (.lconst 0, 1) := by decide +kernel
theorem dX8_shortest_57 : decode cX8_shortest 57 = .ok (.lcmp, 1) := by decide +kernel
theorem dX8_shortest_58 : decode cX8_shortest 58 = .ok (.ifCond .ne 8, 3) := by decide +kernel
theorem dX8_shortest_61 : decode cX8_shortest 61 = .ok (.iconst 2, 1) := by decide +kernel
theorem dX8_shortest_62 : decode cX8_shortest 62 = .ok (.iload 5, 2) := by decide +kernel
theorem dX8_shortest_64 : decode cX8_shortest 64 = .ok (.imul, 1) := by decide +kernel
theorem dX8_shortest_65 : decode cX8_shortest 65 = .ok (.ireturn, 1) := by decide +kernel
theorem dX8_shortest_66 : decode cX8_shortest 66 = .ok (.iinc 5 1, 3) := by decide +kernel
theorem dX8_shortest_69 : decode cX8_shortest 69 = .ok (.goto (-64), 3) := by decide +kernel
theorem dX8_shortest_72 : decode cX8_shortest 72 = .ok (.iconst 0, 1) := by decide +kernel
theorem dX8_shortest_73 : decode cX8_shortest 73 = .ok (.ireturn, 1) := by decide +kernel
theorem dX8_weight_0 : decode cX8_weight 0 = .ok (.lconst 1, 1) := by decide +kernel
theorem dX8_weight_1 : decode cX8_weight 1 = .ok (.bipush 8, 2) := by decide +kernel
theorem dX8_weight_3 : decode cX8_weight 3 = .ok (.iload_n 0, 1) := by decide +kernel
theorem dX8_weight_4 : decode cX8_weight 4 = .ok (.imul, 1) := by decide +kernel
theorem dX8_weight_5 : decode cX8_weight 5 = .ok (.lshl, 1) := by decide +kernel
theorem dX8_weight_6 : decode cX8_weight 6 = .ok (.lreturn, 1) := by decide +kernel
theorem dJ6_bitCount_0f7a4_0 : decode cJ6_bitCount_0f7a4 0 = .ok (.iload_n 0, 1) := by decide +kernel
theorem dJ6_bitCount_0f7a4_1 : decode cJ6_bitCount_0f7a4 1 = .ok (.iload_n 0, 1) := by decide +kernel
theorem dJ6_bitCount_0f7a4_2 : decode cJ6_bitCount_0f7a4 2 = .ok (.iconst 1, 1) := by decide +kernel
theorem dJ6_bitCount_0f7a4_3 : decode cJ6_bitCount_0f7a4 3 = .ok (.iushr, 1) := by decide +kernel
theorem dJ6_bitCount_0f7a4_4 : decode cJ6_bitCount_0f7a4 4 = .ok (.ldc_w 265, 3) := by decide +kernel
theorem dJ6_bitCount_0f7a4_7 : decode cJ6_bitCount_0f7a4 7 = .ok (.iand, 1) := by decide +kernel
theorem dJ6_bitCount_0f7a4_8 : decode cJ6_bitCount_0f7a4 8 = .ok (.isub, 1) := by decide +kernel
theorem dJ6_bitCount_0f7a4_9 : decode cJ6_bitCount_0f7a4 9 = .ok (.istore_n 0, 1) := by decide +kernel
theorem dJ6_bitCount_0f7a4_10 : decode cJ6_bitCount_0f7a4 10 = .ok (.iload_n 0, 1) := by decide +kernel
theorem dJ6_bitCount_0f7a4_11 : decode cJ6_bitCount_0f7a4 11 = .ok (.ldc_w 266, 3) := by decide +kernel
theorem dJ6_bitCount_0f7a4_14 : decode cJ6_bitCount_0f7a4 14 = .ok (.iand, 1) := by decide +kernel
theorem dJ6_bitCount_0f7a4_15 : decode cJ6_bitCount_0f7a4 15 = .ok (.iload_n 0, 1) := by decide +kernel
theorem dJ6_bitCount_0f7a4_16 : decode cJ6_bitCount_0f7a4 16 = .ok (.iconst 2, 1) := by decide +kernel
theorem dJ6_bitCount_0f7a4_17 : decode cJ6_bitCount_0f7a4 17 = .ok (.iushr, 1) := by decide +kernel
theorem dJ6_bitCount_0f7a4_18 : decode cJ6_bitCount_0f7a4 18 = .ok (.ldc_w 266, 3) := by decide +kernel
theorem dJ6_bitCount_0f7a4_21 : decode cJ6_bitCount_0f7a4 21 = .ok (.iand, 1) := by decide +kernel
theorem dJ6_bitCount_0f7a4_22 : decode cJ6_bitCount_0f7a4 22 = .ok (.iadd, 1) := by decide +kernel
theorem dJ6_bitCount_0f7a4_23 : decode cJ6_bitCount_0f7a4 23 = .ok (.istore_n 0, 1) := by decide +kernel
theorem dJ6_bitCount_0f7a4_24 : decode cJ6_bitCount_0f7a4 24 = .ok (.iload_n 0, 1) := by decide +kernel
theorem dJ6_bitCount_0f7a4_25 : decode cJ6_bitCount_0f7a4 25 = .ok (.iload_n 0, 1) := by decide +kernel
theorem dJ6_bitCount_0f7a4_26 : decode cJ6_bitCount_0f7a4 26 = .ok (.iconst 4, 1) := by decide +kernel
theorem dJ6_bitCount_0f7a4_27 : decode cJ6_bitCount_0f7a4 27 = .ok (.iushr, 1) := by decide +kernel
theorem dJ6_bitCount_0f7a4_28 : decode cJ6_bitCount_0f7a4 28 = .ok (.iadd, 1) := by decide +kernel
theorem dJ6_bitCount_0f7a4_29 : decode cJ6_bitCount_0f7a4 29 = .ok (.ldc_w 267, 3) := by decide +kernel
theorem dJ6_bitCount_0f7a4_32 : decode cJ6_bitCount_0f7a4 32 = .ok (.iand, 1) := by decide +kernel
theorem dJ6_bitCount_0f7a4_33 : decode cJ6_bitCount_0f7a4 33 = .ok (.istore_n 0, 1) := by decide +kernel
theorem dJ6_bitCount_0f7a4_34 : decode cJ6_bitCount_0f7a4 34 = .ok (.iload_n 0, 1) := by decide +kernel
theorem dJ6_bitCount_0f7a4_35 : decode cJ6_bitCount_0f7a4 35 = .ok (.iload_n 0, 1) := by decide +kernel
theorem dJ6_bitCount_0f7a4_36 : decode cJ6_bitCount_0f7a4 36 = .ok (.bipush 8, 2) := by decide +kernel
theorem dJ6_bitCount_0f7a4_38 : decode cJ6_bitCount_0f7a4 38 = .ok (.iushr, 1) := by decide +kernel
theorem dJ6_bitCount_0f7a4_39 : decode cJ6_bitCount_0f7a4 39 = .ok (.iadd, 1) := by decide +kernel
theorem dJ6_bitCount_0f7a4_40 : decode cJ6_bitCount_0f7a4 40 = .ok (.istore_n 0, 1) := by decide +kernel
theorem dJ6_bitCount_0f7a4_41 : decode cJ6_bitCount_0f7a4 41 = .ok (.iload_n 0, 1) := by decide +kernel
theorem dJ6_bitCount_0f7a4_42 : decode cJ6_bitCount_0f7a4 42 = .ok (.iload_n 0, 1) := by decide +kernel
theorem dJ6_bitCount_0f7a4_43 : decode cJ6_bitCount_0f7a4 43 = .ok (.bipush 16, 2) := by decide +kernel
theorem dJ6_bitCount_0f7a4_45 : decode cJ6_bitCount_0f7a4 45 = .ok (.iushr, 1) := by decide +kernel
theorem dJ6_bitCount_0f7a4_46 : decode cJ6_bitCount_0f7a4 46 = .ok (.iadd, 1) := by decide +kernel
theorem dJ6_bitCount_0f7a4_47 : decode cJ6_bitCount_0f7a4 47 = .ok (.istore_n 0, 1) := by decide +kernel
theorem dJ6_bitCount_0f7a4_48 : decode cJ6_bitCount_0f7a4 48 = .ok (.iload_n 0, 1) := by decide +kernel
theorem dJ6_bitCount_0f7a4_49 : decode cJ6_bitCount_0f7a4 49 = .ok (.bipush 63, 2) := by decide +kernel
theorem dJ6_bitCount_0f7a4_51 : decode cJ6_bitCount_0f7a4 51 = .ok (.iand, 1) := by decide +kernel
theorem dJ6_bitCount_0f7a4_52 : decode cJ6_bitCount_0f7a4 52 = .ok (.ireturn, 1) := by decide +kernel
theorem dJ7_rangeCheck_23922_0 : decode cJ7_rangeCheck_23922 0 = .ok (.iload_n 1, 1) := by decide +kernel
theorem dJ7_rangeCheck_23922_1 : decode cJ7_rangeCheck_23922 1 = .ok (.iload_n 2, 1) := by decide +kernel
theorem dJ7_rangeCheck_23922_2 : decode cJ7_rangeCheck_23922 2 = .ok (.if_icmp .le 44, 3) := by decide +kernel
theorem dJ7_rangeCheck_23922_5 : decode cJ7_rangeCheck_23922 5 = .ok (.new 43, 3) := by decide +kernel
theorem dJ7_rangeCheck_23922_8 : decode cJ7_rangeCheck_23922 8 = .ok (.dup, 1) := by decide +kernel
theorem dJ7_rangeCheck_23922_9 : decode cJ7_rangeCheck_23922 9 = .ok (.new 45, 3) := by decide +kernel
theorem dJ7_rangeCheck_23922_12 : decode cJ7_rangeCheck_23922 12 = .ok (.dup, 1) := by decide +kernel
theorem dJ7_rangeCheck_23922_13 : decode cJ7_rangeCheck_23922 13 = .ok (.invokespecial 47, 3) := by decide +kernel
theorem dJ7_rangeCheck_23922_16 : decode cJ7_rangeCheck_23922 16 = .ok (.ldc 48, 2) := by decide +kernel
theorem dJ7_rangeCheck_23922_18 : decode cJ7_rangeCheck_23922 18 = .ok (.invokevirtual 50, 3) := by decide +kernel
theorem dJ7_rangeCheck_23922_21 : decode cJ7_rangeCheck_23922 21 = .ok (.iload_n 1, 1) := by decide +kernel
theorem dJ7_rangeCheck_23922_22 : decode cJ7_rangeCheck_23922 22 = .ok (.invokevirtual 54, 3) := by decide +kernel
theorem dJ7_rangeCheck_23922_25 : decode cJ7_rangeCheck_23922 25 = .ok (.ldc 57, 2) := by decide +kernel
theorem dJ7_rangeCheck_23922_27 : decode cJ7_rangeCheck_23922 27 = .ok (.invokevirtual 50, 3) := by decide +kernel
theorem dJ7_rangeCheck_23922_30 : decode cJ7_rangeCheck_23922 30 = .ok (.iload_n 2, 1) := by decide +kernel
theorem dJ7_rangeCheck_23922_31 : decode cJ7_rangeCheck_23922 31 = .ok (.invokevirtual 54, 3) := by decide +kernel
theorem dJ7_rangeCheck_23922_34 : decode cJ7_rangeCheck_23922 34 = .ok (.ldc 59, 2) := by decide +kernel
theorem dJ7_rangeCheck_23922_36 : decode cJ7_rangeCheck_23922 36 = .ok (.invokevirtual 50, 3) := by decide +kernel
theorem dJ7_rangeCheck_23922_39 : decode cJ7_rangeCheck_23922 39 = .ok (.invokevirtual 61, 3) := by decide +kernel
theorem dJ7_rangeCheck_23922_42 : decode cJ7_rangeCheck_23922 42 = .ok (.invokespecial 65, 3) := by decide +kernel
theorem dJ7_rangeCheck_23922_45 : decode cJ7_rangeCheck_23922 45 = .ok (.athrow, 1) := by decide +kernel
theorem dJ7_rangeCheck_23922_46 : decode cJ7_rangeCheck_23922 46 = .ok (.iload_n 1, 1) := by decide +kernel
theorem dJ7_rangeCheck_23922_47 : decode cJ7_rangeCheck_23922 47 = .ok (.ifCond .ge 12, 3) := by decide +kernel
theorem dJ7_rangeCheck_23922_50 : decode cJ7_rangeCheck_23922 50 = .ok (.new 68, 3) := by decide +kernel
theorem dJ7_rangeCheck_23922_53 : decode cJ7_rangeCheck_23922 53 = .ok (.dup, 1) := by decide +kernel
theorem dJ7_rangeCheck_23922_54 : decode cJ7_rangeCheck_23922 54 = .ok (.iload_n 1, 1) := by decide +kernel
theorem dJ7_rangeCheck_23922_55 : decode cJ7_rangeCheck_23922 55 = .ok (.invokespecial 70, 3) := by decide +kernel
theorem dJ7_rangeCheck_23922_58 : decode cJ7_rangeCheck_23922 58 = .ok (.athrow, 1) := by decide +kernel
theorem dJ7_rangeCheck_23922_59 : decode cJ7_rangeCheck_23922 59 = .ok (.iload_n 2, 1) := by decide +kernel
theorem dJ7_rangeCheck_23922_60 : decode cJ7_rangeCheck_23922 60 = .ok (.iload_n 0, 1) := by decide +kernel
theorem dJ7_rangeCheck_23922_61 : decode cJ7_rangeCheck_23922 61 = .ok (.if_icmp .le 12, 3) := by decide +kernel
theorem dJ7_rangeCheck_23922_64 : decode cJ7_rangeCheck_23922 64 = .ok (.new 68, 3) := by decide +kernel
theorem dJ7_rangeCheck_23922_67 : decode cJ7_rangeCheck_23922 67 = .ok (.dup, 1) := by decide +kernel
theorem dJ7_rangeCheck_23922_68 : decode cJ7_rangeCheck_23922 68 = .ok (.iload_n 2, 1) := by decide +kernel
theorem dJ7_rangeCheck_23922_69 : decode cJ7_rangeCheck_23922 69 = .ok (.invokespecial 70, 3) := by decide +kernel
theorem dJ7_rangeCheck_23922_72 : decode cJ7_rangeCheck_23922 72 = .ok (.athrow, 1) := by decide +kernel
theorem dJ7_rangeCheck_23922_73 : decode cJ7_rangeCheck_23922 73 = .ok (.return_, 1) := by decide +kernel
theorem dJ7_fill_bad5a_0 : decode cJ7_fill_bad5a 0 = .ok (.aload_n 0, 1) := by decide +kernel
theorem dJ7_fill_bad5a_1 : decode cJ7_fill_bad5a 1 = .ok (.arraylength, 1) := by decide +kernel
theorem dJ7_fill_bad5a_2 : decode cJ7_fill_bad5a 2 = .ok (.iload_n 1, 1) := by decide +kernel
theorem dJ7_fill_bad5a_3 : decode cJ7_fill_bad5a 3 = .ok (.iload_n 2, 1) := by decide +kernel
theorem dJ7_fill_bad5a_4 : decode cJ7_fill_bad5a 4 = .ok (.invokestatic 13, 3) := by decide +kernel
theorem dJ7_fill_bad5a_7 : decode cJ7_fill_bad5a 7 = .ok (.iload_n 1, 1) := by decide +kernel
theorem dJ7_fill_bad5a_8 : decode cJ7_fill_bad5a 8 = .ok (.istore 5, 2) := by decide +kernel
theorem dJ7_fill_bad5a_10 : decode cJ7_fill_bad5a 10 = .ok (.iload 5, 2) := by decide +kernel
theorem dJ7_fill_bad5a_12 : decode cJ7_fill_bad5a 12 = .ok (.iload_n 2, 1) := by decide +kernel
theorem dJ7_fill_bad5a_13 : decode cJ7_fill_bad5a 13 = .ok (.if_icmp .ge 14, 3) := by decide +kernel
theorem dJ7_fill_bad5a_16 : decode cJ7_fill_bad5a 16 = .ok (.aload_n 0, 1) := by decide +kernel
theorem dJ7_fill_bad5a_17 : decode cJ7_fill_bad5a 17 = .ok (.iload 5, 2) := by decide +kernel
theorem dJ7_fill_bad5a_19 : decode cJ7_fill_bad5a 19 = .ok (.lload_n 3, 1) := by decide +kernel
theorem dJ7_fill_bad5a_20 : decode cJ7_fill_bad5a 20 = .ok (.lastore, 1) := by decide +kernel
theorem dJ7_fill_bad5a_21 : decode cJ7_fill_bad5a 21 = .ok (.iinc 5 1, 3) := by decide +kernel
theorem dJ7_fill_bad5a_24 : decode cJ7_fill_bad5a 24 = .ok (.goto (-14), 3) := by decide +kernel
theorem dJ7_fill_bad5a_27 : decode cJ7_fill_bad5a 27 = .ok (.return_, 1) := by decide +kernel
theorem dJ7_fill_53178_0 : decode cJ7_fill_53178 0 = .ok (.iconst 0, 1) := by decide +kernel
theorem dJ7_fill_53178_1 : decode cJ7_fill_53178 1 = .ok (.istore_n 2, 1) := by decide +kernel
theorem dJ7_fill_53178_2 : decode cJ7_fill_53178 2 = .ok (.aload_n 0, 1) := by decide +kernel
theorem dJ7_fill_53178_3 : decode cJ7_fill_53178 3 = .ok (.arraylength, 1) := by decide +kernel
theorem dJ7_fill_53178_4 : decode cJ7_fill_53178 4 = .ok (.istore_n 3, 1) := by decide +kernel
theorem dJ7_fill_53178_5 : decode cJ7_fill_53178 5 = .ok (.iload_n 2, 1) := by decide +kernel
theorem dJ7_fill_53178_6 : decode cJ7_fill_53178 6 = .ok (.iload_n 3, 1) := by decide +kernel
theorem dJ7_fill_53178_7 : decode cJ7_fill_53178 7 = .ok (.if_icmp .ge 13, 3) := by decide +kernel
theorem dJ7_fill_53178_10 : decode cJ7_fill_53178 10 = .ok (.aload_n 0, 1) := by decide +kernel
theorem dJ7_fill_53178_11 : decode cJ7_fill_53178 11 = .ok (.iload_n 2, 1) := by decide +kernel
theorem dJ7_fill_53178_12 : decode cJ7_fill_53178 12 = .ok (.iload_n 1, 1) := by decide +kernel
theorem dJ7_fill_53178_13 : decode cJ7_fill_53178 13 = .ok (.iastore, 1) := by decide +kernel
theorem dJ7_fill_53178_14 : decode cJ7_fill_53178 14 = .ok (.iinc 2 1, 3) := by decide +kernel
theorem dJ7_fill_53178_17 : decode cJ7_fill_53178 17 = .ok (.goto (-12), 3) := by decide +kernel
theorem dJ7_fill_53178_20 : decode cJ7_fill_53178 20 = .ok (.return_, 1) := by decide +kernel
theorem dJ7_fill_fda19_0 : decode cJ7_fill_fda19 0 = .ok (.aload_n 0, 1) := by decide +kernel
theorem dJ7_fill_fda19_1 : decode cJ7_fill_fda19 1 = .ok (.arraylength, 1) := by decide +kernel
theorem dJ7_fill_fda19_2 : decode cJ7_fill_fda19 2 = .ok (.iload_n 1, 1) := by decide +kernel
theorem dJ7_fill_fda19_3 : decode cJ7_fill_fda19 3 = .ok (.iload_n 2, 1) := by decide +kernel
theorem dJ7_fill_fda19_4 : decode cJ7_fill_fda19 4 = .ok (.invokestatic 13, 3) := by decide +kernel
theorem dJ7_fill_fda19_7 : decode cJ7_fill_fda19 7 = .ok (.iload_n 1, 1) := by decide +kernel
theorem dJ7_fill_fda19_8 : decode cJ7_fill_fda19 8 = .ok (.istore 4, 2) := by decide +kernel
theorem dJ7_fill_fda19_10 : decode cJ7_fill_fda19 10 = .ok (.iload 4, 2) := by decide +kernel
theorem dJ7_fill_fda19_12 : decode cJ7_fill_fda19 12 = .ok (.iload_n 2, 1) := by decide +kernel
theorem dJ7_fill_fda19_13 : decode cJ7_fill_fda19 13 = .ok (.if_icmp .ge 14, 3) := by decide +kernel
theorem dJ7_fill_fda19_16 : decode cJ7_fill_fda19 16 = .ok (.aload_n 0, 1) := by decide +kernel
theorem dJ7_fill_fda19_17 : decode cJ7_fill_fda19 17 = .ok (.iload 4, 2) := by decide +kernel
theorem dJ7_fill_fda19_19 : decode cJ7_fill_fda19 19 = .ok (.iload_n 3, 1) := by decide +kernel
theorem dJ7_fill_fda19_20 : decode cJ7_fill_fda19 20 = .ok (.iastore, 1) := by decide +kernel
theorem dJ7_fill_fda19_21 : decode cJ7_fill_fda19 21 = .ok (.iinc 4 1, 3) := by decide +kernel
theorem dJ7_fill_fda19_24 : decode cJ7_fill_fda19 24 = .ok (.goto (-14), 3) := by decide +kernel
theorem dJ7_fill_fda19_27 : decode cJ7_fill_fda19 27 = .ok (.return_, 1) := by decide +kernel
theorem dJ7_copyOf_59c91_0 : decode cJ7_copyOf_59c91 0 = .ok (.iload_n 1, 1) := by decide +kernel
theorem dJ7_copyOf_59c91_1 : decode cJ7_copyOf_59c91 1 = .ok (.aload_n 0, 1) := by decide +kernel
theorem dJ7_copyOf_59c91_2 : decode cJ7_copyOf_59c91 2 = .ok (.arraylength, 1) := by decide +kernel
theorem dJ7_copyOf_59c91_3 : decode cJ7_copyOf_59c91 3 = .ok (.if_icmp .ne 11, 3) := by decide +kernel
theorem dJ7_copyOf_59c91_6 : decode cJ7_copyOf_59c91 6 = .ok (.aload_n 0, 1) := by decide +kernel
theorem dJ7_copyOf_59c91_7 : decode cJ7_copyOf_59c91 7 = .ok (.invokevirtual 316, 3) := by decide +kernel
theorem dJ7_copyOf_59c91_10 : decode cJ7_copyOf_59c91 10 = .ok (.checkcast 317, 3) := by decide +kernel
theorem dJ7_copyOf_59c91_13 : decode cJ7_copyOf_59c91 13 = .ok (.areturn, 1) := by decide +kernel
theorem dJ7_copyOf_59c91_14 : decode cJ7_copyOf_59c91 14 = .ok (.iload_n 1, 1) := by decide +kernel
theorem dJ7_copyOf_59c91_15 : decode cJ7_copyOf_59c91 15 = .ok (.newarray .int, 2) := by decide +kernel
theorem dJ7_copyOf_59c91_17 : decode cJ7_copyOf_59c91 17 = .ok (.astore_n 2, 1) := by decide +kernel
theorem dJ7_copyOf_59c91_18 : decode cJ7_copyOf_59c91 18 = .ok (.aload_n 0, 1) := by decide +kernel
theorem dJ7_copyOf_59c91_19 : decode cJ7_copyOf_59c91 19 = .ok (.iconst 0, 1) := by decide +kernel
theorem dJ7_copyOf_59c91_20 : decode cJ7_copyOf_59c91 20 = .ok (.aload_n 2, 1) := by decide +kernel
theorem dJ7_copyOf_59c91_21 : decode cJ7_copyOf_59c91 21 = .ok (.iconst 0, 1) := by decide +kernel
theorem dJ7_copyOf_59c91_22 : decode cJ7_copyOf_59c91 22 = .ok (.aload_n 0, 1) := by decide +kernel
theorem dJ7_copyOf_59c91_23 : decode cJ7_copyOf_59c91 23 = .ok (.arraylength, 1) := by decide +kernel
theorem dJ7_copyOf_59c91_24 : decode cJ7_copyOf_59c91 24 = .ok (.iload_n 1, 1) := by decide +kernel
theorem dJ7_copyOf_59c91_25 : decode cJ7_copyOf_59c91 25 = .ok (.invokestatic 304, 3) := by decide +kernel
theorem dJ7_copyOf_59c91_28 : decode cJ7_copyOf_59c91 28 = .ok (.invokestatic 150, 3) := by decide +kernel
theorem dJ7_copyOf_59c91_31 : decode cJ7_copyOf_59c91 31 = .ok (.aload_n 2, 1) := by decide +kernel
theorem dJ7_copyOf_59c91_32 : decode cJ7_copyOf_59c91 32 = .ok (.areturn, 1) := by decide +kernel
theorem dJ9_max_7cf53_0 : decode cJ9_max_7cf53 0 = .ok (.iload_n 0, 1) := by decide +kernel
theorem dJ9_max_7cf53_1 : decode cJ9_max_7cf53 1 = .ok (.iload_n 1, 1) := by decide +kernel
theorem dJ9_max_7cf53_2 : decode cJ9_max_7cf53 2 = .ok (.if_icmp .lt 7, 3) := by decide +kernel
theorem dJ9_max_7cf53_5 : decode cJ9_max_7cf53 5 = .ok (.iload_n 0, 1) := by decide +kernel
theorem dJ9_max_7cf53_6 : decode cJ9_max_7cf53 6 = .ok (.goto 4, 3) := by decide +kernel
theorem dJ9_max_7cf53_9 : decode cJ9_max_7cf53 9 = .ok (.iload_n 1, 1) := by decide +kernel
theorem dJ9_max_7cf53_10 : decode cJ9_max_7cf53 10 = .ok (.ireturn, 1) := by decide +kernel
theorem dJ9_min_7cf53_0 : decode cJ9_min_7cf53 0 = .ok (.iload_n 0, 1) := by decide +kernel
theorem dJ9_min_7cf53_1 : decode cJ9_min_7cf53 1 = .ok (.iload_n 1, 1) := by decide +kernel
theorem dJ9_min_7cf53_2 : decode cJ9_min_7cf53 2 = .ok (.if_icmp .gt 7, 3) := by decide +kernel
theorem dJ9_min_7cf53_5 : decode cJ9_min_7cf53 5 = .ok (.iload_n 0, 1) := by decide +kernel
theorem dJ9_min_7cf53_6 : decode cJ9_min_7cf53 6 = .ok (.goto 4, 3) := by decide +kernel
theorem dJ9_min_7cf53_9 : decode cJ9_min_7cf53 9 = .ok (.iload_n 1, 1) := by decide +kernel
theorem dJ9_min_7cf53_10 : decode cJ9_min_7cf53 10 = .ok (.ireturn, 1) := by decide +kernel
theorem dJ9_min_f86c9_0 : decode cJ9_min_f86c9 0 = .ok (.lload_n 0, 1) := by decide +kernel
theorem dJ9_min_f86c9_1 : decode cJ9_min_f86c9 1 = .ok (.lload_n 2, 1) := by decide +kernel
theorem dJ9_min_f86c9_2 : decode cJ9_min_f86c9 2 = .ok (.lcmp, 1) := by decide +kernel
theorem dJ9_min_f86c9_3 : decode cJ9_min_f86c9 3 = .ok (.ifCond .gt 7, 3) := by decide +kernel
theorem dJ9_min_f86c9_6 : decode cJ9_min_f86c9 6 = .ok (.lload_n 0, 1) := by decide +kernel
theorem dJ9_min_f86c9_7 : decode cJ9_min_f86c9 7 = .ok (.goto 4, 3) := by decide +kernel
theorem dJ9_min_f86c9_10 : decode cJ9_min_f86c9 10 = .ok (.lload_n 2, 1) := by decide +kernel
theorem dJ9_min_f86c9_11 : decode cJ9_min_f86c9 11 = .ok (.lreturn, 1) := by decide +kernel
