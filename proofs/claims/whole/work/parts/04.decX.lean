theorem dX0_init_0 : decode cX0_init 0 = .ok (.aload_n 0, 1) := by decide +kernel
theorem dX0_init_1 : decode cX0_init 1 = .ok (.invokespecial 1, 3) := by decide +kernel
theorem dX0_init_4 : decode cX0_init 4 = .ok (.aload_n 0, 1) := by decide +kernel
theorem dX0_init_5 : decode cX0_init 5 = .ok (.bipush 64, 2) := by decide +kernel
theorem dX0_init_7 : decode cX0_init 7 = .ok (.newarray .byte, 2) := by decide +kernel
theorem dX0_init_9 : decode cX0_init 9 = .ok (.putfield 7, 3) := by decide +kernel
theorem dX0_init_12 : decode cX0_init 12 = .ok (.return_, 1) := by decide +kernel
theorem dX0_size_0 : decode cX0_size 0 = .ok (.aload_n 0, 1) := by decide +kernel
theorem dX0_size_1 : decode cX0_size 1 = .ok (.getfield 13, 3) := by decide +kernel
theorem dX0_size_4 : decode cX0_size 4 = .ok (.ireturn, 1) := by decide +kernel
theorem dX0_at_0 : decode cX0_at 0 = .ok (.aload_n 0, 1) := by decide +kernel
theorem dX0_at_1 : decode cX0_at 1 = .ok (.getfield 7, 3) := by decide +kernel
theorem dX0_at_4 : decode cX0_at 4 = .ok (.iload_n 1, 1) := by decide +kernel
theorem dX0_at_5 : decode cX0_at 5 = .ok (.baload, 1) := by decide +kernel
theorem dX0_at_6 : decode cX0_at 6 = .ok (.sipush 255, 3) := by decide +kernel
theorem dX0_at_9 : decode cX0_at 9 = .ok (.iand, 1) := by decide +kernel
theorem dX0_at_10 : decode cX0_at 10 = .ok (.ireturn, 1) := by decide +kernel
theorem dX0_append_0 : decode cX0_append 0 = .ok (.aload_n 0, 1) := by decide +kernel
theorem dX0_append_1 : decode cX0_append 1 = .ok (.getfield 13, 3) := by decide +kernel
theorem dX0_append_4 : decode cX0_append 4 = .ok (.iload_n 3, 1) := by decide +kernel
theorem dX0_append_5 : decode cX0_append 5 = .ok (.iadd, 1) := by decide +kernel
theorem dX0_append_6 : decode cX0_append 6 = .ok (.aload_n 0, 1) := by decide +kernel
theorem dX0_append_7 : decode cX0_append 7 = .ok (.getfield 7, 3) := by decide +kernel
theorem dX0_append_10 : decode cX0_append 10 = .ok (.arraylength, 1) := by decide +kernel
theorem dX0_append_11 : decode cX0_append 11 = .ok (.if_icmp .le 21, 3) := by decide +kernel
theorem dX0_append_14 : decode cX0_append 14 = .ok (.aload_n 0, 1) := by decide +kernel
theorem dX0_append_15 : decode cX0_append 15 = .ok (.aload_n 0, 1) := by decide +kernel
theorem dX0_append_16 : decode cX0_append 16 = .ok (.getfield 7, 3) := by decide +kernel
theorem dX0_append_19 : decode cX0_append 19 = .ok (.iconst 2, 1) := by decide +kernel
theorem dX0_append_20 : decode cX0_append 20 = .ok (.aload_n 0, 1) := by decide +kernel
theorem dX0_append_21 : decode cX0_append 21 = .ok (.getfield 7, 3) := by decide +kernel
theorem dX0_append_24 : decode cX0_append 24 = .ok (.arraylength, 1) := by decide +kernel
theorem dX0_append_25 : decode cX0_append 25 = .ok (.imul, 1) := by decide +kernel
theorem dX0_append_26 : decode cX0_append 26 = .ok (.invokestatic 17, 3) := by decide +kernel
theorem dX0_append_29 : decode cX0_append 29 = .ok (.putfield 7, 3) := by decide +kernel
theorem dX0_append_32 : decode cX0_append 32 = .ok (.iload_n 3, 1) := by decide +kernel
theorem dX0_append_33 : decode cX0_append 33 = .ok (.iconst 1, 1) := by decide +kernel
theorem dX0_append_34 : decode cX0_append 34 = .ok (.isub, 1) := by decide +kernel
theorem dX0_append_35 : decode cX0_append 35 = .ok (.istore 4, 2) := by decide +kernel
theorem dX0_append_37 : decode cX0_append 37 = .ok (.iload 4, 2) := by decide +kernel
theorem dX0_append_39 : decode cX0_append 39 = .ok (.ifCond .lt 37, 3) := by decide +kernel
theorem dX0_append_42 : decode cX0_append 42 = .ok (.aload_n 0, 1) := by decide +kernel
theorem dX0_append_43 : decode cX0_append 43 = .ok (.getfield 7, 3) := by decide +kernel
theorem dX0_append_46 : decode cX0_append 46 = .ok (.aload_n 0, 1) := by decide +kernel
theorem dX0_append_47 : decode cX0_append 47 = .ok (.getfield 13, 3) := by decide +kernel
theorem dX0_append_50 : decode cX0_append 50 = .ok (.lload_n 1, 1) := by decide +kernel
theorem dX0_append_51 : decode cX0_append 51 = .ok (.bipush 8, 2) := by decide +kernel
theorem dX0_append_53 : decode cX0_append 53 = .ok (.iload 4, 2) := by decide +kernel
theorem dX0_append_55 : decode cX0_append 55 = .ok (.imul, 1) := by decide +kernel
theorem dX0_append_56 : decode cX0_append 56 = .ok (.lshr, 1) := by decide +kernel
theorem dX0_append_57 : decode cX0_append 57 = .ok (.l2i, 1) := by decide +kernel
theorem dX0_append_58 : decode cX0_append 58 = .ok (.i2b, 1) := by decide +kernel
theorem dX0_append_59 : decode cX0_append 59 = .ok (.bastore, 1) := by decide +kernel
theorem dX0_append_60 : decode cX0_append 60 = .ok (.aload_n 0, 1) := by decide +kernel
theorem dX0_append_61 : decode cX0_append 61 = .ok (.dup, 1) := by decide +kernel
theorem dX0_append_62 : decode cX0_append 62 = .ok (.getfield 13, 3) := by decide +kernel
theorem dX0_append_65 : decode cX0_append 65 = .ok (.iconst 1, 1) := by decide +kernel
theorem dX0_append_66 : decode cX0_append 66 = .ok (.iadd, 1) := by decide +kernel
theorem dX0_append_67 : decode cX0_append 67 = .ok (.putfield 13, 3) := by decide +kernel
theorem dX0_append_70 : decode cX0_append 70 = .ok (.iinc 4 (-1), 3) := by decide +kernel
theorem dX0_append_73 : decode cX0_append 73 = .ok (.goto (-36), 3) := by decide +kernel
theorem dX0_append_76 : decode cX0_append 76 = .ok (.return_, 1) := by decide +kernel
theorem dX0_appendAll_0 : decode cX0_appendAll 0 = .ok (.aload_n 0, 1) := by decide +kernel
theorem dX0_appendAll_1 : decode cX0_appendAll 1 = .ok (.getfield 13, 3) := by decide +kernel
theorem dX0_appendAll_4 : decode cX0_appendAll 4 = .ok (.aload_n 1, 1) := by decide +kernel
theorem dX0_appendAll_5 : decode cX0_appendAll 5 = .ok (.arraylength, 1) := by decide +kernel
theorem dX0_appendAll_6 : decode cX0_appendAll 6 = .ok (.iadd, 1) := by decide +kernel
theorem dX0_appendAll_7 : decode cX0_appendAll 7 = .ok (.aload_n 0, 1) := by decide +kernel
theorem dX0_appendAll_8 : decode cX0_appendAll 8 = .ok (.getfield 7, 3) := by decide +kernel
theorem dX0_appendAll_11 : decode cX0_appendAll 11 = .ok (.arraylength, 1) := by decide +kernel
theorem dX0_appendAll_12 : decode cX0_appendAll 12 = .ok (.if_icmp .le 31, 3) := by decide +kernel
theorem dX0_appendAll_15 : decode cX0_appendAll 15 = .ok (.aload_n 0, 1) := by decide +kernel
theorem dX0_appendAll_16 : decode cX0_appendAll 16 = .ok (.aload_n 0, 1) := by decide +kernel
theorem dX0_appendAll_17 : decode cX0_appendAll 17 = .ok (.getfield 7, 3) := by decide +kernel
theorem dX0_appendAll_20 : decode cX0_appendAll 20 = .ok (.aload_n 0, 1) := by decide +kernel
theorem dX0_appendAll_21 : decode cX0_appendAll 21 = .ok (.getfield 13, 3) := by decide +kernel
theorem dX0_appendAll_24 : decode cX0_appendAll 24 = .ok (.aload_n 1, 1) := by decide +kernel
theorem dX0_appendAll_25 : decode cX0_appendAll 25 = .ok (.arraylength, 1) := by decide +kernel
theorem dX0_appendAll_26 : decode cX0_appendAll 26 = .ok (.iadd, 1) := by decide +kernel
theorem dX0_appendAll_27 : decode cX0_appendAll 27 = .ok (.iconst 2, 1) := by decide +kernel
theorem dX0_appendAll_28 : decode cX0_appendAll 28 = .ok (.aload_n 0, 1) := by decide +kernel
theorem dX0_appendAll_29 : decode cX0_appendAll 29 = .ok (.getfield 7, 3) := by decide +kernel
theorem dX0_appendAll_32 : decode cX0_appendAll 32 = .ok (.arraylength, 1) := by decide +kernel
theorem dX0_appendAll_33 : decode cX0_appendAll 33 = .ok (.imul, 1) := by decide +kernel
theorem dX0_appendAll_34 : decode cX0_appendAll 34 = .ok (.invokestatic 23, 3) := by decide +kernel
theorem dX0_appendAll_37 : decode cX0_appendAll 37 = .ok (.invokestatic 17, 3) := by decide +kernel
theorem dX0_appendAll_40 : decode cX0_appendAll 40 = .ok (.putfield 7, 3) := by decide +kernel
theorem dX0_appendAll_43 : decode cX0_appendAll 43 = .ok (.aload_n 1, 1) := by decide +kernel
theorem dX0_appendAll_44 : decode cX0_appendAll 44 = .ok (.iconst 0, 1) := by decide +kernel
theorem dX0_appendAll_45 : decode cX0_appendAll 45 = .ok (.aload_n 0, 1) := by decide +kernel
theorem dX0_appendAll_46 : decode cX0_appendAll 46 = .ok (.getfield 7, 3) := by decide +kernel
theorem dX0_appendAll_49 : decode cX0_appendAll 49 = .ok (.aload_n 0, 1) := by decide +kernel
theorem dX0_appendAll_50 : decode cX0_appendAll 50 = .ok (.getfield 13, 3) := by decide +kernel
theorem dX0_appendAll_53 : decode cX0_appendAll 53 = .ok (.aload_n 1, 1) := by decide +kernel
theorem dX0_appendAll_54 : decode cX0_appendAll 54 = .ok (.arraylength, 1) := by decide +kernel
theorem dX0_appendAll_55 : decode cX0_appendAll 55 = .ok (.invokestatic 29, 3) := by decide +kernel
theorem dX0_appendAll_58 : decode cX0_appendAll 58 = .ok (.aload_n 0, 1) := by decide +kernel
theorem dX0_appendAll_59 : decode cX0_appendAll 59 = .ok (.dup, 1) := by decide +kernel
theorem dX0_appendAll_60 : decode cX0_appendAll 60 = .ok (.getfield 13, 3) := by decide +kernel
theorem dX0_appendAll_63 : decode cX0_appendAll 63 = .ok (.aload_n 1, 1) := by decide +kernel
theorem dX0_appendAll_64 : decode cX0_appendAll 64 = .ok (.arraylength, 1) := by decide +kernel
theorem dX0_appendAll_65 : decode cX0_appendAll 65 = .ok (.iadd, 1) := by decide +kernel
theorem dX0_appendAll_66 : decode cX0_appendAll 66 = .ok (.putfield 13, 3) := by decide +kernel
theorem dX0_appendAll_69 : decode cX0_appendAll 69 = .ok (.return_, 1) := by decide +kernel
theorem dX0_cut_0 : decode cX0_cut 0 = .ok (.aload_n 0, 1) := by decide +kernel
theorem dX0_cut_1 : decode cX0_cut 1 = .ok (.iload_n 1, 1) := by decide +kernel
theorem dX0_cut_2 : decode cX0_cut 2 = .ok (.putfield 13, 3) := by decide +kernel
theorem dX0_cut_5 : decode cX0_cut 5 = .ok (.return_, 1) := by decide +kernel
theorem dX0_bigEndian_0 : decode cX0_bigEndian 0 = .ok (.lconst 0, 1) := by decide +kernel
theorem dX0_bigEndian_1 : decode cX0_bigEndian 1 = .ok (.lstore_n 3, 1) := by decide +kernel
theorem dX0_bigEndian_2 : decode cX0_bigEndian 2 = .ok (.iconst 0, 1) := by decide +kernel
theorem dX0_bigEndian_3 : decode cX0_bigEndian 3 = .ok (.istore 5, 2) := by decide +kernel
theorem dX0_bigEndian_5 : decode cX0_bigEndian 5 = .ok (.iload 5, 2) := by decide +kernel
theorem dX0_bigEndian_7 : decode cX0_bigEndian 7 = .ok (.iload_n 2, 1) := by decide +kernel
theorem dX0_bigEndian_8 : decode cX0_bigEndian 8 = .ok (.if_icmp .ge 29, 3) := by decide +kernel
theorem dX0_bigEndian_11 : decode cX0_bigEndian 11 = .ok (.lload_n 3, 1) := by decide +kernel
theorem dX0_bigEndian_12 : decode cX0_bigEndian 12 = .ok (.bipush 8, 2) := by decide +kernel
theorem dX0_bigEndian_14 : decode cX0_bigEndian 14 = .ok (.lshl, 1) := by decide +kernel
theorem dX0_bigEndian_15 : decode cX0_bigEndian 15 = .ok (.aload_n 0, 1) := by decide +kernel
theorem dX0_bigEndian_16 : decode cX0_bigEndian 16 = .ok (.getfield 7, 3) := by decide +kernel
theorem dX0_bigEndian_19 : decode cX0_bigEndian 19 = .ok (.iload_n 1, 1) := by decide +kernel
theorem dX0_bigEndian_20 : decode cX0_bigEndian 20 = .ok (.iload 5, 2) := by decide +kernel
theorem dX0_bigEndian_22 : decode cX0_bigEndian 22 = .ok (.iadd, 1) := by decide +kernel
theorem dX0_bigEndian_23 : decode cX0_bigEndian 23 = .ok (.baload, 1) := by decide +kernel
theorem dX0_bigEndian_24 : decode cX0_bigEndian 24 = .ok (.sipush 255, 3) := by decide +kernel
theorem dX0_bigEndian_27 : decode cX0_bigEndian 27 = .ok (.iand, 1) := by decide +kernel
theorem dX0_bigEndian_28 : decode cX0_bigEndian 28 = .ok (.i2l, 1) := by decide +kernel
theorem dX0_bigEndian_29 : decode cX0_bigEndian 29 = .ok (.lor, 1) := by decide +kernel
theorem dX0_bigEndian_30 : decode cX0_bigEndian 30 = .ok (.lstore_n 3, 1) := by decide +kernel
theorem dX0_bigEndian_31 : decode cX0_bigEndian 31 = .ok (.iinc 5 1, 3) := by decide +kernel
theorem dX0_bigEndian_34 : decode cX0_bigEndian 34 = .ok (.goto (-29), 3) := by decide +kernel
theorem dX0_bigEndian_37 : decode cX0_bigEndian 37 = .ok (.lload_n 3, 1) := by decide +kernel
theorem dX0_bigEndian_38 : decode cX0_bigEndian 38 = .ok (.lreturn, 1) := by decide +kernel
theorem dX0_slice_0 : decode cX0_slice 0 = .ok (.iload_n 2, 1) := by decide +kernel
theorem dX0_slice_1 : decode cX0_slice 1 = .ok (.ifCond .ne 9, 3) := by decide +kernel
theorem dX0_slice_4 : decode cX0_slice 4 = .ok (.getstatic 35, 3) := by decide +kernel
theorem dX0_slice_7 : decode cX0_slice 7 = .ok (.goto 14, 3) := by decide +kernel
theorem dX0_slice_10 : decode cX0_slice 10 = .ok (.aload_n 0, 1) := by decide +kernel
theorem dX0_slice_11 : decode cX0_slice 11 = .ok (.getfield 7, 3) := by decide +kernel
theorem dX0_slice_14 : decode cX0_slice 14 = .ok (.iload_n 1, 1) := by decide +kernel
theorem dX0_slice_15 : decode cX0_slice 15 = .ok (.iload_n 1, 1) := by decide +kernel
theorem dX0_slice_16 : decode cX0_slice 16 = .ok (.iload_n 2, 1) := by decide +kernel
theorem dX0_slice_17 : decode cX0_slice 17 = .ok (.iadd, 1) := by decide +kernel
theorem dX0_slice_18 : decode cX0_slice 18 = .ok (.invokestatic 40, 3) := by decide +kernel
theorem dX0_slice_21 : decode cX0_slice 21 = .ok (.areturn, 1) := by decide +kernel
theorem dX0_hasSameBytes_0 : decode cX0_hasSameBytes 0 = .ok (.aload_n 0, 1) := by decide +kernel
theorem dX0_hasSameBytes_1 : decode cX0_hasSameBytes 1 = .ok (.getfield 13, 3) := by decide +kernel
theorem dX0_hasSameBytes_4 : decode cX0_hasSameBytes 4 = .ok (.aload_n 1, 1) := by decide +kernel
theorem dX0_hasSameBytes_5 : decode cX0_hasSameBytes 5 = .ok (.getfield 13, 3) := by decide +kernel
theorem dX0_hasSameBytes_8 : decode cX0_hasSameBytes 8 = .ok (.if_icmp .eq 5, 3) := by decide +kernel
theorem dX0_hasSameBytes_11 : decode cX0_hasSameBytes 11 = .ok (.iconst 0, 1) := by decide +kernel
theorem dX0_hasSameBytes_12 : decode cX0_hasSameBytes 12 = .ok (.ireturn, 1) := by decide +kernel
theorem dX0_hasSameBytes_13 : decode cX0_hasSameBytes 13 = .ok (.iconst 0, 1) := by decide +kernel
theorem dX0_hasSameBytes_14 : decode cX0_hasSameBytes 14 = .ok (.istore_n 2, 1) := by decide +kernel
theorem dX0_hasSameBytes_15 : decode cX0_hasSameBytes 15 = .ok (.iload_n 2, 1) := by decide +kernel
theorem dX0_hasSameBytes_16 : decode cX0_hasSameBytes 16 = .ok (.aload_n 0, 1) := by decide +kernel
theorem dX0_hasSameBytes_17 : decode cX0_hasSameBytes 17 = .ok (.getfield 13, 3) := by decide +kernel
theorem dX0_hasSameBytes_20 : decode cX0_hasSameBytes 20 = .ok (.if_icmp .ge 26, 3) := by decide +kernel
theorem dX0_hasSameBytes_23 : decode cX0_hasSameBytes 23 = .ok (.aload_n 0, 1) := by decide +kernel
theorem dX0_hasSameBytes_24 : decode cX0_hasSameBytes 24 = .ok (.getfield 7, 3) := by decide +kernel
theorem dX0_hasSameBytes_27 : decode cX0_hasSameBytes 27 = .ok (.iload_n 2, 1) := by decide +kernel
theorem dX0_hasSameBytes_28 : decode cX0_hasSameBytes 28 = .ok (.baload, 1) := by decide +kernel
theorem dX0_hasSameBytes_29 : decode cX0_hasSameBytes 29 = .ok (.aload_n 1, 1) := by decide +kernel
theorem dX0_hasSameBytes_30 : decode cX0_hasSameBytes 30 = .ok (.getfield 7, 3) := by decide +kernel
theorem dX0_hasSameBytes_33 : decode cX0_hasSameBytes 33 = .ok (.iload_n 2, 1) := by decide +kernel
theorem dX0_hasSameBytes_34 : decode cX0_hasSameBytes 34 = .ok (.baload, 1) := by decide +kernel
theorem dX0_hasSameBytes_35 : decode cX0_hasSameBytes 35 = .ok (.if_icmp .eq 5, 3) := by decide +kernel
theorem dX0_hasSameBytes_38 : decode cX0_hasSameBytes 38 = .ok (.iconst 0, 1) := by decide +kernel
theorem dX0_hasSameBytes_39 : decode cX0_hasSameBytes 39 = .ok (.ireturn, 1) := by decide +kernel
theorem dX0_hasSameBytes_40 : decode cX0_hasSameBytes 40 = .ok (.iinc 2 1, 3) := by decide +kernel
theorem dX0_hasSameBytes_43 : decode cX0_hasSameBytes 43 = .ok (.goto (-28), 3) := by decide +kernel
theorem dX0_hasSameBytes_46 : decode cX0_hasSameBytes 46 = .ok (.iconst 1, 1) := by decide +kernel
theorem dX0_hasSameBytes_47 : decode cX0_hasSameBytes 47 = .ok (.ireturn, 1) := by decide +kernel
theorem dX1_firstWrong_0 : decode cX1_firstWrong 0 = .ok (.iload_n 1, 1) := by decide +kernel
theorem dX1_firstWrong_1 : decode cX1_firstWrong 1 = .ok (.istore_n 3, 1) := by decide +kernel
theorem dX1_firstWrong_2 : decode cX1_firstWrong 2 = .ok (.iload_n 3, 1) := by decide +kernel
theorem dX1_firstWrong_3 : decode cX1_firstWrong 3 = .ok (.iload_n 2, 1) := by decide +kernel
theorem dX1_firstWrong_4 : decode cX1_firstWrong 4 = .ok (.if_icmp .ge 26, 3) := by decide +kernel
theorem dX1_firstWrong_7 : decode cX1_firstWrong 7 = .ok (.aload_n 0, 1) := by decide +kernel
theorem dX1_firstWrong_8 : decode cX1_firstWrong 8 = .ok (.iload_n 3, 1) := by decide +kernel
theorem dX1_firstWrong_9 : decode cX1_firstWrong 9 = .ok (.iload_n 2, 1) := by decide +kernel
theorem dX1_firstWrong_10 : decode cX1_firstWrong 10 = .ok (.invokestatic 9, 3) := by decide +kernel
theorem dX1_firstWrong_13 : decode cX1_firstWrong 13 = .ok (.istore 4, 2) := by decide +kernel
theorem dX1_firstWrong_15 : decode cX1_firstWrong 15 = .ok (.iload 4, 2) := by decide +kernel
theorem dX1_firstWrong_17 : decode cX1_firstWrong 17 = .ok (.ifCond .gt 5, 3) := by decide +kernel
theorem dX1_firstWrong_20 : decode cX1_firstWrong 20 = .ok (.iload_n 3, 1) := by decide +kernel
theorem dX1_firstWrong_21 : decode cX1_firstWrong 21 = .ok (.ireturn, 1) := by decide +kernel
theorem dX1_firstWrong_22 : decode cX1_firstWrong 22 = .ok (.iload_n 3, 1) := by decide +kernel
theorem dX1_firstWrong_23 : decode cX1_firstWrong 23 = .ok (.iload 4, 2) := by decide +kernel
theorem dX1_firstWrong_25 : decode cX1_firstWrong 25 = .ok (.iadd, 1) := by decide +kernel
theorem dX1_firstWrong_26 : decode cX1_firstWrong 26 = .ok (.istore_n 3, 1) := by decide +kernel
theorem dX1_firstWrong_27 : decode cX1_firstWrong 27 = .ok (.goto (-25), 3) := by decide +kernel
theorem dX1_firstWrong_30 : decode cX1_firstWrong 30 = .ok (.iconst (-1), 1) := by decide +kernel
theorem dX1_firstWrong_31 : decode cX1_firstWrong 31 = .ok (.ireturn, 1) := by decide +kernel
theorem dX1_lengthAt_0 : decode cX1_lengthAt 0 = .ok (.aload_n 0, 1) := by decide +kernel
theorem dX1_lengthAt_1 : decode cX1_lengthAt 1 = .ok (.iload_n 1, 1) := by decide +kernel
theorem dX1_lengthAt_2 : decode cX1_lengthAt 2 = .ok (.invokevirtual 15, 3) := by decide +kernel
theorem dX1_lengthAt_5 : decode cX1_lengthAt 5 = .ok (.istore_n 3, 1) := by decide +kernel
theorem dX1_lengthAt_6 : decode cX1_lengthAt 6 = .ok (.iload_n 3, 1) := by decide +kernel
theorem dX1_lengthAt_7 : decode cX1_lengthAt 7 = .ok (.invokestatic 21, 3) := by decide +kernel
theorem dX1_lengthAt_10 : decode cX1_lengthAt 10 = .ok (.istore 4, 2) := by decide +kernel
theorem dX1_lengthAt_12 : decode cX1_lengthAt 12 = .ok (.iload 4, 2) := by decide +kernel
theorem dX1_lengthAt_14 : decode cX1_lengthAt 14 = .ok (.iconst 1, 1) := by decide +kernel
theorem dX1_lengthAt_15 : decode cX1_lengthAt 15 = .ok (.if_icmp .le 11, 3) := by decide +kernel
theorem dX1_lengthAt_18 : decode cX1_lengthAt 18 = .ok (.iload 4, 2) := by decide +kernel
theorem dX1_lengthAt_20 : decode cX1_lengthAt 20 = .ok (.iload_n 2, 1) := by decide +kernel
theorem dX1_lengthAt_21 : decode cX1_lengthAt 21 = .ok (.iload_n 1, 1) := by decide +kernel
theorem dX1_lengthAt_22 : decode cX1_lengthAt 22 = .ok (.isub, 1) := by decide +kernel
theorem dX1_lengthAt_23 : decode cX1_lengthAt 23 = .ok (.if_icmp .le 15, 3) := by decide +kernel
theorem dX1_lengthAt_26 : decode cX1_lengthAt 26 = .ok (.iload 4, 2) := by decide +kernel
theorem dX1_lengthAt_28 : decode cX1_lengthAt 28 = .ok (.iconst 1, 1) := by decide +kernel
theorem dX1_lengthAt_29 : decode cX1_lengthAt 29 = .ok (.if_icmp .ne 7, 3) := by decide +kernel
theorem dX1_lengthAt_32 : decode cX1_lengthAt 32 = .ok (.iconst 1, 1) := by decide +kernel
theorem dX1_lengthAt_33 : decode cX1_lengthAt 33 = .ok (.goto 4, 3) := by decide +kernel
theorem dX1_lengthAt_36 : decode cX1_lengthAt 36 = .ok (.iconst 0, 1) := by decide +kernel
theorem dX1_lengthAt_37 : decode cX1_lengthAt 37 = .ok (.ireturn, 1) := by decide +kernel
theorem dX1_lengthAt_38 : decode cX1_lengthAt 38 = .ok (.iload_n 3, 1) := by decide +kernel
theorem dX1_lengthAt_39 : decode cX1_lengthAt 39 = .ok (.bipush 127, 2) := by decide +kernel
theorem dX1_lengthAt_41 : decode cX1_lengthAt 41 = .ok (.iload 4, 2) := by decide +kernel
theorem dX1_lengthAt_43 : decode cX1_lengthAt 43 = .ok (.ishr, 1) := by decide +kernel
theorem dX1_lengthAt_44 : decode cX1_lengthAt 44 = .ok (.iand, 1) := by decide +kernel
theorem dX1_lengthAt_45 : decode cX1_lengthAt 45 = .ok (.istore 5, 2) := by decide +kernel
theorem dX1_lengthAt_47 : decode cX1_lengthAt 47 = .ok (.iconst 1, 1) := by decide +kernel
theorem dX1_lengthAt_48 : decode cX1_lengthAt 48 = .ok (.istore 6, 2) := by decide +kernel
theorem dX1_lengthAt_50 : decode cX1_lengthAt 50 = .ok (.iload 6, 2) := by decide +kernel
theorem dX1_lengthAt_52 : decode cX1_lengthAt 52 = .ok (.iload 4, 2) := by decide +kernel
theorem dX1_lengthAt_54 : decode cX1_lengthAt 54 = .ok (.if_icmp .ge 46, 3) := by decide +kernel
theorem dX1_lengthAt_57 : decode cX1_lengthAt 57 = .ok (.aload_n 0, 1) := by decide +kernel
theorem dX1_lengthAt_58 : decode cX1_lengthAt 58 = .ok (.iload_n 1, 1) := by decide +kernel
theorem dX1_lengthAt_59 : decode cX1_lengthAt 59 = .ok (.iload 6, 2) := by decide +kernel
theorem dX1_lengthAt_61 : decode cX1_lengthAt 61 = .ok (.iadd, 1) := by decide +kernel
theorem dX1_lengthAt_62 : decode cX1_lengthAt 62 = .ok (.invokevirtual 15, 3) := by decide +kernel
theorem dX1_lengthAt_65 : decode cX1_lengthAt 65 = .ok (.istore 7, 2) := by decide +kernel
theorem dX1_lengthAt_67 : decode cX1_lengthAt 67 = .ok (.iload 7, 2) := by decide +kernel
theorem dX1_lengthAt_69 : decode cX1_lengthAt 69 = .ok (.sipush 192, 3) := by decide +kernel
theorem dX1_lengthAt_72 : decode cX1_lengthAt 72 = .ok (.iand, 1) := by decide +kernel
theorem dX1_lengthAt_73 : decode cX1_lengthAt 73 = .ok (.sipush 128, 3) := by decide +kernel
theorem dX1_lengthAt_76 : decode cX1_lengthAt 76 = .ok (.if_icmp .eq 5, 3) := by decide +kernel
theorem dX1_lengthAt_79 : decode cX1_lengthAt 79 = .ok (.iconst 0, 1) := by decide +kernel
theorem dX1_lengthAt_80 : decode cX1_lengthAt 80 = .ok (.ireturn, 1) := by decide +kernel
theorem dX1_lengthAt_81 : decode cX1_lengthAt 81 = .ok (.iload 5, 2) := by decide +kernel
theorem dX1_lengthAt_83 : decode cX1_lengthAt 83 = .ok (.bipush 6, 2) := by decide +kernel
theorem dX1_lengthAt_85 : decode cX1_lengthAt 85 = .ok (.ishl, 1) := by decide +kernel
theorem dX1_lengthAt_86 : decode cX1_lengthAt 86 = .ok (.iload 7, 2) := by decide +kernel
theorem dX1_lengthAt_88 : decode cX1_lengthAt 88 = .ok (.bipush 63, 2) := by decide +kernel
theorem dX1_lengthAt_90 : decode cX1_lengthAt 90 = .ok (.iand, 1) := by decide +kernel
theorem dX1_lengthAt_91 : decode cX1_lengthAt 91 = .ok (.ior, 1) := by decide +kernel
theorem dX1_lengthAt_92 : decode cX1_lengthAt 92 = .ok (.istore 5, 2) := by decide +kernel
theorem dX1_lengthAt_94 : decode cX1_lengthAt 94 = .ok (.iinc 6 1, 3) := by decide +kernel
theorem dX1_lengthAt_97 : decode cX1_lengthAt 97 = .ok (.goto (-47), 3) := by decide +kernel
theorem dX1_lengthAt_100 : decode cX1_lengthAt 100 = .ok (.iload 5, 2) := by decide +kernel
theorem dX1_lengthAt_102 : decode cX1_lengthAt 102 = .ok (.invokestatic 24, 3) := by decide +kernel
theorem dX1_lengthAt_105 : decode cX1_lengthAt 105 = .ok (.iload 4, 2) := by decide +kernel
theorem dX1_lengthAt_107 : decode cX1_lengthAt 107 = .ok (.if_icmp .ne 8, 3) := by decide +kernel
theorem dX1_lengthAt_110 : decode cX1_lengthAt 110 = .ok (.iload 4, 2) := by decide +kernel
theorem dX1_lengthAt_112 : decode cX1_lengthAt 112 = .ok (.goto 4, 3) := by decide +kernel
theorem dX1_lengthAt_115 : decode cX1_lengthAt 115 = .ok (.iconst 0, 1) := by decide +kernel
theorem dX1_lengthAt_116 : decode cX1_lengthAt 116 = .ok (.ireturn, 1) := by decide +kernel
theorem dX1_saidLength_0 : decode cX1_saidLength 0 = .ok (.iload_n 0, 1) := by decide +kernel
theorem dX1_saidLength_1 : decode cX1_saidLength 1 = .ok (.sipush 128, 3) := by decide +kernel
theorem dX1_saidLength_4 : decode cX1_saidLength 4 = .ok (.if_icmp .ge 5, 3) := by decide +kernel
theorem dX1_saidLength_7 : decode cX1_saidLength 7 = .ok (.iconst 1, 1) := by decide +kernel
theorem dX1_saidLength_8 : decode cX1_saidLength 8 = .ok (.ireturn, 1) := by decide +kernel
theorem dX1_saidLength_9 : decode cX1_saidLength 9 = .ok (.iload_n 0, 1) := by decide +kernel
theorem dX1_saidLength_10 : decode cX1_saidLength 10 = .ok (.sipush 192, 3) := by decide +kernel
theorem dX1_saidLength_13 : decode cX1_saidLength 13 = .ok (.if_icmp .ge 5, 3) := by decide +kernel
theorem dX1_saidLength_16 : decode cX1_saidLength 16 = .ok (.iconst 0, 1) := by decide +kernel
theorem dX1_saidLength_17 : decode cX1_saidLength 17 = .ok (.ireturn, 1) := by decide +kernel
theorem dX1_saidLength_18 : decode cX1_saidLength 18 = .ok (.iload_n 0, 1) := by decide +kernel
theorem dX1_saidLength_19 : decode cX1_saidLength 19 = .ok (.sipush 224, 3) := by decide +kernel
theorem dX1_saidLength_22 : decode cX1_saidLength 22 = .ok (.if_icmp .ge 5, 3) := by decide +kernel
theorem dX1_saidLength_25 : decode cX1_saidLength 25 = .ok (.iconst 2, 1) := by decide +kernel
theorem dX1_saidLength_26 : decode cX1_saidLength 26 = .ok (.ireturn, 1) := by decide +kernel
theorem dX1_saidLength_27 : decode cX1_saidLength 27 = .ok (.iload_n 0, 1) := by decide +kernel
theorem dX1_saidLength_28 : decode cX1_saidLength 28 = .ok (.sipush 240, 3) := by decide +kernel
theorem dX1_saidLength_31 : decode cX1_saidLength 31 = .ok (.if_icmp .ge 5, 3) := by decide +kernel
theorem dX1_saidLength_34 : decode cX1_saidLength 34 = .ok (.iconst 3, 1) := by decide +kernel
theorem dX1_saidLength_35 : decode cX1_saidLength 35 = .ok (.ireturn, 1) := by decide +kernel
theorem dX1_saidLength_36 : decode cX1_saidLength 36 = .ok (.iload_n 0, 1) := by decide +kernel
theorem dX1_saidLength_37 : decode cX1_saidLength 37 = .ok (.sipush 248, 3) := by decide +kernel
theorem dX1_saidLength_40 : decode cX1_saidLength 40 = .ok (.if_icmp .ge 7, 3) := by decide +kernel
theorem dX1_saidLength_43 : decode cX1_saidLength 43 = .ok (.iconst 4, 1) := by decide +kernel
theorem dX1_saidLength_44 : decode cX1_saidLength 44 = .ok (.goto 4, 3) := by decide +kernel
theorem dX1_saidLength_47 : decode cX1_saidLength 47 = .ok (.iconst 0, 1) := by decide +kernel
theorem dX1_saidLength_48 : decode cX1_saidLength 48 = .ok (.ireturn, 1) := by decide +kernel
theorem dX1_shortestLength_0 : decode cX1_shortestLength 0 = .ok (.iload_n 0, 1) := by decide +kernel
theorem dX1_shortestLength_1 : decode cX1_shortestLength 1 = .ok (.ldc 27, 2) := by decide +kernel
theorem dX1_shortestLength_3 : decode cX1_shortestLength 3 = .ok (.if_icmp .gt 15, 3) := by decide +kernel
theorem dX1_shortestLength_6 : decode cX1_shortestLength 6 = .ok (.iload_n 0, 1) := by decide +kernel
theorem dX1_shortestLength_7 : decode cX1_shortestLength 7 = .ok (.ldc 28, 2) := by decide +kernel
theorem dX1_shortestLength_9 : decode cX1_shortestLength 9 = .ok (.if_icmp .lt 11, 3) := by decide +kernel
theorem dX1_shortestLength_12 : decode cX1_shortestLength 12 = .ok (.iload_n 0, 1) := by decide +kernel
theorem dX1_shortestLength_13 : decode cX1_shortestLength 13 = .ok (.ldc 29, 2) := by decide +kernel
theorem dX1_shortestLength_15 : decode cX1_shortestLength 15 = .ok (.if_icmp .gt 5, 3) := by decide +kernel
theorem dX1_shortestLength_18 : decode cX1_shortestLength 18 = .ok (.iconst 0, 1) := by decide +kernel
theorem dX1_shortestLength_19 : decode cX1_shortestLength 19 = .ok (.ireturn, 1) := by decide +kernel
theorem dX1_shortestLength_20 : decode cX1_shortestLength 20 = .ok (.iload_n 0, 1) := by decide +kernel
theorem dX1_shortestLength_21 : decode cX1_shortestLength 21 = .ok (.sipush 128, 3) := by decide +kernel
theorem dX1_shortestLength_24 : decode cX1_shortestLength 24 = .ok (.if_icmp .ge 5, 3) := by decide +kernel
theorem dX1_shortestLength_27 : decode cX1_shortestLength 27 = .ok (.iconst 1, 1) := by decide +kernel
theorem dX1_shortestLength_28 : decode cX1_shortestLength 28 = .ok (.ireturn, 1) := by decide +kernel
theorem dX1_shortestLength_29 : decode cX1_shortestLength 29 = .ok (.iload_n 0, 1) := by decide +kernel
theorem dX1_shortestLength_30 : decode cX1_shortestLength 30 = .ok (.sipush 2048, 3) := by decide +kernel
theorem dX1_shortestLength_33 : decode cX1_shortestLength 33 = .ok (.if_icmp .ge 5, 3) := by decide +kernel
theorem dX1_shortestLength_36 : decode cX1_shortestLength 36 = .ok (.iconst 2, 1) := by decide +kernel
theorem dX1_shortestLength_37 : decode cX1_shortestLength 37 = .ok (.ireturn, 1) := by decide +kernel
theorem dX1_shortestLength_38 : decode cX1_shortestLength 38 = .ok (.iload_n 0, 1) := by decide +kernel
theorem dX1_shortestLength_39 : decode cX1_shortestLength 39 = .ok (.ldc 30, 2) := by decide +kernel
theorem dX1_shortestLength_41 : decode cX1_shortestLength 41 = .ok (.if_icmp .ge 7, 3) := by decide +kernel
theorem dX1_shortestLength_44 : decode cX1_shortestLength 44 = .ok (.iconst 3, 1) := by decide +kernel
theorem dX1_shortestLength_45 : decode cX1_shortestLength 45 = .ok (.goto 4, 3) := by decide +kernel
theorem dX1_shortestLength_48 : decode cX1_shortestLength 48 = .ok (.iconst 4, 1) := by decide +kernel
theorem dX1_shortestLength_49 : decode cX1_shortestLength 49 = .ok (.ireturn, 1) := by decide +kernel
theorem dX2_init_0 : decode cX2_init 0 = .ok (.aload_n 0, 1) := by decide +kernel
theorem dX2_init_1 : decode cX2_init 1 = .ok (.invokespecial 3, 3) := by decide +kernel
theorem dX2_init_4 : decode cX2_init 4 = .ok (.return_, 1) := by decide +kernel
theorem dX2_look_0 : decode cX2_look 0 = .ok (.aload_n 1, 1) := by decide +kernel
theorem dX2_look_1 : decode cX2_look 1 = .ok (.iload_n 2, 1) := by decide +kernel
theorem dX2_look_2 : decode cX2_look 2 = .ok (.invokevirtual 9, 3) := by decide +kernel
theorem dX2_look_5 : decode cX2_look 5 = .ok (.istore_n 3, 1) := by decide +kernel
theorem dX2_look_6 : decode cX2_look 6 = .ok (.aload_n 0, 1) := by decide +kernel
theorem dX2_look_7 : decode cX2_look 7 = .ok (.iconst 0, 1) := by decide +kernel
theorem dX2_look_8 : decode cX2_look 8 = .ok (.putfield 15, 3) := by decide +kernel
theorem dX2_look_11 : decode cX2_look 11 = .ok (.iload_n 3, 1) := by decide +kernel
theorem dX2_look_12 : decode cX2_look 12 = .ok (.sipush 128, 3) := by decide +kernel
theorem dX2_look_15 : decode cX2_look 15 = .ok (.if_icmp .lt 10, 3) := by decide +kernel
theorem dX2_look_18 : decode cX2_look 18 = .ok (.iload_n 3, 1) := by decide +kernel
theorem dX2_look_19 : decode cX2_look 19 = .ok (.sipush 224, 3) := by decide +kernel
theorem dX2_look_22 : decode cX2_look 22 = .ok (.if_icmp .lt 13, 3) := by decide +kernel
theorem dX2_look_25 : decode cX2_look 25 = .ok (.aload_n 0, 1) := by decide +kernel
theorem dX2_look_26 : decode cX2_look 26 = .ok (.iconst 2, 1) := by decide +kernel
theorem dX2_look_27 : decode cX2_look 27 = .ok (.iconst 1, 1) := by decide +kernel
theorem dX2_look_28 : decode cX2_look 28 = .ok (.lconst 0, 1) := by decide +kernel
theorem dX2_look_29 : decode cX2_look 29 = .ok (.invokevirtual 21, 3) := by decide +kernel
theorem dX2_look_32 : decode cX2_look 32 = .ok (.goto 81, 3) := by decide +kernel
theorem dX2_look_35 : decode cX2_look 35 = .ok (.iload_n 3, 1) := by decide +kernel
theorem dX2_look_36 : decode cX2_look 36 = .ok (.sipush 144, 3) := by decide +kernel
theorem dX2_look_39 : decode cX2_look 39 = .ok (.if_icmp .ge 20, 3) := by decide +kernel
theorem dX2_look_42 : decode cX2_look 42 = .ok (.aload_n 0, 1) := by decide +kernel
theorem dX2_look_43 : decode cX2_look 43 = .ok (.bipush 8, 2) := by decide +kernel
theorem dX2_look_45 : decode cX2_look 45 = .ok (.iconst 1, 1) := by decide +kernel
theorem dX2_look_46 : decode cX2_look 46 = .ok (.iconst 2, 1) := by decide +kernel
theorem dX2_look_47 : decode cX2_look 47 = .ok (.iload_n 3, 1) := by decide +kernel
theorem dX2_look_48 : decode cX2_look 48 = .ok (.bipush 15, 2) := by decide +kernel
theorem dX2_look_50 : decode cX2_look 50 = .ok (.iand, 1) := by decide +kernel
theorem dX2_look_51 : decode cX2_look 51 = .ok (.imul, 1) := by decide +kernel
theorem dX2_look_52 : decode cX2_look 52 = .ok (.i2l, 1) := by decide +kernel
theorem dX2_look_53 : decode cX2_look 53 = .ok (.invokevirtual 21, 3) := by decide +kernel
theorem dX2_look_56 : decode cX2_look 56 = .ok (.goto 57, 3) := by decide +kernel
theorem dX2_look_59 : decode cX2_look 59 = .ok (.iload_n 3, 1) := by decide +kernel
theorem dX2_look_60 : decode cX2_look 60 = .ok (.sipush 160, 3) := by decide +kernel
theorem dX2_look_63 : decode cX2_look 63 = .ok (.if_icmp .ge 18, 3) := by decide +kernel
theorem dX2_look_66 : decode cX2_look 66 = .ok (.aload_n 0, 1) := by decide +kernel
theorem dX2_look_67 : decode cX2_look 67 = .ok (.bipush 7, 2) := by decide +kernel
theorem dX2_look_69 : decode cX2_look 69 = .ok (.iconst 1, 1) := by decide +kernel
theorem dX2_look_70 : decode cX2_look 70 = .ok (.iload_n 3, 1) := by decide +kernel
theorem dX2_look_71 : decode cX2_look 71 = .ok (.bipush 15, 2) := by decide +kernel
theorem dX2_look_73 : decode cX2_look 73 = .ok (.iand, 1) := by decide +kernel
theorem dX2_look_74 : decode cX2_look 74 = .ok (.i2l, 1) := by decide +kernel
theorem dX2_look_75 : decode cX2_look 75 = .ok (.invokevirtual 21, 3) := by decide +kernel
theorem dX2_look_78 : decode cX2_look 78 = .ok (.goto 35, 3) := by decide +kernel
theorem dX2_look_81 : decode cX2_look 81 = .ok (.iload_n 3, 1) := by decide +kernel
theorem dX2_look_82 : decode cX2_look 82 = .ok (.sipush 192, 3) := by decide +kernel
theorem dX2_look_85 : decode cX2_look 85 = .ok (.if_icmp .ge 17, 3) := by decide +kernel
theorem dX2_look_88 : decode cX2_look 88 = .ok (.aload_n 0, 1) := by decide +kernel
theorem dX2_look_89 : decode cX2_look 89 = .ok (.iconst 5, 1) := by decide +kernel
theorem dX2_look_90 : decode cX2_look 90 = .ok (.iconst 1, 1) := by decide +kernel
theorem dX2_look_91 : decode cX2_look 91 = .ok (.iload_n 3, 1) := by decide +kernel
theorem dX2_look_92 : decode cX2_look 92 = .ok (.bipush 31, 2) := by decide +kernel
theorem dX2_look_94 : decode cX2_look 94 = .ok (.iand, 1) := by decide +kernel
theorem dX2_look_95 : decode cX2_look 95 = .ok (.i2l, 1) := by decide +kernel
theorem dX2_look_96 : decode cX2_look 96 = .ok (.invokevirtual 21, 3) := by decide +kernel
theorem dX2_look_99 : decode cX2_look 99 = .ok (.goto 14, 3) := by decide +kernel
theorem dX2_look_102 : decode cX2_look 102 = .ok (.aload_n 0, 1) := by decide +kernel
theorem dX2_look_103 : decode cX2_look 103 = .ok (.aload_n 1, 1) := by decide +kernel
theorem dX2_look_104 : decode cX2_look 104 = .ok (.iload_n 2, 1) := by decide +kernel
theorem dX2_look_105 : decode cX2_look 105 = .ok (.iload_n 3, 1) := by decide +kernel
theorem dX2_look_106 : decode cX2_look 106 = .ok (.sipush 192, 3) := by decide +kernel
theorem dX2_look_109 : decode cX2_look 109 = .ok (.isub, 1) := by decide +kernel
theorem dX2_look_110 : decode cX2_look 110 = .ok (.invokevirtual 25, 3) := by decide +kernel
theorem dX2_look_113 : decode cX2_look 113 = .ok (.aload_n 0, 1) := by decide +kernel
theorem dX2_look_114 : decode cX2_look 114 = .ok (.getfield 29, 3) := by decide +kernel
theorem dX2_look_117 : decode cX2_look 117 = .ok (.bipush 9, 2) := by decide +kernel
theorem dX2_look_119 : decode cX2_look 119 = .ok (.if_icmp .ne 14, 3) := by decide +kernel
theorem dX2_look_122 : decode cX2_look 122 = .ok (.aload_n 0, 1) := by decide +kernel
theorem dX2_look_123 : decode cX2_look 123 = .ok (.aload_n 1, 1) := by decide +kernel
theorem dX2_look_124 : decode cX2_look 124 = .ok (.iload_n 2, 1) := by decide +kernel
theorem dX2_look_125 : decode cX2_look 125 = .ok (.aload_n 0, 1) := by decide +kernel
theorem dX2_look_126 : decode cX2_look 126 = .ok (.getfield 32, 3) := by decide +kernel
theorem dX2_look_129 : decode cX2_look 129 = .ok (.iadd, 1) := by decide +kernel
theorem dX2_look_130 : decode cX2_look 130 = .ok (.invokevirtual 35, 3) := by decide +kernel
theorem dX2_look_133 : decode cX2_look 133 = .ok (.return_, 1) := by decide +kernel
theorem dX2_isGroup_0 : decode cX2_isGroup 0 = .ok (.aload_n 0, 1) := by decide +kernel
theorem dX2_isGroup_1 : decode cX2_isGroup 1 = .ok (.getfield 29, 3) := by decide +kernel
theorem dX2_isGroup_4 : decode cX2_isGroup 4 = .ok (.bipush 7, 2) := by decide +kernel
theorem dX2_isGroup_6 : decode cX2_isGroup 6 = .ok (.if_icmp .eq 12, 3) := by decide +kernel
theorem dX2_isGroup_9 : decode cX2_isGroup 9 = .ok (.aload_n 0, 1) := by decide +kernel
theorem dX2_isGroup_10 : decode cX2_isGroup 10 = .ok (.getfield 29, 3) := by decide +kernel
theorem dX2_isGroup_13 : decode cX2_isGroup 13 = .ok (.bipush 8, 2) := by decide +kernel
theorem dX2_isGroup_15 : decode cX2_isGroup 15 = .ok (.if_icmp .ne 7, 3) := by decide +kernel
theorem dX2_isGroup_18 : decode cX2_isGroup 18 = .ok (.iconst 1, 1) := by decide +kernel
theorem dX2_isGroup_19 : decode cX2_isGroup 19 = .ok (.goto 4, 3) := by decide +kernel
theorem dX2_isGroup_22 : decode cX2_isGroup 22 = .ok (.iconst 0, 1) := by decide +kernel
theorem dX2_isGroup_23 : decode cX2_isGroup 23 = .ok (.ireturn, 1) := by decide +kernel
theorem dX2_ownBytes_0 : decode cX2_ownBytes 0 = .ok (.aload_n 0, 1) := by decide +kernel
theorem dX2_ownBytes_1 : decode cX2_ownBytes 1 = .ok (.invokevirtual 39, 3) := by decide +kernel
theorem dX2_ownBytes_4 : decode cX2_ownBytes 4 = .ok (.ifCond .eq 11, 3) := by decide +kernel
theorem dX2_ownBytes_7 : decode cX2_ownBytes 7 = .ok (.aload_n 0, 1) := by decide +kernel
theorem dX2_ownBytes_8 : decode cX2_ownBytes 8 = .ok (.getfield 32, 3) := by decide +kernel
theorem dX2_ownBytes_11 : decode cX2_ownBytes 11 = .ok (.i2l, 1) := by decide +kernel
theorem dX2_ownBytes_12 : decode cX2_ownBytes 12 = .ok (.goto 13, 3) := by decide +kernel
theorem dX2_ownBytes_15 : decode cX2_ownBytes 15 = .ok (.aload_n 0, 1) := by decide +kernel
theorem dX2_ownBytes_16 : decode cX2_ownBytes 16 = .ok (.getfield 32, 3) := by decide +kernel
theorem dX2_ownBytes_19 : decode cX2_ownBytes 19 = .ok (.i2l, 1) := by decide +kernel
theorem dX2_ownBytes_20 : decode cX2_ownBytes 20 = .ok (.aload_n 0, 1) := by decide +kernel
theorem dX2_ownBytes_21 : decode cX2_ownBytes 21 = .ok (.getfield 43, 3) := by decide +kernel
theorem dX2_ownBytes_24 : decode cX2_ownBytes 24 = .ok (.ladd, 1) := by decide +kernel
theorem dX2_ownBytes_25 : decode cX2_ownBytes 25 = .ok (.lreturn, 1) := by decide +kernel
theorem dX2_lookUp_0 : decode cX2_lookUp 0 = .ok (.getstatic 47, 3) := by decide +kernel
theorem dX2_lookUp_3 : decode cX2_lookUp 3 = .ok (.iload_n 3, 1) := by decide +kernel
theorem dX2_lookUp_4 : decode cX2_lookUp 4 = .ok (.iaload, 1) := by decide +kernel
theorem dX2_lookUp_5 : decode cX2_lookUp 5 = .ok (.istore 4, 2) := by decide +kernel
theorem dX2_lookUp_7 : decode cX2_lookUp 7 = .ok (.getstatic 51, 3) := by decide +kernel
theorem dX2_lookUp_10 : decode cX2_lookUp 10 = .ok (.iload_n 3, 1) := by decide +kernel
theorem dX2_lookUp_11 : decode cX2_lookUp 11 = .ok (.iaload, 1) := by decide +kernel
theorem dX2_lookUp_12 : decode cX2_lookUp 12 = .ok (.i2l, 1) := by decide +kernel
theorem dX2_lookUp_13 : decode cX2_lookUp 13 = .ok (.lstore 5, 2) := by decide +kernel
theorem dX2_lookUp_15 : decode cX2_lookUp 15 = .ok (.iload 4, 2) := by decide +kernel
theorem dX2_lookUp_17 : decode cX2_lookUp 17 = .ok (.ifCond .le 25, 3) := by decide +kernel
theorem dX2_lookUp_20 : decode cX2_lookUp 20 = .ok (.iload 4, 2) := by decide +kernel
theorem dX2_lookUp_22 : decode cX2_lookUp 22 = .ok (.aload_n 1, 1) := by decide +kernel
theorem dX2_lookUp_23 : decode cX2_lookUp 23 = .ok (.invokevirtual 54, 3) := by decide +kernel
theorem dX2_lookUp_26 : decode cX2_lookUp 26 = .ok (.iload_n 2, 1) := by decide +kernel
theorem dX2_lookUp_27 : decode cX2_lookUp 27 = .ok (.isub, 1) := by decide +kernel
theorem dX2_lookUp_28 : decode cX2_lookUp 28 = .ok (.if_icmp .ge 14, 3) := by decide +kernel
theorem dX2_lookUp_31 : decode cX2_lookUp 31 = .ok (.aload_n 1, 1) := by decide +kernel
theorem dX2_lookUp_32 : decode cX2_lookUp 32 = .ok (.iload_n 2, 1) := by decide +kernel
theorem dX2_lookUp_33 : decode cX2_lookUp 33 = .ok (.iconst 1, 1) := by decide +kernel
theorem dX2_lookUp_34 : decode cX2_lookUp 34 = .ok (.iadd, 1) := by decide +kernel
theorem dX2_lookUp_35 : decode cX2_lookUp 35 = .ok (.iload 4, 2) := by decide +kernel
theorem dX2_lookUp_37 : decode cX2_lookUp 37 = .ok (.invokevirtual 58, 3) := by decide +kernel
theorem dX2_lookUp_40 : decode cX2_lookUp 40 = .ok (.lstore 5, 2) := by decide +kernel
theorem dX2_lookUp_42 : decode cX2_lookUp 42 = .ok (.aload_n 0, 1) := by decide +kernel
theorem dX2_lookUp_43 : decode cX2_lookUp 43 = .ok (.getstatic 62, 3) := by decide +kernel
theorem dX2_lookUp_46 : decode cX2_lookUp 46 = .ok (.iload_n 3, 1) := by decide +kernel
theorem dX2_lookUp_47 : decode cX2_lookUp 47 = .ok (.iaload, 1) := by decide +kernel
theorem dX2_lookUp_48 : decode cX2_lookUp 48 = .ok (.iconst 1, 1) := by decide +kernel
theorem dX2_lookUp_49 : decode cX2_lookUp 49 = .ok (.iload 4, 2) := by decide +kernel
theorem dX2_lookUp_51 : decode cX2_lookUp 51 = .ok (.iadd, 1) := by decide +kernel
theorem dX2_lookUp_52 : decode cX2_lookUp 52 = .ok (.getstatic 62, 3) := by decide +kernel
theorem dX2_lookUp_55 : decode cX2_lookUp 55 = .ok (.iload_n 3, 1) := by decide +kernel
theorem dX2_lookUp_56 : decode cX2_lookUp 56 = .ok (.iaload, 1) := by decide +kernel
theorem dX2_lookUp_57 : decode cX2_lookUp 57 = .ok (.bipush 8, 2) := by decide +kernel
theorem dX2_lookUp_59 : decode cX2_lookUp 59 = .ok (.if_icmp .ne 12, 3) := by decide +kernel
theorem dX2_lookUp_62 : decode cX2_lookUp 62 = .ok (.ldc2_w 65, 3) := by decide +kernel
theorem dX2_lookUp_65 : decode cX2_lookUp 65 = .ok (.lload 5, 2) := by decide +kernel
theorem dX2_lookUp_67 : decode cX2_lookUp 67 = .ok (.lmul, 1) := by decide +kernel
theorem dX2_lookUp_68 : decode cX2_lookUp 68 = .ok (.goto 5, 3) := by decide +kernel
theorem dX2_lookUp_71 : decode cX2_lookUp 71 = .ok (.lload 5, 2) := by decide +kernel
theorem dX2_lookUp_73 : decode cX2_lookUp 73 = .ok (.invokevirtual 21, 3) := by decide +kernel
theorem dX2_lookUp_76 : decode cX2_lookUp 76 = .ok (.return_, 1) := by decide +kernel
theorem dX2_lookAtType_0 : decode cX2_lookAtType 0 = .ok (.aload_n 0, 1) := by decide +kernel
theorem dX2_lookAtType_1 : decode cX2_lookAtType 1 = .ok (.dup, 1) := by decide +kernel
theorem dX2_lookAtType_2 : decode cX2_lookAtType 2 = .ok (.getfield 32, 3) := by decide +kernel
theorem dX2_lookAtType_5 : decode cX2_lookAtType 5 = .ok (.iconst 1, 1) := by decide +kernel
theorem dX2_lookAtType_6 : decode cX2_lookAtType 6 = .ok (.iadd, 1) := by decide +kernel
theorem dX2_lookAtType_7 : decode cX2_lookAtType 7 = .ok (.putfield 32, 3) := by decide +kernel
theorem dX2_lookAtType_10 : decode cX2_lookAtType 10 = .ok (.iload_n 2, 1) := by decide +kernel
theorem dX2_lookAtType_11 : decode cX2_lookAtType 11 = .ok (.aload_n 1, 1) := by decide +kernel
theorem dX2_lookAtType_12 : decode cX2_lookAtType 12 = .ok (.invokevirtual 54, 3) := by decide +kernel
theorem dX2_lookAtType_15 : decode cX2_lookAtType 15 = .ok (.if_icmp .ge 44, 3) := by decide +kernel
theorem dX2_lookAtType_18 : decode cX2_lookAtType 18 = .ok (.aload_n 0, 1) := by decide +kernel
theorem dX2_lookAtType_19 : decode cX2_lookAtType 19 = .ok (.aload_n 1, 1) := by decide +kernel
theorem dX2_lookAtType_20 : decode cX2_lookAtType 20 = .ok (.iload_n 2, 1) := by decide +kernel
theorem dX2_lookAtType_21 : decode cX2_lookAtType 21 = .ok (.invokevirtual 9, 3) := by decide +kernel
theorem dX2_lookAtType_24 : decode cX2_lookAtType 24 = .ok (.i2b, 1) := by decide +kernel
theorem dX2_lookAtType_25 : decode cX2_lookAtType 25 = .ok (.putfield 15, 3) := by decide +kernel
theorem dX2_lookAtType_28 : decode cX2_lookAtType 28 = .ok (.aload_n 0, 1) := by decide +kernel
theorem dX2_lookAtType_29 : decode cX2_lookAtType 29 = .ok (.aload_n 0, 1) := by decide +kernel
theorem dX2_lookAtType_30 : decode cX2_lookAtType 30 = .ok (.getfield 15, 3) := by decide +kernel
theorem dX2_lookAtType_33 : decode cX2_lookAtType 33 = .ok (.iconst (-1), 1) := by decide +kernel
theorem dX2_lookAtType_34 : decode cX2_lookAtType 34 = .ok (.if_icmp .ne 8, 3) := by decide +kernel
theorem dX2_lookAtType_37 : decode cX2_lookAtType 37 = .ok (.bipush 10, 2) := by decide +kernel
theorem dX2_lookAtType_39 : decode cX2_lookAtType 39 = .ok (.goto 17, 3) := by decide +kernel
theorem dX2_lookAtType_42 : decode cX2_lookAtType 42 = .ok (.aload_n 0, 1) := by decide +kernel
theorem dX2_lookAtType_43 : decode cX2_lookAtType 43 = .ok (.getfield 15, 3) := by decide +kernel
theorem dX2_lookAtType_46 : decode cX2_lookAtType 46 = .ok (.ifCond .ne 8, 3) := by decide +kernel
theorem dX2_lookAtType_49 : decode cX2_lookAtType 49 = .ok (.bipush 11, 2) := by decide +kernel
theorem dX2_lookAtType_51 : decode cX2_lookAtType 51 = .ok (.goto 5, 3) := by decide +kernel
theorem dX2_lookAtType_54 : decode cX2_lookAtType 54 = .ok (.bipush 9, 2) := by decide +kernel
theorem dX2_lookAtType_56 : decode cX2_lookAtType 56 = .ok (.putfield 29, 3) := by decide +kernel
theorem dX2_lookAtType_59 : decode cX2_lookAtType 59 = .ok (.return_, 1) := by decide +kernel
theorem dX2_take_0 : decode cX2_take 0 = .ok (.aload_n 0, 1) := by decide +kernel
theorem dX2_take_1 : decode cX2_take 1 = .ok (.iload_n 1, 1) := by decide +kernel
theorem dX2_take_2 : decode cX2_take 2 = .ok (.putfield 29, 3) := by decide +kernel
theorem dX2_take_5 : decode cX2_take 5 = .ok (.aload_n 0, 1) := by decide +kernel
theorem dX2_take_6 : decode cX2_take 6 = .ok (.iload_n 2, 1) := by decide +kernel
theorem dX2_take_7 : decode cX2_take 7 = .ok (.putfield 32, 3) := by decide +kernel
theorem dX2_take_10 : decode cX2_take 10 = .ok (.aload_n 0, 1) := by decide +kernel
theorem dX2_take_11 : decode cX2_take 11 = .ok (.lload_n 3, 1) := by decide +kernel
theorem dX2_take_12 : decode cX2_take 12 = .ok (.putfield 43, 3) := by decide +kernel
theorem dX2_take_15 : decode cX2_take 15 = .ok (.return_, 1) := by decide +kernel
theorem dX3_init_0 : decode cX3_init 0 = .ok (.aload_n 0, 1) := by decide +kernel
theorem dX3_init_1 : decode cX3_init 1 = .ok (.invokespecial 3, 3) := by decide +kernel
theorem dX3_init_4 : decode cX3_init 4 = .ok (.aload_n 0, 1) := by decide +kernel
theorem dX3_init_5 : decode cX3_init 5 = .ok (.new 9, 3) := by decide +kernel
theorem dX3_init_8 : decode cX3_init 8 = .ok (.dup, 1) := by decide +kernel
theorem dX3_init_9 : decode cX3_init 9 = .ok (.invokespecial 11, 3) := by decide +kernel
theorem dX3_init_12 : decode cX3_init 12 = .ok (.putfield 12, 3) := by decide +kernel
theorem dX3_init_15 : decode cX3_init 15 = .ok (.aload_n 0, 1) := by decide +kernel
theorem dX3_init_16 : decode cX3_init 16 = .ok (.new 18, 3) := by decide +kernel
theorem dX3_init_19 : decode cX3_init 19 = .ok (.dup, 1) := by decide +kernel
theorem dX3_init_20 : decode cX3_init 20 = .ok (.invokespecial 20, 3) := by decide +kernel
theorem dX3_init_23 : decode cX3_init 23 = .ok (.putfield 21, 3) := by decide +kernel
theorem dX3_init_26 : decode cX3_init 26 = .ok (.return_, 1) := by decide +kernel
theorem dX3_write_0 : decode cX3_write 0 = .ok (.aload_n 0, 1) := by decide +kernel
theorem dX3_write_1 : decode cX3_write 1 = .ok (.getfield 12, 3) := by decide +kernel
theorem dX3_write_4 : decode cX3_write 4 = .ok (.iconst 0, 1) := by decide +kernel
theorem dX3_write_5 : decode cX3_write 5 = .ok (.invokevirtual 25, 3) := by decide +kernel
theorem dX3_write_8 : decode cX3_write 8 = .ok (.aload_n 0, 1) := by decide +kernel
theorem dX3_write_9 : decode cX3_write 9 = .ok (.iload_n 3, 1) := by decide +kernel
theorem dX3_write_10 : decode cX3_write 10 = .ok (.putfield 29, 3) := by decide +kernel
theorem dX3_write_13 : decode cX3_write 13 = .ok (.aload_n 0, 1) := by decide +kernel
theorem dX3_write_14 : decode cX3_write 14 = .ok (.iconst 0, 1) := by decide +kernel
theorem dX3_write_15 : decode cX3_write 15 = .ok (.putfield 33, 3) := by decide +kernel
theorem dX3_write_18 : decode cX3_write 18 = .ok (.aload_n 0, 1) := by decide +kernel
theorem dX3_write_19 : decode cX3_write 19 = .ok (.aload_n 1, 1) := by decide +kernel
theorem dX3_write_20 : decode cX3_write 20 = .ok (.aload_n 1, 1) := by decide +kernel
theorem dX3_write_21 : decode cX3_write 21 = .ok (.iload_n 2, 1) := by decide +kernel
theorem dX3_write_22 : decode cX3_write 22 = .ok (.invokevirtual 37, 3) := by decide +kernel
theorem dX3_write_25 : decode cX3_write 25 = .ok (.iconst 0, 1) := by decide +kernel
theorem dX3_write_26 : decode cX3_write 26 = .ok (.invokevirtual 43, 3) := by decide +kernel
theorem dX3_write_29 : decode cX3_write 29 = .ok (.aload_n 0, 1) := by decide +kernel
theorem dX3_write_30 : decode cX3_write 30 = .ok (.getfield 33, 3) := by decide +kernel
theorem dX3_write_33 : decode cX3_write 33 = .ok (.ifCond .eq 11, 3) := by decide +kernel
theorem dX3_write_36 : decode cX3_write 36 = .ok (.aload_n 0, 1) := by decide +kernel
theorem dX3_write_37 : decode cX3_write 37 = .ok (.getfield 12, 3) := by decide +kernel
theorem dX3_write_40 : decode cX3_write 40 = .ok (.iconst 0, 1) := by decide +kernel
theorem dX3_write_41 : decode cX3_write 41 = .ok (.invokevirtual 25, 3) := by decide +kernel
theorem dX3_write_44 : decode cX3_write 44 = .ok (.iconst 0, 1) := by decide +kernel
theorem dX3_write_45 : decode cX3_write 45 = .ok (.istore 4, 2) := by decide +kernel
theorem dX3_write_47 : decode cX3_write 47 = .ok (.iload 4, 2) := by decide +kernel
theorem dX3_write_49 : decode cX3_write 49 = .ok (.aload_n 0, 1) := by decide +kernel
theorem dX3_write_50 : decode cX3_write 50 = .ok (.getfield 21, 3) := by decide +kernel
theorem dX3_write_53 : decode cX3_write 53 = .ok (.invokevirtual 47, 3) := by decide +kernel
theorem dX3_write_56 : decode cX3_write 56 = .ok (.if_icmp .ge 25, 3) := by decide +kernel
theorem dX3_write_59 : decode cX3_write 59 = .ok (.aload_n 0, 1) := by decide +kernel
theorem dX3_write_60 : decode cX3_write 60 = .ok (.getfield 21, 3) := by decide +kernel
theorem dX3_write_63 : decode cX3_write 63 = .ok (.iload 4, 2) := by decide +kernel
theorem dX3_write_65 : decode cX3_write 65 = .ok (.invokevirtual 51, 3) := by decide +kernel
theorem dX3_write_68 : decode cX3_write 68 = .ok (.checkcast 55, 3) := by decide +kernel
theorem dX3_write_71 : decode cX3_write 71 = .ok (.iconst (-1), 1) := by decide +kernel
theorem dX3_write_72 : decode cX3_write 72 = .ok (.putfield 57, 3) := by decide +kernel
theorem dX3_write_75 : decode cX3_write 75 = .ok (.iinc 4 1, 3) := by decide +kernel
theorem dX3_write_78 : decode cX3_write 78 = .ok (.goto (-31), 3) := by decide +kernel
theorem dX3_write_81 : decode cX3_write 81 = .ok (.aload_n 0, 1) := by decide +kernel
theorem dX3_write_82 : decode cX3_write 82 = .ok (.getfield 21, 3) := by decide +kernel
theorem dX3_write_85 : decode cX3_write 85 = .ok (.invokevirtual 60, 3) := by decide +kernel
theorem dX3_write_88 : decode cX3_write 88 = .ok (.aload_n 0, 1) := by decide +kernel
theorem dX3_write_89 : decode cX3_write 89 = .ok (.getfield 33, 3) := by decide +kernel
theorem dX3_write_92 : decode cX3_write 92 = .ok (.ifCond .ne 7, 3) := by decide +kernel
theorem dX3_write_95 : decode cX3_write 95 = .ok (.iconst 1, 1) := by decide +kernel
theorem dX3_write_96 : decode cX3_write 96 = .ok (.goto 4, 3) := by decide +kernel
theorem dX3_write_99 : decode cX3_write 99 = .ok (.iconst 0, 1) := by decide +kernel
theorem dX3_write_100 : decode cX3_write 100 = .ok (.ireturn, 1) := by decide +kernel
theorem dX3_writeValue_0 : decode cX3_writeValue 0 = .ok (.aload_n 2, 1) := by decide +kernel
theorem dX3_writeValue_1 : decode cX3_writeValue 1 = .ok (.getfield 57, 3) := by decide +kernel
theorem dX3_writeValue_4 : decode cX3_writeValue 4 = .ok (.iconst (-1), 1) := by decide +kernel
theorem dX3_writeValue_5 : decode cX3_writeValue 5 = .ok (.if_icmp .eq 12, 3) := by decide +kernel
theorem dX3_writeValue_8 : decode cX3_writeValue 8 = .ok (.aload_n 0, 1) := by decide +kernel
theorem dX3_writeValue_9 : decode cX3_writeValue 9 = .ok (.aload_n 2, 1) := by decide +kernel
theorem dX3_writeValue_10 : decode cX3_writeValue 10 = .ok (.getfield 57, 3) := by decide +kernel
theorem dX3_writeValue_13 : decode cX3_writeValue 13 = .ok (.invokevirtual 63, 3) := by decide +kernel
theorem dX3_writeValue_16 : decode cX3_writeValue 16 = .ok (.return_, 1) := by decide +kernel
theorem dX3_writeValue_17 : decode cX3_writeValue 17 = .ok (.aload_n 2, 1) := by decide +kernel
theorem dX3_writeValue_18 : decode cX3_writeValue 18 = .ok (.getfield 66, 3) := by decide +kernel
theorem dX3_writeValue_21 : decode cX3_writeValue 21 = .ok (.tableswitch 211 0 10 #[59, 70, 87, 102, 122, 211, 211, 158, 158, 211, 143], 59) := by decide +kernel
theorem dX3_writeValue_80 : decode cX3_writeValue 80 = .ok (.aload_n 0, 1) := by decide +kernel
theorem dX3_writeValue_81 : decode cX3_writeValue 81 = .ok (.ldc2_w 69, 3) := by decide +kernel
theorem dX3_writeValue_84 : decode cX3_writeValue 84 = .ok (.iconst 1, 1) := by decide +kernel
theorem dX3_writeValue_85 : decode cX3_writeValue 85 = .ok (.invokevirtual 71, 3) := by decide +kernel
theorem dX3_writeValue_88 : decode cX3_writeValue 88 = .ok (.goto 149, 3) := by decide +kernel
theorem dX3_writeValue_91 : decode cX3_writeValue 91 = .ok (.aload_n 0, 1) := by decide +kernel
theorem dX3_writeValue_92 : decode cX3_writeValue 92 = .ok (.sipush 194, 3) := by decide +kernel
theorem dX3_writeValue_95 : decode cX3_writeValue 95 = .ok (.aload_n 2, 1) := by decide +kernel
theorem dX3_writeValue_96 : decode cX3_writeValue 96 = .ok (.getfield 75, 3) := by decide +kernel
theorem dX3_writeValue_99 : decode cX3_writeValue 99 = .ok (.iadd, 1) := by decide +kernel
theorem dX3_writeValue_100 : decode cX3_writeValue 100 = .ok (.i2l, 1) := by decide +kernel
theorem dX3_writeValue_101 : decode cX3_writeValue 101 = .ok (.iconst 1, 1) := by decide +kernel
theorem dX3_writeValue_102 : decode cX3_writeValue 102 = .ok (.invokevirtual 71, 3) := by decide +kernel
theorem dX3_writeValue_105 : decode cX3_writeValue 105 = .ok (.goto 132, 3) := by decide +kernel
theorem dX3_writeValue_108 : decode cX3_writeValue 108 = .ok (.aload_n 0, 1) := by decide +kernel
theorem dX3_writeValue_109 : decode cX3_writeValue 109 = .ok (.aload_n 2, 1) := by decide +kernel
theorem dX3_writeValue_110 : decode cX3_writeValue 110 = .ok (.getfield 78, 3) := by decide +kernel
theorem dX3_writeValue_113 : decode cX3_writeValue 113 = .ok (.aload_n 2, 1) := by decide +kernel
theorem dX3_writeValue_114 : decode cX3_writeValue 114 = .ok (.invokevirtual 82, 3) := by decide +kernel
theorem dX3_writeValue_117 : decode cX3_writeValue 117 = .ok (.invokevirtual 86, 3) := by decide +kernel
theorem dX3_writeValue_120 : decode cX3_writeValue 120 = .ok (.goto 117, 3) := by decide +kernel
theorem dX3_writeValue_123 : decode cX3_writeValue 123 = .ok (.aload_n 0, 1) := by decide +kernel
theorem dX3_writeValue_124 : decode cX3_writeValue 124 = .ok (.ldc2_w 90, 3) := by decide +kernel
theorem dX3_writeValue_127 : decode cX3_writeValue 127 = .ok (.iconst 1, 1) := by decide +kernel
theorem dX3_writeValue_128 : decode cX3_writeValue 128 = .ok (.invokevirtual 71, 3) := by decide +kernel
theorem dX3_writeValue_131 : decode cX3_writeValue 131 = .ok (.aload_n 0, 1) := by decide +kernel
theorem dX3_writeValue_132 : decode cX3_writeValue 132 = .ok (.aload_n 2, 1) := by decide +kernel
theorem dX3_writeValue_133 : decode cX3_writeValue 133 = .ok (.getfield 78, 3) := by decide +kernel
theorem dX3_writeValue_136 : decode cX3_writeValue 136 = .ok (.iconst 4, 1) := by decide +kernel
theorem dX3_writeValue_137 : decode cX3_writeValue 137 = .ok (.invokevirtual 71, 3) := by decide +kernel
theorem dX3_writeValue_140 : decode cX3_writeValue 140 = .ok (.goto 97, 3) := by decide +kernel
theorem dX3_writeValue_143 : decode cX3_writeValue 143 = .ok (.aload_n 0, 1) := by decide +kernel
theorem dX3_writeValue_144 : decode cX3_writeValue 144 = .ok (.ldc2_w 92, 3) := by decide +kernel
theorem dX3_writeValue_147 : decode cX3_writeValue 147 = .ok (.iconst 1, 1) := by decide +kernel
theorem dX3_writeValue_148 : decode cX3_writeValue 148 = .ok (.invokevirtual 71, 3) := by decide +kernel
theorem dX3_writeValue_151 : decode cX3_writeValue 151 = .ok (.aload_n 0, 1) := by decide +kernel
theorem dX3_writeValue_152 : decode cX3_writeValue 152 = .ok (.aload_n 2, 1) := by decide +kernel
theorem dX3_writeValue_153 : decode cX3_writeValue 153 = .ok (.getfield 78, 3) := by decide +kernel
theorem dX3_writeValue_156 : decode cX3_writeValue 156 = .ok (.bipush 8, 2) := by decide +kernel
theorem dX3_writeValue_158 : decode cX3_writeValue 158 = .ok (.invokevirtual 71, 3) := by decide +kernel
theorem dX3_writeValue_161 : decode cX3_writeValue 161 = .ok (.goto 76, 3) := by decide +kernel
theorem dX3_writeValue_164 : decode cX3_writeValue 164 = .ok (.aload_n 0, 1) := by decide +kernel
theorem dX3_writeValue_165 : decode cX3_writeValue 165 = .ok (.aload_n 2, 1) := by decide +kernel
theorem dX3_writeValue_166 : decode cX3_writeValue 166 = .ok (.getfield 78, 3) := by decide +kernel
theorem dX3_writeValue_169 : decode cX3_writeValue 169 = .ok (.aload_n 2, 1) := by decide +kernel
theorem dX3_writeValue_170 : decode cX3_writeValue 170 = .ok (.getfield 75, 3) := by decide +kernel
theorem dX3_writeValue_173 : decode cX3_writeValue 173 = .ok (.invokevirtual 94, 3) := by decide +kernel
theorem dX3_writeValue_176 : decode cX3_writeValue 176 = .ok (.goto 61, 3) := by decide +kernel
theorem dX3_writeValue_179 : decode cX3_writeValue 179 = .ok (.aload_n 0, 1) := by decide +kernel
theorem dX3_writeValue_180 : decode cX3_writeValue 180 = .ok (.aload_n 2, 1) := by decide +kernel
theorem dX3_writeValue_181 : decode cX3_writeValue 181 = .ok (.iload_n 3, 1) := by decide +kernel
theorem dX3_writeValue_182 : decode cX3_writeValue 182 = .ok (.invokevirtual 97, 3) := by decide +kernel
theorem dX3_writeValue_185 : decode cX3_writeValue 185 = .ok (.iconst 0, 1) := by decide +kernel
theorem dX3_writeValue_186 : decode cX3_writeValue 186 = .ok (.istore 4, 2) := by decide +kernel
theorem dX3_writeValue_188 : decode cX3_writeValue 188 = .ok (.iload 4, 2) := by decide +kernel
theorem dX3_writeValue_190 : decode cX3_writeValue 190 = .ok (.aload_n 2, 1) := by decide +kernel
theorem dX3_writeValue_191 : decode cX3_writeValue 191 = .ok (.getfield 101, 3) := by decide +kernel
theorem dX3_writeValue_194 : decode cX3_writeValue 194 = .ok (.if_icmp .ge 35, 3) := by decide +kernel
theorem dX3_writeValue_197 : decode cX3_writeValue 197 = .ok (.aload_n 0, 1) := by decide +kernel
theorem dX3_writeValue_198 : decode cX3_writeValue 198 = .ok (.getfield 33, 3) := by decide +kernel
theorem dX3_writeValue_201 : decode cX3_writeValue 201 = .ok (.ifCond .ne 28, 3) := by decide +kernel
theorem dX3_writeValue_204 : decode cX3_writeValue 204 = .ok (.aload_n 0, 1) := by decide +kernel
theorem dX3_writeValue_205 : decode cX3_writeValue 205 = .ok (.aload_n 1, 1) := by decide +kernel
theorem dX3_writeValue_206 : decode cX3_writeValue 206 = .ok (.aload_n 1, 1) := by decide +kernel
theorem dX3_writeValue_207 : decode cX3_writeValue 207 = .ok (.aload_n 2, 1) := by decide +kernel
theorem dX3_writeValue_208 : decode cX3_writeValue 208 = .ok (.getfield 104, 3) := by decide +kernel
theorem dX3_writeValue_211 : decode cX3_writeValue 211 = .ok (.iload 4, 2) := by decide +kernel
theorem dX3_writeValue_213 : decode cX3_writeValue 213 = .ok (.iaload, 1) := by decide +kernel
theorem dX3_writeValue_214 : decode cX3_writeValue 214 = .ok (.invokevirtual 37, 3) := by decide +kernel
theorem dX3_writeValue_217 : decode cX3_writeValue 217 = .ok (.iload_n 3, 1) := by decide +kernel
theorem dX3_writeValue_218 : decode cX3_writeValue 218 = .ok (.iconst 1, 1) := by decide +kernel
theorem dX3_writeValue_219 : decode cX3_writeValue 219 = .ok (.iadd, 1) := by decide +kernel
theorem dX3_writeValue_220 : decode cX3_writeValue 220 = .ok (.invokevirtual 43, 3) := by decide +kernel
theorem dX3_writeValue_223 : decode cX3_writeValue 223 = .ok (.iinc 4 1, 3) := by decide +kernel
theorem dX3_writeValue_226 : decode cX3_writeValue 226 = .ok (.goto (-38), 3) := by decide +kernel
theorem dX3_writeValue_229 : decode cX3_writeValue 229 = .ok (.goto 8, 3) := by decide +kernel
theorem dX3_writeValue_232 : decode cX3_writeValue 232 = .ok (.aload_n 0, 1) := by decide +kernel
theorem dX3_writeValue_233 : decode cX3_writeValue 233 = .ok (.aload_n 2, 1) := by decide +kernel
theorem dX3_writeValue_234 : decode cX3_writeValue 234 = .ok (.invokevirtual 108, 3) := by decide +kernel
theorem dX3_writeValue_237 : decode cX3_writeValue 237 = .ok (.return_, 1) := by decide +kernel
theorem dX3_beginGroup_0 : decode cX3_beginGroup 0 = .ok (.iload_n 2, 1) := by decide +kernel
theorem dX3_beginGroup_1 : decode cX3_beginGroup 1 = .ok (.bipush 24, 2) := by decide +kernel
theorem dX3_beginGroup_3 : decode cX3_beginGroup 3 = .ok (.if_icmp .lt 9, 3) := by decide +kernel
theorem dX3_beginGroup_6 : decode cX3_beginGroup 6 = .ok (.aload_n 0, 1) := by decide +kernel
theorem dX3_beginGroup_7 : decode cX3_beginGroup 7 = .ok (.iconst 1, 1) := by decide +kernel
theorem dX3_beginGroup_8 : decode cX3_beginGroup 8 = .ok (.putfield 33, 3) := by decide +kernel
theorem dX3_beginGroup_11 : decode cX3_beginGroup 11 = .ok (.return_, 1) := by decide +kernel
theorem dX3_beginGroup_12 : decode cX3_beginGroup 12 = .ok (.aload_n 1, 1) := by decide +kernel
theorem dX3_beginGroup_13 : decode cX3_beginGroup 13 = .ok (.aload_n 0, 1) := by decide +kernel
theorem dX3_beginGroup_14 : decode cX3_beginGroup 14 = .ok (.getfield 21, 3) := by decide +kernel
theorem dX3_beginGroup_17 : decode cX3_beginGroup 17 = .ok (.invokevirtual 47, 3) := by decide +kernel
theorem dX3_beginGroup_20 : decode cX3_beginGroup 20 = .ok (.putfield 57, 3) := by decide +kernel
theorem dX3_beginGroup_23 : decode cX3_beginGroup 23 = .ok (.aload_n 0, 1) := by decide +kernel
theorem dX3_beginGroup_24 : decode cX3_beginGroup 24 = .ok (.getfield 21, 3) := by decide +kernel
theorem dX3_beginGroup_27 : decode cX3_beginGroup 27 = .ok (.aload_n 1, 1) := by decide +kernel
theorem dX3_beginGroup_28 : decode cX3_beginGroup 28 = .ok (.invokevirtual 112, 3) := by decide +kernel
theorem dX3_beginGroup_31 : decode cX3_beginGroup 31 = .ok (.pop, 1) := by decide +kernel
theorem dX3_beginGroup_32 : decode cX3_beginGroup 32 = .ok (.aload_n 1, 1) := by decide +kernel
theorem dX3_beginGroup_33 : decode cX3_beginGroup 33 = .ok (.invokevirtual 116, 3) := by decide +kernel
theorem dX3_beginGroup_36 : decode cX3_beginGroup 36 = .ok (.istore_n 3, 1) := by decide +kernel
theorem dX3_beginGroup_37 : decode cX3_beginGroup 37 = .ok (.iload_n 3, 1) := by decide +kernel
theorem dX3_beginGroup_38 : decode cX3_beginGroup 38 = .ok (.bipush 16, 2) := by decide +kernel
theorem dX3_beginGroup_40 : decode cX3_beginGroup 40 = .ok (.if_icmp .ge 32, 3) := by decide +kernel
theorem dX3_beginGroup_43 : decode cX3_beginGroup 43 = .ok (.aload_n 0, 1) := by decide +kernel
theorem dX3_beginGroup_44 : decode cX3_beginGroup 44 = .ok (.aload_n 1, 1) := by decide +kernel
theorem dX3_beginGroup_45 : decode cX3_beginGroup 45 = .ok (.getfield 66, 3) := by decide +kernel
theorem dX3_beginGroup_48 : decode cX3_beginGroup 48 = .ok (.bipush 7, 2) := by decide +kernel
theorem dX3_beginGroup_50 : decode cX3_beginGroup 50 = .ok (.if_icmp .ne 9, 3) := by decide +kernel
theorem dX3_beginGroup_53 : decode cX3_beginGroup 53 = .ok (.sipush 144, 3) := by decide +kernel
theorem dX3_beginGroup_56 : decode cX3_beginGroup 56 = .ok (.goto 6, 3) := by decide +kernel
theorem dX3_beginGroup_59 : decode cX3_beginGroup 59 = .ok (.sipush 128, 3) := by decide +kernel
theorem dX3_beginGroup_62 : decode cX3_beginGroup 62 = .ok (.iload_n 3, 1) := by decide +kernel
theorem dX3_beginGroup_63 : decode cX3_beginGroup 63 = .ok (.iadd, 1) := by decide +kernel
theorem dX3_beginGroup_64 : decode cX3_beginGroup 64 = .ok (.i2l, 1) := by decide +kernel
theorem dX3_beginGroup_65 : decode cX3_beginGroup 65 = .ok (.iconst 1, 1) := by decide +kernel
theorem dX3_beginGroup_66 : decode cX3_beginGroup 66 = .ok (.invokevirtual 71, 3) := by decide +kernel
theorem dX3_beginGroup_69 : decode cX3_beginGroup 69 = .ok (.goto 33, 3) := by decide +kernel
theorem dX3_beginGroup_72 : decode cX3_beginGroup 72 = .ok (.aload_n 0, 1) := by decide +kernel
theorem dX3_beginGroup_73 : decode cX3_beginGroup 73 = .ok (.aload_n 1, 1) := by decide +kernel
theorem dX3_beginGroup_74 : decode cX3_beginGroup 74 = .ok (.getfield 66, 3) := by decide +kernel
theorem dX3_beginGroup_77 : decode cX3_beginGroup 77 = .ok (.bipush 7, 2) := by decide +kernel
theorem dX3_beginGroup_79 : decode cX3_beginGroup 79 = .ok (.if_icmp .ne 9, 3) := by decide +kernel
theorem dX3_beginGroup_82 : decode cX3_beginGroup 82 = .ok (.ldc2_w 119, 3) := by decide +kernel
theorem dX3_beginGroup_85 : decode cX3_beginGroup 85 = .ok (.goto 6, 3) := by decide +kernel
theorem dX3_beginGroup_88 : decode cX3_beginGroup 88 = .ok (.ldc2_w 121, 3) := by decide +kernel
theorem dX3_beginGroup_91 : decode cX3_beginGroup 91 = .ok (.iconst 1, 1) := by decide +kernel
theorem dX3_beginGroup_92 : decode cX3_beginGroup 92 = .ok (.invokevirtual 71, 3) := by decide +kernel
theorem dX3_beginGroup_95 : decode cX3_beginGroup 95 = .ok (.aload_n 0, 1) := by decide +kernel
theorem dX3_beginGroup_96 : decode cX3_beginGroup 96 = .ok (.iload_n 3, 1) := by decide +kernel
theorem dX3_beginGroup_97 : decode cX3_beginGroup 97 = .ok (.i2l, 1) := by decide +kernel
theorem dX3_beginGroup_98 : decode cX3_beginGroup 98 = .ok (.iconst 2, 1) := by decide +kernel
theorem dX3_beginGroup_99 : decode cX3_beginGroup 99 = .ok (.invokevirtual 71, 3) := by decide +kernel
theorem dX3_beginGroup_102 : decode cX3_beginGroup 102 = .ok (.return_, 1) := by decide +kernel
theorem dX3_writeReference_0 : decode cX3_writeReference 0 = .ok (.iload_n 1, 1) := by decide +kernel
theorem dX3_writeReference_1 : decode cX3_writeReference 1 = .ok (.i2l, 1) := by decide +kernel
theorem dX3_writeReference_2 : decode cX3_writeReference 2 = .ok (.iconst 0, 1) := by decide +kernel
theorem dX3_writeReference_3 : decode cX3_writeReference 3 = .ok (.invokestatic 123, 3) := by decide +kernel
theorem dX3_writeReference_6 : decode cX3_writeReference 6 = .ok (.istore_n 2, 1) := by decide +kernel
theorem dX3_writeReference_7 : decode cX3_writeReference 7 = .ok (.iload_n 2, 1) := by decide +kernel
theorem dX3_writeReference_8 : decode cX3_writeReference 8 = .ok (.iconst (-1), 1) := by decide +kernel
theorem dX3_writeReference_9 : decode cX3_writeReference 9 = .ok (.if_icmp .ne 7, 3) := by decide +kernel
theorem dX3_writeReference_12 : decode cX3_writeReference 12 = .ok (.iconst 1, 1) := by decide +kernel
theorem dX3_writeReference_13 : decode cX3_writeReference 13 = .ok (.goto 8, 3) := by decide +kernel
theorem dX3_writeReference_16 : decode cX3_writeReference 16 = .ok (.iconst 1, 1) := by decide +kernel
theorem dX3_writeReference_17 : decode cX3_writeReference 17 = .ok (.iconst 1, 1) := by decide +kernel
theorem dX3_writeReference_18 : decode cX3_writeReference 18 = .ok (.iload_n 2, 1) := by decide +kernel
theorem dX3_writeReference_19 : decode cX3_writeReference 19 = .ok (.ishl, 1) := by decide +kernel
theorem dX3_writeReference_20 : decode cX3_writeReference 20 = .ok (.iadd, 1) := by decide +kernel
theorem dX3_writeReference_21 : decode cX3_writeReference 21 = .ok (.istore_n 3, 1) := by decide +kernel
theorem dX3_writeReference_22 : decode cX3_writeReference 22 = .ok (.aload_n 0, 1) := by decide +kernel
theorem dX3_writeReference_23 : decode cX3_writeReference 23 = .ok (.iload_n 3, 1) := by decide +kernel
theorem dX3_writeReference_24 : decode cX3_writeReference 24 = .ok (.invokestatic 127, 3) := by decide +kernel
theorem dX3_writeReference_27 : decode cX3_writeReference 27 = .ok (.sipush 199, 3) := by decide +kernel
theorem dX3_writeReference_30 : decode cX3_writeReference 30 = .ok (.iload_n 3, 1) := by decide +kernel
theorem dX3_writeReference_31 : decode cX3_writeReference 31 = .ok (.invokevirtual 131, 3) := by decide +kernel
theorem dX3_writeReference_34 : decode cX3_writeReference 34 = .ok (.aload_n 0, 1) := by decide +kernel
theorem dX3_writeReference_35 : decode cX3_writeReference 35 = .ok (.lconst 0, 1) := by decide +kernel
theorem dX3_writeReference_36 : decode cX3_writeReference 36 = .ok (.iconst 1, 1) := by decide +kernel
theorem dX3_writeReference_37 : decode cX3_writeReference 37 = .ok (.invokevirtual 71, 3) := by decide +kernel
theorem dX3_writeReference_40 : decode cX3_writeReference 40 = .ok (.aload_n 0, 1) := by decide +kernel
theorem dX3_writeReference_41 : decode cX3_writeReference 41 = .ok (.iload_n 1, 1) := by decide +kernel
theorem dX3_writeReference_42 : decode cX3_writeReference 42 = .ok (.i2l, 1) := by decide +kernel
theorem dX3_writeReference_43 : decode cX3_writeReference 43 = .ok (.iconst 0, 1) := by decide +kernel
theorem dX3_writeReference_44 : decode cX3_writeReference 44 = .ok (.invokevirtual 86, 3) := by decide +kernel
theorem dX3_writeReference_47 : decode cX3_writeReference 47 = .ok (.return_, 1) := by decide +kernel
theorem dX3_writeTime_0 : decode cX3_writeTime 0 = .ok (.lload_n 1, 1) := by decide +kernel
theorem dX3_writeTime_1 : decode cX3_writeTime 1 = .ok (.bipush 34, 2) := by decide +kernel
theorem dX3_writeTime_3 : decode cX3_writeTime 3 = .ok (.lshr, 1) := by decide +kernel
theorem dX3_writeTime_4 : decode cX3_writeTime 4 = .ok (.lconst 0, 1) := by decide +kernel
theorem dX3_writeTime_5 : decode cX3_writeTime 5 = .ok (.lcmp, 1) := by decide +kernel
theorem dX3_writeTime_6 : decode cX3_writeTime 6 = .ok (.ifCond .ne 7, 3) := by decide +kernel
theorem dX3_writeTime_9 : decode cX3_writeTime 9 = .ok (.iconst 1, 1) := by decide +kernel
theorem dX3_writeTime_10 : decode cX3_writeTime 10 = .ok (.goto 4, 3) := by decide +kernel
theorem dX3_writeTime_13 : decode cX3_writeTime 13 = .ok (.iconst 0, 1) := by decide +kernel
theorem dX3_writeTime_14 : decode cX3_writeTime 14 = .ok (.istore 4, 2) := by decide +kernel
theorem dX3_writeTime_16 : decode cX3_writeTime 16 = .ok (.iload_n 3, 1) := by decide +kernel
theorem dX3_writeTime_17 : decode cX3_writeTime 17 = .ok (.ifCond .ne 16, 3) := by decide +kernel
theorem dX3_writeTime_20 : decode cX3_writeTime 20 = .ok (.lload_n 1, 1) := by decide +kernel
theorem dX3_writeTime_21 : decode cX3_writeTime 21 = .ok (.bipush 32, 2) := by decide +kernel
theorem dX3_writeTime_23 : decode cX3_writeTime 23 = .ok (.lshr, 1) := by decide +kernel
theorem dX3_writeTime_24 : decode cX3_writeTime 24 = .ok (.lconst 0, 1) := by decide +kernel
theorem dX3_writeTime_25 : decode cX3_writeTime 25 = .ok (.lcmp, 1) := by decide +kernel
theorem dX3_writeTime_26 : decode cX3_writeTime 26 = .ok (.ifCond .ne 7, 3) := by decide +kernel
theorem dX3_writeTime_29 : decode cX3_writeTime 29 = .ok (.iconst 1, 1) := by decide +kernel
theorem dX3_writeTime_30 : decode cX3_writeTime 30 = .ok (.goto 4, 3) := by decide +kernel
theorem dX3_writeTime_33 : decode cX3_writeTime 33 = .ok (.iconst 0, 1) := by decide +kernel
theorem dX3_writeTime_34 : decode cX3_writeTime 34 = .ok (.istore 5, 2) := by decide +kernel
theorem dX3_writeTime_36 : decode cX3_writeTime 36 = .ok (.iload 5, 2) := by decide +kernel
theorem dX3_writeTime_38 : decode cX3_writeTime 38 = .ok (.ifCond .eq 7, 3) := by decide +kernel
theorem dX3_writeTime_41 : decode cX3_writeTime 41 = .ok (.iconst 4, 1) := by decide +kernel
theorem dX3_writeTime_42 : decode cX3_writeTime 42 = .ok (.goto 15, 3) := by decide +kernel
theorem dX3_writeTime_45 : decode cX3_writeTime 45 = .ok (.iload 4, 2) := by decide +kernel
theorem dX3_writeTime_47 : decode cX3_writeTime 47 = .ok (.ifCond .eq 8, 3) := by decide +kernel
theorem dX3_writeTime_50 : decode cX3_writeTime 50 = .ok (.bipush 8, 2) := by decide +kernel
theorem dX3_writeTime_52 : decode cX3_writeTime 52 = .ok (.goto 5, 3) := by decide +kernel
theorem dX3_writeTime_55 : decode cX3_writeTime 55 = .ok (.bipush 12, 2) := by decide +kernel
theorem dX3_writeTime_57 : decode cX3_writeTime 57 = .ok (.istore 6, 2) := by decide +kernel
theorem dX3_writeTime_59 : decode cX3_writeTime 59 = .ok (.aload_n 0, 1) := by decide +kernel
theorem dX3_writeTime_60 : decode cX3_writeTime 60 = .ok (.iload 6, 2) := by decide +kernel
theorem dX3_writeTime_62 : decode cX3_writeTime 62 = .ok (.invokestatic 127, 3) := by decide +kernel
theorem dX3_writeTime_65 : decode cX3_writeTime 65 = .ok (.sipush 199, 3) := by decide +kernel
theorem dX3_writeTime_68 : decode cX3_writeTime 68 = .ok (.iload 6, 2) := by decide +kernel
theorem dX3_writeTime_70 : decode cX3_writeTime 70 = .ok (.invokevirtual 131, 3) := by decide +kernel
theorem dX3_writeTime_73 : decode cX3_writeTime 73 = .ok (.aload_n 0, 1) := by decide +kernel
theorem dX3_writeTime_74 : decode cX3_writeTime 74 = .ok (.ldc2_w 135, 3) := by decide +kernel
theorem dX3_writeTime_77 : decode cX3_writeTime 77 = .ok (.iconst 1, 1) := by decide +kernel
theorem dX3_writeTime_78 : decode cX3_writeTime 78 = .ok (.invokevirtual 71, 3) := by decide +kernel
theorem dX3_writeTime_81 : decode cX3_writeTime 81 = .ok (.iload 5, 2) := by decide +kernel
theorem dX3_writeTime_83 : decode cX3_writeTime 83 = .ok (.ifCond .eq 12, 3) := by decide +kernel
theorem dX3_writeTime_86 : decode cX3_writeTime 86 = .ok (.aload_n 0, 1) := by decide +kernel
theorem dX3_writeTime_87 : decode cX3_writeTime 87 = .ok (.lload_n 1, 1) := by decide +kernel
theorem dX3_writeTime_88 : decode cX3_writeTime 88 = .ok (.iconst 4, 1) := by decide +kernel
theorem dX3_writeTime_89 : decode cX3_writeTime 89 = .ok (.invokevirtual 71, 3) := by decide +kernel
theorem dX3_writeTime_92 : decode cX3_writeTime 92 = .ok (.goto 38, 3) := by decide +kernel
theorem dX3_writeTime_95 : decode cX3_writeTime 95 = .ok (.iload 4, 2) := by decide +kernel
theorem dX3_writeTime_97 : decode cX3_writeTime 97 = .ok (.ifCond .eq 19, 3) := by decide +kernel
theorem dX3_writeTime_100 : decode cX3_writeTime 100 = .ok (.aload_n 0, 1) := by decide +kernel
theorem dX3_writeTime_101 : decode cX3_writeTime 101 = .ok (.iload_n 3, 1) := by decide +kernel
theorem dX3_writeTime_102 : decode cX3_writeTime 102 = .ok (.i2l, 1) := by decide +kernel
theorem dX3_writeTime_103 : decode cX3_writeTime 103 = .ok (.bipush 34, 2) := by decide +kernel
theorem dX3_writeTime_105 : decode cX3_writeTime 105 = .ok (.lshl, 1) := by decide +kernel
theorem dX3_writeTime_106 : decode cX3_writeTime 106 = .ok (.lload_n 1, 1) := by decide +kernel
theorem dX3_writeTime_107 : decode cX3_writeTime 107 = .ok (.lor, 1) := by decide +kernel
theorem dX3_writeTime_108 : decode cX3_writeTime 108 = .ok (.bipush 8, 2) := by decide +kernel
theorem dX3_writeTime_110 : decode cX3_writeTime 110 = .ok (.invokevirtual 71, 3) := by decide +kernel
theorem dX3_writeTime_113 : decode cX3_writeTime 113 = .ok (.goto 17, 3) := by decide +kernel
theorem dX3_writeTime_116 : decode cX3_writeTime 116 = .ok (.aload_n 0, 1) := by decide +kernel
theorem dX3_writeTime_117 : decode cX3_writeTime 117 = .ok (.iload_n 3, 1) := by decide +kernel
theorem dX3_writeTime_118 : decode cX3_writeTime 118 = .ok (.i2l, 1) := by decide +kernel
theorem dX3_writeTime_119 : decode cX3_writeTime 119 = .ok (.iconst 4, 1) := by decide +kernel
theorem dX3_writeTime_120 : decode cX3_writeTime 120 = .ok (.invokevirtual 71, 3) := by decide +kernel
theorem dX3_writeTime_123 : decode cX3_writeTime 123 = .ok (.aload_n 0, 1) := by decide +kernel
theorem dX3_writeTime_124 : decode cX3_writeTime 124 = .ok (.lload_n 1, 1) := by decide +kernel
theorem dX3_writeTime_125 : decode cX3_writeTime 125 = .ok (.bipush 8, 2) := by decide +kernel
theorem dX3_writeTime_127 : decode cX3_writeTime 127 = .ok (.invokevirtual 71, 3) := by decide +kernel
theorem dX3_writeTime_130 : decode cX3_writeTime 130 = .ok (.return_, 1) := by decide +kernel
theorem dX3_writeRow_0 : decode cX3_writeRow 0 = .ok (.aload_n 1, 1) := by decide +kernel
theorem dX3_writeRow_1 : decode cX3_writeRow 1 = .ok (.getfield 137, 3) := by decide +kernel
theorem dX3_writeRow_4 : decode cX3_writeRow 4 = .ok (.arraylength, 1) := by decide +kernel
theorem dX3_writeRow_5 : decode cX3_writeRow 5 = .ok (.istore_n 2, 1) := by decide +kernel
theorem dX3_writeRow_6 : decode cX3_writeRow 6 = .ok (.aload_n 1, 1) := by decide +kernel
theorem dX3_writeRow_7 : decode cX3_writeRow 7 = .ok (.getfield 66, 3) := by decide +kernel
theorem dX3_writeRow_10 : decode cX3_writeRow 10 = .ok (.iconst 5, 1) := by decide +kernel
theorem dX3_writeRow_11 : decode cX3_writeRow 11 = .ok (.if_icmp .ne 29, 3) := by decide +kernel
theorem dX3_writeRow_14 : decode cX3_writeRow 14 = .ok (.aload_n 0, 1) := by decide +kernel
theorem dX3_writeRow_15 : decode cX3_writeRow 15 = .ok (.iload_n 2, 1) := by decide +kernel
theorem dX3_writeRow_16 : decode cX3_writeRow 16 = .ok (.bipush 32, 2) := by decide +kernel
theorem dX3_writeRow_18 : decode cX3_writeRow 18 = .ok (.if_icmp .ge 11, 3) := by decide +kernel
theorem dX3_writeRow_21 : decode cX3_writeRow 21 = .ok (.sipush 160, 3) := by decide +kernel
theorem dX3_writeRow_24 : decode cX3_writeRow 24 = .ok (.iload_n 2, 1) := by decide +kernel
theorem dX3_writeRow_25 : decode cX3_writeRow 25 = .ok (.iadd, 1) := by decide +kernel
theorem dX3_writeRow_26 : decode cX3_writeRow 26 = .ok (.goto 4, 3) := by decide +kernel
theorem dX3_writeRow_29 : decode cX3_writeRow 29 = .ok (.iconst (-1), 1) := by decide +kernel
theorem dX3_writeRow_30 : decode cX3_writeRow 30 = .ok (.sipush 217, 3) := by decide +kernel
theorem dX3_writeRow_33 : decode cX3_writeRow 33 = .ok (.iload_n 2, 1) := by decide +kernel
theorem dX3_writeRow_34 : decode cX3_writeRow 34 = .ok (.invokevirtual 131, 3) := by decide +kernel
theorem dX3_writeRow_37 : decode cX3_writeRow 37 = .ok (.goto 46, 3) := by decide +kernel
theorem dX3_writeRow_40 : decode cX3_writeRow 40 = .ok (.aload_n 1, 1) := by decide +kernel
theorem dX3_writeRow_41 : decode cX3_writeRow 41 = .ok (.getfield 66, 3) := by decide +kernel
theorem dX3_writeRow_44 : decode cX3_writeRow 44 = .ok (.bipush 6, 2) := by decide +kernel
theorem dX3_writeRow_46 : decode cX3_writeRow 46 = .ok (.if_icmp .ne 15, 3) := by decide +kernel
theorem dX3_writeRow_49 : decode cX3_writeRow 49 = .ok (.aload_n 0, 1) := by decide +kernel
theorem dX3_writeRow_50 : decode cX3_writeRow 50 = .ok (.iconst (-1), 1) := by decide +kernel
theorem dX3_writeRow_51 : decode cX3_writeRow 51 = .ok (.sipush 196, 3) := by decide +kernel
theorem dX3_writeRow_54 : decode cX3_writeRow 54 = .ok (.iload_n 2, 1) := by decide +kernel
theorem dX3_writeRow_55 : decode cX3_writeRow 55 = .ok (.invokevirtual 131, 3) := by decide +kernel
theorem dX3_writeRow_58 : decode cX3_writeRow 58 = .ok (.goto 25, 3) := by decide +kernel
theorem dX3_writeRow_61 : decode cX3_writeRow 61 = .ok (.aload_n 0, 1) := by decide +kernel
theorem dX3_writeRow_62 : decode cX3_writeRow 62 = .ok (.iload_n 2, 1) := by decide +kernel
theorem dX3_writeRow_63 : decode cX3_writeRow 63 = .ok (.invokestatic 127, 3) := by decide +kernel
theorem dX3_writeRow_66 : decode cX3_writeRow 66 = .ok (.sipush 199, 3) := by decide +kernel
theorem dX3_writeRow_69 : decode cX3_writeRow 69 = .ok (.iload_n 2, 1) := by decide +kernel
theorem dX3_writeRow_70 : decode cX3_writeRow 70 = .ok (.invokevirtual 131, 3) := by decide +kernel
theorem dX3_writeRow_73 : decode cX3_writeRow 73 = .ok (.aload_n 0, 1) := by decide +kernel
theorem dX3_writeRow_74 : decode cX3_writeRow 74 = .ok (.aload_n 1, 1) := by decide +kernel
theorem dX3_writeRow_75 : decode cX3_writeRow 75 = .ok (.getfield 75, 3) := by decide +kernel
theorem dX3_writeRow_78 : decode cX3_writeRow 78 = .ok (.i2l, 1) := by decide +kernel
theorem dX3_writeRow_79 : decode cX3_writeRow 79 = .ok (.iconst 1, 1) := by decide +kernel
theorem dX3_writeRow_80 : decode cX3_writeRow 80 = .ok (.invokevirtual 71, 3) := by decide +kernel
theorem dX3_writeRow_83 : decode cX3_writeRow 83 = .ok (.aload_n 0, 1) := by decide +kernel
theorem dX3_writeRow_84 : decode cX3_writeRow 84 = .ok (.iload_n 2, 1) := by decide +kernel
theorem dX3_writeRow_85 : decode cX3_writeRow 85 = .ok (.invokevirtual 141, 3) := by decide +kernel
theorem dX3_writeRow_88 : decode cX3_writeRow 88 = .ok (.ifCond .eq 14, 3) := by decide +kernel
theorem dX3_writeRow_91 : decode cX3_writeRow 91 = .ok (.aload_n 0, 1) := by decide +kernel
theorem dX3_writeRow_92 : decode cX3_writeRow 92 = .ok (.getfield 12, 3) := by decide +kernel
theorem dX3_writeRow_95 : decode cX3_writeRow 95 = .ok (.aload_n 1, 1) := by decide +kernel
theorem dX3_writeRow_96 : decode cX3_writeRow 96 = .ok (.getfield 137, 3) := by decide +kernel
theorem dX3_writeRow_99 : decode cX3_writeRow 99 = .ok (.invokevirtual 145, 3) := by decide +kernel
theorem dX3_writeRow_102 : decode cX3_writeRow 102 = .ok (.return_, 1) := by decide +kernel
theorem dX3_writeHead_0 : decode cX3_writeHead 0 = .ok (.iload_n 1, 1) := by decide +kernel
theorem dX3_writeHead_1 : decode cX3_writeHead 1 = .ok (.iconst (-1), 1) := by decide +kernel
theorem dX3_writeHead_2 : decode cX3_writeHead 2 = .ok (.if_icmp .eq 11, 3) := by decide +kernel
theorem dX3_writeHead_5 : decode cX3_writeHead 5 = .ok (.aload_n 0, 1) := by decide +kernel
theorem dX3_writeHead_6 : decode cX3_writeHead 6 = .ok (.iload_n 1, 1) := by decide +kernel
theorem dX3_writeHead_7 : decode cX3_writeHead 7 = .ok (.i2l, 1) := by decide +kernel
theorem dX3_writeHead_8 : decode cX3_writeHead 8 = .ok (.iconst 1, 1) := by decide +kernel
theorem dX3_writeHead_9 : decode cX3_writeHead 9 = .ok (.invokevirtual 71, 3) := by decide +kernel
theorem dX3_writeHead_12 : decode cX3_writeHead 12 = .ok (.return_, 1) := by decide +kernel
theorem dX3_writeHead_13 : decode cX3_writeHead 13 = .ok (.iload_n 3, 1) := by decide +kernel
theorem dX3_writeHead_14 : decode cX3_writeHead 14 = .ok (.sipush 256, 3) := by decide +kernel
theorem dX3_writeHead_17 : decode cX3_writeHead 17 = .ok (.if_icmp .ge 7, 3) := by decide +kernel
theorem dX3_writeHead_20 : decode cX3_writeHead 20 = .ok (.iconst 0, 1) := by decide +kernel
theorem dX3_writeHead_21 : decode cX3_writeHead 21 = .ok (.goto 14, 3) := by decide +kernel
theorem dX3_writeHead_24 : decode cX3_writeHead 24 = .ok (.iload_n 3, 1) := by decide +kernel
theorem dX3_writeHead_25 : decode cX3_writeHead 25 = .ok (.ldc 149, 2) := by decide +kernel
theorem dX3_writeHead_27 : decode cX3_writeHead 27 = .ok (.if_icmp .ge 7, 3) := by decide +kernel
theorem dX3_writeHead_30 : decode cX3_writeHead 30 = .ok (.iconst 1, 1) := by decide +kernel
theorem dX3_writeHead_31 : decode cX3_writeHead 31 = .ok (.goto 4, 3) := by decide +kernel
theorem dX3_writeHead_34 : decode cX3_writeHead 34 = .ok (.iconst 2, 1) := by decide +kernel
theorem dX3_writeHead_35 : decode cX3_writeHead 35 = .ok (.istore 4, 2) := by decide +kernel
theorem dX3_writeHead_37 : decode cX3_writeHead 37 = .ok (.aload_n 0, 1) := by decide +kernel
theorem dX3_writeHead_38 : decode cX3_writeHead 38 = .ok (.iload_n 2, 1) := by decide +kernel
theorem dX3_writeHead_39 : decode cX3_writeHead 39 = .ok (.iload 4, 2) := by decide +kernel
theorem dX3_writeHead_41 : decode cX3_writeHead 41 = .ok (.iadd, 1) := by decide +kernel
theorem dX3_writeHead_42 : decode cX3_writeHead 42 = .ok (.i2l, 1) := by decide +kernel
theorem dX3_writeHead_43 : decode cX3_writeHead 43 = .ok (.iconst 1, 1) := by decide +kernel
theorem dX3_writeHead_44 : decode cX3_writeHead 44 = .ok (.invokevirtual 71, 3) := by decide +kernel
theorem dX3_writeHead_47 : decode cX3_writeHead 47 = .ok (.aload_n 0, 1) := by decide +kernel
theorem dX3_writeHead_48 : decode cX3_writeHead 48 = .ok (.iload_n 3, 1) := by decide +kernel
theorem dX3_writeHead_49 : decode cX3_writeHead 49 = .ok (.i2l, 1) := by decide +kernel
theorem dX3_writeHead_50 : decode cX3_writeHead 50 = .ok (.iconst 1, 1) := by decide +kernel
theorem dX3_writeHead_51 : decode cX3_writeHead 51 = .ok (.iload 4, 2) := by decide +kernel
theorem dX3_writeHead_53 : decode cX3_writeHead 53 = .ok (.ishl, 1) := by decide +kernel
theorem dX3_writeHead_54 : decode cX3_writeHead 54 = .ok (.invokevirtual 71, 3) := by decide +kernel
theorem dX3_writeHead_57 : decode cX3_writeHead 57 = .ok (.return_, 1) := by decide +kernel
theorem dX3_extensionLead_0 : decode cX3_extensionLead 0 = .ok (.iconst 0, 1) := by decide +kernel
theorem dX3_extensionLead_1 : decode cX3_extensionLead 1 = .ok (.istore_n 1, 1) := by decide +kernel
theorem dX3_extensionLead_2 : decode cX3_extensionLead 2 = .ok (.iload_n 1, 1) := by decide +kernel
theorem dX3_extensionLead_3 : decode cX3_extensionLead 3 = .ok (.iconst 5, 1) := by decide +kernel
theorem dX3_extensionLead_4 : decode cX3_extensionLead 4 = .ok (.if_icmp .ge 22, 3) := by decide +kernel
theorem dX3_extensionLead_7 : decode cX3_extensionLead 7 = .ok (.iload_n 0, 1) := by decide +kernel
theorem dX3_extensionLead_8 : decode cX3_extensionLead 8 = .ok (.iconst 1, 1) := by decide +kernel
theorem dX3_extensionLead_9 : decode cX3_extensionLead 9 = .ok (.iload_n 1, 1) := by decide +kernel
theorem dX3_extensionLead_10 : decode cX3_extensionLead 10 = .ok (.ishl, 1) := by decide +kernel
theorem dX3_extensionLead_11 : decode cX3_extensionLead 11 = .ok (.if_icmp .ne 9, 3) := by decide +kernel
theorem dX3_extensionLead_14 : decode cX3_extensionLead 14 = .ok (.sipush 212, 3) := by decide +kernel
theorem dX3_extensionLead_17 : decode cX3_extensionLead 17 = .ok (.iload_n 1, 1) := by decide +kernel
theorem dX3_extensionLead_18 : decode cX3_extensionLead 18 = .ok (.iadd, 1) := by decide +kernel
theorem dX3_extensionLead_19 : decode cX3_extensionLead 19 = .ok (.ireturn, 1) := by decide +kernel
theorem dX3_extensionLead_20 : decode cX3_extensionLead 20 = .ok (.iinc 1 1, 3) := by decide +kernel
theorem dX3_extensionLead_23 : decode cX3_extensionLead 23 = .ok (.goto (-21), 3) := by decide +kernel
theorem dX3_extensionLead_26 : decode cX3_extensionLead 26 = .ok (.iconst (-1), 1) := by decide +kernel
theorem dX3_extensionLead_27 : decode cX3_extensionLead 27 = .ok (.ireturn, 1) := by decide +kernel
theorem dX3_writeInteger_0 : decode cX3_writeInteger 0 = .ok (.lload_n 1, 1) := by decide +kernel
theorem dX3_writeInteger_1 : decode cX3_writeInteger 1 = .ok (.iload_n 3, 1) := by decide +kernel
theorem dX3_writeInteger_2 : decode cX3_writeInteger 2 = .ok (.invokestatic 123, 3) := by decide +kernel
theorem dX3_writeInteger_5 : decode cX3_writeInteger 5 = .ok (.istore 4, 2) := by decide +kernel
theorem dX3_writeInteger_7 : decode cX3_writeInteger 7 = .ok (.iload 4, 2) := by decide +kernel
theorem dX3_writeInteger_9 : decode cX3_writeInteger 9 = .ok (.iconst (-1), 1) := by decide +kernel
theorem dX3_writeInteger_10 : decode cX3_writeInteger 10 = .ok (.if_icmp .ne 12, 3) := by decide +kernel
theorem dX3_writeInteger_13 : decode cX3_writeInteger 13 = .ok (.aload_n 0, 1) := by decide +kernel
theorem dX3_writeInteger_14 : decode cX3_writeInteger 14 = .ok (.lload_n 1, 1) := by decide +kernel
theorem dX3_writeInteger_15 : decode cX3_writeInteger 15 = .ok (.iconst 1, 1) := by decide +kernel
theorem dX3_writeInteger_16 : decode cX3_writeInteger 16 = .ok (.invokevirtual 71, 3) := by decide +kernel
theorem dX3_writeInteger_19 : decode cX3_writeInteger 19 = .ok (.goto 40, 3) := by decide +kernel
theorem dX3_writeInteger_22 : decode cX3_writeInteger 22 = .ok (.aload_n 0, 1) := by decide +kernel
theorem dX3_writeInteger_23 : decode cX3_writeInteger 23 = .ok (.iload_n 3, 1) := by decide +kernel
theorem dX3_writeInteger_24 : decode cX3_writeInteger 24 = .ok (.ifCond .ne 9, 3) := by decide +kernel
theorem dX3_writeInteger_27 : decode cX3_writeInteger 27 = .ok (.lload_n 1, 1) := by decide +kernel
theorem dX3_writeInteger_28 : decode cX3_writeInteger 28 = .ok (.lconst 0, 1) := by decide +kernel
theorem dX3_writeInteger_29 : decode cX3_writeInteger 29 = .ok (.lcmp, 1) := by decide +kernel
theorem dX3_writeInteger_30 : decode cX3_writeInteger 30 = .ok (.ifCond .lt 9, 3) := by decide +kernel
theorem dX3_writeInteger_33 : decode cX3_writeInteger 33 = .ok (.sipush 204, 3) := by decide +kernel
theorem dX3_writeInteger_36 : decode cX3_writeInteger 36 = .ok (.goto 6, 3) := by decide +kernel
theorem dX3_writeInteger_39 : decode cX3_writeInteger 39 = .ok (.sipush 208, 3) := by decide +kernel
theorem dX3_writeInteger_42 : decode cX3_writeInteger 42 = .ok (.iload 4, 2) := by decide +kernel
theorem dX3_writeInteger_44 : decode cX3_writeInteger 44 = .ok (.iadd, 1) := by decide +kernel
theorem dX3_writeInteger_45 : decode cX3_writeInteger 45 = .ok (.i2l, 1) := by decide +kernel
theorem dX3_writeInteger_46 : decode cX3_writeInteger 46 = .ok (.iconst 1, 1) := by decide +kernel
theorem dX3_writeInteger_47 : decode cX3_writeInteger 47 = .ok (.invokevirtual 71, 3) := by decide +kernel
theorem dX3_writeInteger_50 : decode cX3_writeInteger 50 = .ok (.aload_n 0, 1) := by decide +kernel
theorem dX3_writeInteger_51 : decode cX3_writeInteger 51 = .ok (.lload_n 1, 1) := by decide +kernel
theorem dX3_writeInteger_52 : decode cX3_writeInteger 52 = .ok (.iconst 1, 1) := by decide +kernel
theorem dX3_writeInteger_53 : decode cX3_writeInteger 53 = .ok (.iload 4, 2) := by decide +kernel
theorem dX3_writeInteger_55 : decode cX3_writeInteger 55 = .ok (.ishl, 1) := by decide +kernel
theorem dX3_writeInteger_56 : decode cX3_writeInteger 56 = .ok (.invokevirtual 71, 3) := by decide +kernel
theorem dX3_writeInteger_59 : decode cX3_writeInteger 59 = .ok (.return_, 1) := by decide +kernel
theorem dX3_integerStep_0 : decode cX3_integerStep 0 = .ok (.iload_n 2, 1) := by decide +kernel
theorem dX3_integerStep_1 : decode cX3_integerStep 1 = .ok (.ifCond .eq 5, 3) := by decide +kernel
theorem dX3_integerStep_4 : decode cX3_integerStep 4 = .ok (.iconst 3, 1) := by decide +kernel
theorem dX3_integerStep_5 : decode cX3_integerStep 5 = .ok (.ireturn, 1) := by decide +kernel
theorem dX3_integerStep_6 : decode cX3_integerStep 6 = .ok (.lload_n 0, 1) := by decide +kernel
theorem dX3_integerStep_7 : decode cX3_integerStep 7 = .ok (.ldc2_w 150, 3) := by decide +kernel
theorem dX3_integerStep_10 : decode cX3_integerStep 10 = .ok (.lcmp, 1) := by decide +kernel
theorem dX3_integerStep_11 : decode cX3_integerStep 11 = .ok (.ifCond .lt 13, 3) := by decide +kernel
theorem dX3_integerStep_14 : decode cX3_integerStep 14 = .ok (.lload_n 0, 1) := by decide +kernel
theorem dX3_integerStep_15 : decode cX3_integerStep 15 = .ok (.ldc2_w 152, 3) := by decide +kernel
theorem dX3_integerStep_18 : decode cX3_integerStep 18 = .ok (.lcmp, 1) := by decide +kernel
theorem dX3_integerStep_19 : decode cX3_integerStep 19 = .ok (.ifCond .ge 5, 3) := by decide +kernel
theorem dX3_integerStep_22 : decode cX3_integerStep 22 = .ok (.iconst (-1), 1) := by decide +kernel
theorem dX3_integerStep_23 : decode cX3_integerStep 23 = .ok (.ireturn, 1) := by decide +kernel
theorem dX3_integerStep_24 : decode cX3_integerStep 24 = .ok (.lload_n 0, 1) := by decide +kernel
theorem dX3_integerStep_25 : decode cX3_integerStep 25 = .ok (.lconst 0, 1) := by decide +kernel
theorem dX3_integerStep_26 : decode cX3_integerStep 26 = .ok (.lcmp, 1) := by decide +kernel
theorem dX3_integerStep_27 : decode cX3_integerStep 27 = .ok (.ifCond .ge 13, 3) := by decide +kernel
theorem dX3_integerStep_30 : decode cX3_integerStep 30 = .ok (.lload_n 0, 1) := by decide +kernel
theorem dX3_integerStep_31 : decode cX3_integerStep 31 = .ok (.ldc2_w 135, 3) := by decide +kernel
theorem dX3_integerStep_34 : decode cX3_integerStep 34 = .ok (.lxor, 1) := by decide +kernel
theorem dX3_integerStep_35 : decode cX3_integerStep 35 = .ok (.iconst 1, 1) := by decide +kernel
theorem dX3_integerStep_36 : decode cX3_integerStep 36 = .ok (.lshl, 1) := by decide +kernel
theorem dX3_integerStep_37 : decode cX3_integerStep 37 = .ok (.goto 4, 3) := by decide +kernel
theorem dX3_integerStep_40 : decode cX3_integerStep 40 = .ok (.lload_n 0, 1) := by decide +kernel
theorem dX3_integerStep_41 : decode cX3_integerStep 41 = .ok (.lstore_n 3, 1) := by decide +kernel
theorem dX3_integerStep_42 : decode cX3_integerStep 42 = .ok (.lload_n 3, 1) := by decide +kernel
theorem dX3_integerStep_43 : decode cX3_integerStep 43 = .ok (.bipush 8, 2) := by decide +kernel
theorem dX3_integerStep_45 : decode cX3_integerStep 45 = .ok (.lshr, 1) := by decide +kernel
theorem dX3_integerStep_46 : decode cX3_integerStep 46 = .ok (.lconst 0, 1) := by decide +kernel
theorem dX3_integerStep_47 : decode cX3_integerStep 47 = .ok (.lcmp, 1) := by decide +kernel
theorem dX3_integerStep_48 : decode cX3_integerStep 48 = .ok (.ifCond .ne 5, 3) := by decide +kernel
theorem dX3_integerStep_51 : decode cX3_integerStep 51 = .ok (.iconst 0, 1) := by decide +kernel
theorem dX3_integerStep_52 : decode cX3_integerStep 52 = .ok (.ireturn, 1) := by decide +kernel
theorem dX3_integerStep_53 : decode cX3_integerStep 53 = .ok (.lload_n 3, 1) := by decide +kernel
theorem dX3_integerStep_54 : decode cX3_integerStep 54 = .ok (.bipush 16, 2) := by decide +kernel
theorem dX3_integerStep_56 : decode cX3_integerStep 56 = .ok (.lshr, 1) := by decide +kernel
theorem dX3_integerStep_57 : decode cX3_integerStep 57 = .ok (.lconst 0, 1) := by decide +kernel
theorem dX3_integerStep_58 : decode cX3_integerStep 58 = .ok (.lcmp, 1) := by decide +kernel
theorem dX3_integerStep_59 : decode cX3_integerStep 59 = .ok (.ifCond .ne 5, 3) := by decide +kernel
theorem dX3_integerStep_62 : decode cX3_integerStep 62 = .ok (.iconst 1, 1) := by decide +kernel
theorem dX3_integerStep_63 : decode cX3_integerStep 63 = .ok (.ireturn, 1) := by decide +kernel
theorem dX3_integerStep_64 : decode cX3_integerStep 64 = .ok (.lload_n 3, 1) := by decide +kernel
theorem dX3_integerStep_65 : decode cX3_integerStep 65 = .ok (.bipush 32, 2) := by decide +kernel
theorem dX3_integerStep_67 : decode cX3_integerStep 67 = .ok (.lshr, 1) := by decide +kernel
theorem dX3_integerStep_68 : decode cX3_integerStep 68 = .ok (.lconst 0, 1) := by decide +kernel
theorem dX3_integerStep_69 : decode cX3_integerStep 69 = .ok (.lcmp, 1) := by decide +kernel
theorem dX3_integerStep_70 : decode cX3_integerStep 70 = .ok (.ifCond .ne 7, 3) := by decide +kernel
theorem dX3_integerStep_73 : decode cX3_integerStep 73 = .ok (.iconst 2, 1) := by decide +kernel
theorem dX3_integerStep_74 : decode cX3_integerStep 74 = .ok (.goto 4, 3) := by decide +kernel
theorem dX3_integerStep_77 : decode cX3_integerStep 77 = .ok (.iconst 3, 1) := by decide +kernel
theorem dX3_integerStep_78 : decode cX3_integerStep 78 = .ok (.ireturn, 1) := by decide +kernel
theorem dX3_writeBytes_0 : decode cX3_writeBytes 0 = .ok (.aload_n 0, 1) := by decide +kernel
theorem dX3_writeBytes_1 : decode cX3_writeBytes 1 = .ok (.iload_n 3, 1) := by decide +kernel
theorem dX3_writeBytes_2 : decode cX3_writeBytes 2 = .ok (.invokevirtual 141, 3) := by decide +kernel
theorem dX3_writeBytes_5 : decode cX3_writeBytes 5 = .ok (.ifCond .eq 12, 3) := by decide +kernel
theorem dX3_writeBytes_8 : decode cX3_writeBytes 8 = .ok (.aload_n 0, 1) := by decide +kernel
theorem dX3_writeBytes_9 : decode cX3_writeBytes 9 = .ok (.getfield 12, 3) := by decide +kernel
theorem dX3_writeBytes_12 : decode cX3_writeBytes 12 = .ok (.lload_n 1, 1) := by decide +kernel
theorem dX3_writeBytes_13 : decode cX3_writeBytes 13 = .ok (.iload_n 3, 1) := by decide +kernel
theorem dX3_writeBytes_14 : decode cX3_writeBytes 14 = .ok (.invokevirtual 154, 3) := by decide +kernel
theorem dX3_writeBytes_17 : decode cX3_writeBytes 17 = .ok (.return_, 1) := by decide +kernel
theorem dX3_fits_0 : decode cX3_fits 0 = .ok (.aload_n 0, 1) := by decide +kernel
theorem dX3_fits_1 : decode cX3_fits 1 = .ok (.aload_n 0, 1) := by decide +kernel
theorem dX3_fits_2 : decode cX3_fits 2 = .ok (.getfield 33, 3) := by decide +kernel
theorem dX3_fits_5 : decode cX3_fits 5 = .ok (.ifCond .ne 19, 3) := by decide +kernel
theorem dX3_fits_8 : decode cX3_fits 8 = .ok (.aload_n 0, 1) := by decide +kernel
theorem dX3_fits_9 : decode cX3_fits 9 = .ok (.getfield 12, 3) := by decide +kernel
theorem dX3_fits_12 : decode cX3_fits 12 = .ok (.invokevirtual 157, 3) := by decide +kernel
theorem dX3_fits_15 : decode cX3_fits 15 = .ok (.iload_n 1, 1) := by decide +kernel
theorem dX3_fits_16 : decode cX3_fits 16 = .ok (.iadd, 1) := by decide +kernel
theorem dX3_fits_17 : decode cX3_fits 17 = .ok (.aload_n 0, 1) := by decide +kernel
theorem dX3_fits_18 : decode cX3_fits 18 = .ok (.getfield 29, 3) := by decide +kernel
theorem dX3_fits_21 : decode cX3_fits 21 = .ok (.if_icmp .le 7, 3) := by decide +kernel
theorem dX3_fits_24 : decode cX3_fits 24 = .ok (.iconst 1, 1) := by decide +kernel
theorem dX3_fits_25 : decode cX3_fits 25 = .ok (.goto 4, 3) := by decide +kernel
theorem dX3_fits_28 : decode cX3_fits 28 = .ok (.iconst 0, 1) := by decide +kernel
theorem dX3_fits_29 : decode cX3_fits 29 = .ok (.putfield 33, 3) := by decide +kernel
theorem dX3_fits_32 : decode cX3_fits 32 = .ok (.aload_n 0, 1) := by decide +kernel
theorem dX3_fits_33 : decode cX3_fits 33 = .ok (.getfield 33, 3) := by decide +kernel
theorem dX3_fits_36 : decode cX3_fits 36 = .ok (.ifCond .ne 7, 3) := by decide +kernel
theorem dX3_fits_39 : decode cX3_fits 39 = .ok (.iconst 1, 1) := by decide +kernel
theorem dX3_fits_40 : decode cX3_fits 40 = .ok (.goto 4, 3) := by decide +kernel
theorem dX3_fits_43 : decode cX3_fits 43 = .ok (.iconst 0, 1) := by decide +kernel
theorem dX3_fits_44 : decode cX3_fits 44 = .ok (.ireturn, 1) := by decide +kernel
theorem dX4_init_0 : decode cX4_init 0 = .ok (.aload_n 0, 1) := by decide +kernel
theorem dX4_init_1 : decode cX4_init 1 = .ok (.invokespecial 3, 3) := by decide +kernel
theorem dX4_init_4 : decode cX4_init 4 = .ok (.aload_n 0, 1) := by decide +kernel
theorem dX4_init_5 : decode cX4_init 5 = .ok (.new 9, 3) := by decide +kernel
theorem dX4_init_8 : decode cX4_init 8 = .ok (.dup, 1) := by decide +kernel
theorem dX4_init_9 : decode cX4_init 9 = .ok (.invokespecial 11, 3) := by decide +kernel
theorem dX4_init_12 : decode cX4_init 12 = .ok (.putfield 12, 3) := by decide +kernel
theorem dX4_init_15 : decode cX4_init 15 = .ok (.aload_n 0, 1) := by decide +kernel
theorem dX4_init_16 : decode cX4_init 16 = .ok (.new 18, 3) := by decide +kernel
theorem dX4_init_19 : decode cX4_init 19 = .ok (.dup, 1) := by decide +kernel
theorem dX4_init_20 : decode cX4_init 20 = .ok (.invokespecial 20, 3) := by decide +kernel
theorem dX4_init_23 : decode cX4_init 23 = .ok (.putfield 21, 3) := by decide +kernel
theorem dX4_init_26 : decode cX4_init 26 = .ok (.return_, 1) := by decide +kernel
theorem dX4_readTape_0 : decode cX4_readTape 0 = .ok (.aload_n 2, 1) := by decide +kernel
theorem dX4_readTape_1 : decode cX4_readTape 1 = .ok (.invokevirtual 25, 3) := by decide +kernel
theorem dX4_readTape_4 : decode cX4_readTape 4 = .ok (.istore_n 3, 1) := by decide +kernel
theorem dX4_readTape_5 : decode cX4_readTape 5 = .ok (.aload_n 2, 1) := by decide +kernel
theorem dX4_readTape_6 : decode cX4_readTape 6 = .ok (.getfield 31, 3) := by decide +kernel
theorem dX4_readTape_9 : decode cX4_readTape 9 = .ok (.istore 4, 2) := by decide +kernel
theorem dX4_readTape_11 : decode cX4_readTape 11 = .ok (.aload_n 2, 1) := by decide +kernel
theorem dX4_readTape_12 : decode cX4_readTape 12 = .ok (.getfield 35, 3) := by decide +kernel
theorem dX4_readTape_15 : decode cX4_readTape 15 = .ok (.istore 5, 2) := by decide +kernel
theorem dX4_readTape_17 : decode cX4_readTape 17 = .ok (.aload_n 0, 1) := by decide +kernel
theorem dX4_readTape_18 : decode cX4_readTape 18 = .ok (.iconst 0, 1) := by decide +kernel
theorem dX4_readTape_19 : decode cX4_readTape 19 = .ok (.putfield 38, 3) := by decide +kernel
theorem dX4_readTape_22 : decode cX4_readTape 22 = .ok (.aload_n 0, 1) := by decide +kernel
theorem dX4_readTape_23 : decode cX4_readTape 23 = .ok (.iconst 0, 1) := by decide +kernel
theorem dX4_readTape_24 : decode cX4_readTape 24 = .ok (.putfield 41, 3) := by decide +kernel
theorem dX4_readTape_27 : decode cX4_readTape 27 = .ok (.aload_n 0, 1) := by decide +kernel
theorem dX4_readTape_28 : decode cX4_readTape 28 = .ok (.iconst 0, 1) := by decide +kernel
theorem dX4_readTape_29 : decode cX4_readTape 29 = .ok (.putfield 44, 3) := by decide +kernel
theorem dX4_readTape_32 : decode cX4_readTape 32 = .ok (.aload_n 0, 1) := by decide +kernel
theorem dX4_readTape_33 : decode cX4_readTape 33 = .ok (.aload_n 1, 1) := by decide +kernel
theorem dX4_readTape_34 : decode cX4_readTape 34 = .ok (.aload_n 2, 1) := by decide +kernel
theorem dX4_readTape_35 : decode cX4_readTape 35 = .ok (.iconst 0, 1) := by decide +kernel
theorem dX4_readTape_36 : decode cX4_readTape 36 = .ok (.invokevirtual 47, 3) := by decide +kernel
theorem dX4_readTape_39 : decode cX4_readTape 39 = .ok (.istore 6, 2) := by decide +kernel
theorem dX4_readTape_41 : decode cX4_readTape 41 = .ok (.aload_n 0, 1) := by decide +kernel
theorem dX4_readTape_42 : decode cX4_readTape 42 = .ok (.getfield 41, 3) := by decide +kernel
theorem dX4_readTape_45 : decode cX4_readTape 45 = .ok (.ifCond .ne 26, 3) := by decide +kernel
theorem dX4_readTape_48 : decode cX4_readTape 48 = .ok (.aload_n 0, 1) := by decide +kernel
theorem dX4_readTape_49 : decode cX4_readTape 49 = .ok (.getfield 38, 3) := by decide +kernel
theorem dX4_readTape_52 : decode cX4_readTape 52 = .ok (.aload_n 1, 1) := by decide +kernel
theorem dX4_readTape_53 : decode cX4_readTape 53 = .ok (.invokevirtual 51, 3) := by decide +kernel
theorem dX4_readTape_56 : decode cX4_readTape 56 = .ok (.if_icmp .ge 15, 3) := by decide +kernel
theorem dX4_readTape_59 : decode cX4_readTape 59 = .ok (.aload_n 0, 1) := by decide +kernel
theorem dX4_readTape_60 : decode cX4_readTape 60 = .ok (.bipush 8, 2) := by decide +kernel
theorem dX4_readTape_62 : decode cX4_readTape 62 = .ok (.aload_n 0, 1) := by decide +kernel
theorem dX4_readTape_63 : decode cX4_readTape 63 = .ok (.getfield 38, 3) := by decide +kernel
theorem dX4_readTape_66 : decode cX4_readTape 66 = .ok (.invokevirtual 54, 3) := by decide +kernel
theorem dX4_readTape_69 : decode cX4_readTape 69 = .ok (.istore 6, 2) := by decide +kernel
theorem dX4_readTape_71 : decode cX4_readTape 71 = .ok (.aload_n 0, 1) := by decide +kernel
theorem dX4_readTape_72 : decode cX4_readTape 72 = .ok (.getfield 41, 3) := by decide +kernel
theorem dX4_readTape_75 : decode cX4_readTape 75 = .ok (.ifCond .eq 12, 3) := by decide +kernel
theorem dX4_readTape_78 : decode cX4_readTape 78 = .ok (.aload_n 2, 1) := by decide +kernel
theorem dX4_readTape_79 : decode cX4_readTape 79 = .ok (.iload_n 3, 1) := by decide +kernel
theorem dX4_readTape_80 : decode cX4_readTape 80 = .ok (.iload 4, 2) := by decide +kernel
theorem dX4_readTape_82 : decode cX4_readTape 82 = .ok (.iload 5, 2) := by decide +kernel
theorem dX4_readTape_84 : decode cX4_readTape 84 = .ok (.invokevirtual 58, 3) := by decide +kernel
theorem dX4_readTape_87 : decode cX4_readTape 87 = .ok (.aload_n 0, 1) := by decide +kernel
theorem dX4_readTape_88 : decode cX4_readTape 88 = .ok (.getfield 21, 3) := by decide +kernel
theorem dX4_readTape_91 : decode cX4_readTape 91 = .ok (.invokevirtual 62, 3) := by decide +kernel
theorem dX4_readTape_94 : decode cX4_readTape 94 = .ok (.iload 6, 2) := by decide +kernel
theorem dX4_readTape_96 : decode cX4_readTape 96 = .ok (.ireturn, 1) := by decide +kernel
theorem dX4_endOfValue_0 : decode cX4_endOfValue 0 = .ok (.lconst 1, 1) := by decide +kernel
theorem dX4_endOfValue_1 : decode cX4_endOfValue 1 = .ok (.lstore_n 3, 1) := by decide +kernel
theorem dX4_endOfValue_2 : decode cX4_endOfValue 2 = .ok (.iload_n 2, 1) := by decide +kernel
theorem dX4_endOfValue_3 : decode cX4_endOfValue 3 = .ok (.istore 5, 2) := by decide +kernel
theorem dX4_endOfValue_5 : decode cX4_endOfValue 5 = .ok (.iload_n 2, 1) := by decide +kernel
theorem dX4_endOfValue_6 : decode cX4_endOfValue 6 = .ok (.istore 6, 2) := by decide +kernel
theorem dX4_endOfValue_8 : decode cX4_endOfValue 8 = .ok (.iload 6, 2) := by decide +kernel
theorem dX4_endOfValue_10 : decode cX4_endOfValue 10 = .ok (.aload_n 1, 1) := by decide +kernel
theorem dX4_endOfValue_11 : decode cX4_endOfValue 11 = .ok (.invokevirtual 51, 3) := by decide +kernel
theorem dX4_endOfValue_14 : decode cX4_endOfValue 14 = .ok (.if_icmp .ge 109, 3) := by decide +kernel
theorem dX4_endOfValue_17 : decode cX4_endOfValue 17 = .ok (.lload_n 3, 1) := by decide +kernel
theorem dX4_endOfValue_18 : decode cX4_endOfValue 18 = .ok (.lconst 0, 1) := by decide +kernel
theorem dX4_endOfValue_19 : decode cX4_endOfValue 19 = .ok (.lcmp, 1) := by decide +kernel
theorem dX4_endOfValue_20 : decode cX4_endOfValue 20 = .ok (.ifCond .le 103, 3) := by decide +kernel
theorem dX4_endOfValue_23 : decode cX4_endOfValue 23 = .ok (.iload 5, 2) := by decide +kernel
theorem dX4_endOfValue_25 : decode cX4_endOfValue 25 = .ok (.aload_n 1, 1) := by decide +kernel
theorem dX4_endOfValue_26 : decode cX4_endOfValue 26 = .ok (.invokevirtual 51, 3) := by decide +kernel
theorem dX4_endOfValue_29 : decode cX4_endOfValue 29 = .ok (.if_icmp .lt 5, 3) := by decide +kernel
theorem dX4_endOfValue_32 : decode cX4_endOfValue 32 = .ok (.iconst (-1), 1) := by decide +kernel
theorem dX4_endOfValue_33 : decode cX4_endOfValue 33 = .ok (.ireturn, 1) := by decide +kernel
theorem dX4_endOfValue_34 : decode cX4_endOfValue 34 = .ok (.aload_n 0, 1) := by decide +kernel
theorem dX4_endOfValue_35 : decode cX4_endOfValue 35 = .ok (.getfield 12, 3) := by decide +kernel
theorem dX4_endOfValue_38 : decode cX4_endOfValue 38 = .ok (.aload_n 1, 1) := by decide +kernel
theorem dX4_endOfValue_39 : decode cX4_endOfValue 39 = .ok (.iload 5, 2) := by decide +kernel
theorem dX4_endOfValue_41 : decode cX4_endOfValue 41 = .ok (.invokevirtual 65, 3) := by decide +kernel
theorem dX4_endOfValue_44 : decode cX4_endOfValue 44 = .ok (.aload_n 0, 1) := by decide +kernel
theorem dX4_endOfValue_45 : decode cX4_endOfValue 45 = .ok (.getfield 12, 3) := by decide +kernel
theorem dX4_endOfValue_48 : decode cX4_endOfValue 48 = .ok (.getfield 69, 3) := by decide +kernel
theorem dX4_endOfValue_51 : decode cX4_endOfValue 51 = .ok (.iconst (-1), 1) := by decide +kernel
theorem dX4_endOfValue_52 : decode cX4_endOfValue 52 = .ok (.if_icmp .eq 22, 3) := by decide +kernel
theorem dX4_endOfValue_55 : decode cX4_endOfValue 55 = .ok (.aload_n 0, 1) := by decide +kernel
theorem dX4_endOfValue_56 : decode cX4_endOfValue 56 = .ok (.getfield 12, 3) := by decide +kernel
theorem dX4_endOfValue_59 : decode cX4_endOfValue 59 = .ok (.invokevirtual 72, 3) := by decide +kernel
theorem dX4_endOfValue_62 : decode cX4_endOfValue 62 = .ok (.aload_n 1, 1) := by decide +kernel
theorem dX4_endOfValue_63 : decode cX4_endOfValue 63 = .ok (.invokevirtual 51, 3) := by decide +kernel
theorem dX4_endOfValue_66 : decode cX4_endOfValue 66 = .ok (.iload 5, 2) := by decide +kernel
theorem dX4_endOfValue_68 : decode cX4_endOfValue 68 = .ok (.isub, 1) := by decide +kernel
theorem dX4_endOfValue_69 : decode cX4_endOfValue 69 = .ok (.i2l, 1) := by decide +kernel
theorem dX4_endOfValue_70 : decode cX4_endOfValue 70 = .ok (.lcmp, 1) := by decide +kernel
theorem dX4_endOfValue_71 : decode cX4_endOfValue 71 = .ok (.ifCond .le 5, 3) := by decide +kernel
theorem dX4_endOfValue_74 : decode cX4_endOfValue 74 = .ok (.iconst (-1), 1) := by decide +kernel
theorem dX4_endOfValue_75 : decode cX4_endOfValue 75 = .ok (.ireturn, 1) := by decide +kernel
theorem dX4_endOfValue_76 : decode cX4_endOfValue 76 = .ok (.iload 5, 2) := by decide +kernel
theorem dX4_endOfValue_78 : decode cX4_endOfValue 78 = .ok (.aload_n 0, 1) := by decide +kernel
theorem dX4_endOfValue_79 : decode cX4_endOfValue 79 = .ok (.getfield 12, 3) := by decide +kernel
theorem dX4_endOfValue_82 : decode cX4_endOfValue 82 = .ok (.invokevirtual 72, 3) := by decide +kernel
theorem dX4_endOfValue_85 : decode cX4_endOfValue 85 = .ok (.l2i, 1) := by decide +kernel
theorem dX4_endOfValue_86 : decode cX4_endOfValue 86 = .ok (.iadd, 1) := by decide +kernel
theorem dX4_endOfValue_87 : decode cX4_endOfValue 87 = .ok (.istore 5, 2) := by decide +kernel
theorem dX4_endOfValue_89 : decode cX4_endOfValue 89 = .ok (.lload_n 3, 1) := by decide +kernel
theorem dX4_endOfValue_90 : decode cX4_endOfValue 90 = .ok (.aload_n 0, 1) := by decide +kernel
theorem dX4_endOfValue_91 : decode cX4_endOfValue 91 = .ok (.getfield 12, 3) := by decide +kernel
theorem dX4_endOfValue_94 : decode cX4_endOfValue 94 = .ok (.invokevirtual 76, 3) := by decide +kernel
theorem dX4_endOfValue_97 : decode cX4_endOfValue 97 = .ok (.ifCond .eq 15, 3) := by decide +kernel
theorem dX4_endOfValue_100 : decode cX4_endOfValue 100 = .ok (.aload_n 0, 1) := by decide +kernel
theorem dX4_endOfValue_101 : decode cX4_endOfValue 101 = .ok (.getfield 12, 3) := by decide +kernel
theorem dX4_endOfValue_104 : decode cX4_endOfValue 104 = .ok (.getfield 80, 3) := by decide +kernel
theorem dX4_endOfValue_107 : decode cX4_endOfValue 107 = .ok (.lconst 1, 1) := by decide +kernel
theorem dX4_endOfValue_108 : decode cX4_endOfValue 108 = .ok (.lsub, 1) := by decide +kernel
theorem dX4_endOfValue_109 : decode cX4_endOfValue 109 = .ok (.goto 6, 3) := by decide +kernel
theorem dX4_endOfValue_112 : decode cX4_endOfValue 112 = .ok (.ldc2_w 84, 3) := by decide +kernel
theorem dX4_endOfValue_115 : decode cX4_endOfValue 115 = .ok (.ladd, 1) := by decide +kernel
theorem dX4_endOfValue_116 : decode cX4_endOfValue 116 = .ok (.lstore_n 3, 1) := by decide +kernel
theorem dX4_endOfValue_117 : decode cX4_endOfValue 117 = .ok (.iinc 6 1, 3) := by decide +kernel
theorem dX4_endOfValue_120 : decode cX4_endOfValue 120 = .ok (.goto (-112), 3) := by decide +kernel
theorem dX4_endOfValue_123 : decode cX4_endOfValue 123 = .ok (.lload_n 3, 1) := by decide +kernel
theorem dX4_endOfValue_124 : decode cX4_endOfValue 124 = .ok (.lconst 0, 1) := by decide +kernel
theorem dX4_endOfValue_125 : decode cX4_endOfValue 125 = .ok (.lcmp, 1) := by decide +kernel
theorem dX4_endOfValue_126 : decode cX4_endOfValue 126 = .ok (.ifCond .ne 8, 3) := by decide +kernel
theorem dX4_endOfValue_129 : decode cX4_endOfValue 129 = .ok (.iload 5, 2) := by decide +kernel
theorem dX4_endOfValue_131 : decode cX4_endOfValue 131 = .ok (.goto 4, 3) := by decide +kernel
theorem dX4_endOfValue_134 : decode cX4_endOfValue 134 = .ok (.iconst (-1), 1) := by decide +kernel
theorem dX4_endOfValue_135 : decode cX4_endOfValue 135 = .ok (.ireturn, 1) := by decide +kernel
theorem dX4_refuse_0 : decode cX4_refuse 0 = .ok (.aload_n 0, 1) := by decide +kernel
theorem dX4_refuse_1 : decode cX4_refuse 1 = .ok (.iload_n 1, 1) := by decide +kernel
theorem dX4_refuse_2 : decode cX4_refuse 2 = .ok (.putfield 41, 3) := by decide +kernel
theorem dX4_refuse_5 : decode cX4_refuse 5 = .ok (.aload_n 0, 1) := by decide +kernel
theorem dX4_refuse_6 : decode cX4_refuse 6 = .ok (.iload_n 2, 1) := by decide +kernel
theorem dX4_refuse_7 : decode cX4_refuse 7 = .ok (.putfield 44, 3) := by decide +kernel
theorem dX4_refuse_10 : decode cX4_refuse 10 = .ok (.iconst (-1), 1) := by decide +kernel
theorem dX4_refuse_11 : decode cX4_refuse 11 = .ok (.ireturn, 1) := by decide +kernel
theorem dX4_readValue_0 : decode cX4_readValue 0 = .ok (.aload_n 0, 1) := by decide +kernel
theorem dX4_readValue_1 : decode cX4_readValue 1 = .ok (.getfield 38, 3) := by decide +kernel
theorem dX4_readValue_4 : decode cX4_readValue 4 = .ok (.istore 4, 2) := by decide +kernel
theorem dX4_readValue_6 : decode cX4_readValue 6 = .ok (.iload 4, 2) := by decide +kernel
theorem dX4_readValue_8 : decode cX4_readValue 8 = .ok (.aload_n 1, 1) := by decide +kernel
theorem dX4_readValue_9 : decode cX4_readValue 9 = .ok (.invokevirtual 51, 3) := by decide +kernel
theorem dX4_readValue_12 : decode cX4_readValue 12 = .ok (.if_icmp .lt 11, 3) := by decide +kernel
theorem dX4_readValue_15 : decode cX4_readValue 15 = .ok (.aload_n 0, 1) := by decide +kernel
theorem dX4_readValue_16 : decode cX4_readValue 16 = .ok (.iconst 1, 1) := by decide +kernel
theorem dX4_readValue_17 : decode cX4_readValue 17 = .ok (.iload 4, 2) := by decide +kernel
theorem dX4_readValue_19 : decode cX4_readValue 19 = .ok (.invokevirtual 54, 3) := by decide +kernel
theorem dX4_readValue_22 : decode cX4_readValue 22 = .ok (.ireturn, 1) := by decide +kernel
theorem dX4_readValue_23 : decode cX4_readValue 23 = .ok (.aload_n 0, 1) := by decide +kernel
theorem dX4_readValue_24 : decode cX4_readValue 24 = .ok (.getfield 12, 3) := by decide +kernel
theorem dX4_readValue_27 : decode cX4_readValue 27 = .ok (.aload_n 1, 1) := by decide +kernel
theorem dX4_readValue_28 : decode cX4_readValue 28 = .ok (.iload 4, 2) := by decide +kernel
theorem dX4_readValue_30 : decode cX4_readValue 30 = .ok (.invokevirtual 65, 3) := by decide +kernel
theorem dX4_readValue_33 : decode cX4_readValue 33 = .ok (.aload_n 0, 1) := by decide +kernel
theorem dX4_readValue_34 : decode cX4_readValue 34 = .ok (.getfield 12, 3) := by decide +kernel
theorem dX4_readValue_37 : decode cX4_readValue 37 = .ok (.getfield 69, 3) := by decide +kernel
theorem dX4_readValue_40 : decode cX4_readValue 40 = .ok (.iconst (-1), 1) := by decide +kernel
theorem dX4_readValue_41 : decode cX4_readValue 41 = .ok (.if_icmp .ne 11, 3) := by decide +kernel
theorem dX4_readValue_44 : decode cX4_readValue 44 = .ok (.aload_n 0, 1) := by decide +kernel
theorem dX4_readValue_45 : decode cX4_readValue 45 = .ok (.iconst 2, 1) := by decide +kernel
theorem dX4_readValue_46 : decode cX4_readValue 46 = .ok (.iload 4, 2) := by decide +kernel
theorem dX4_readValue_48 : decode cX4_readValue 48 = .ok (.invokevirtual 54, 3) := by decide +kernel
theorem dX4_readValue_51 : decode cX4_readValue 51 = .ok (.ireturn, 1) := by decide +kernel
theorem dX4_readValue_52 : decode cX4_readValue 52 = .ok (.aload_n 0, 1) := by decide +kernel
theorem dX4_readValue_53 : decode cX4_readValue 53 = .ok (.getfield 12, 3) := by decide +kernel
theorem dX4_readValue_56 : decode cX4_readValue 56 = .ok (.invokevirtual 72, 3) := by decide +kernel
theorem dX4_readValue_59 : decode cX4_readValue 59 = .ok (.aload_n 1, 1) := by decide +kernel
theorem dX4_readValue_60 : decode cX4_readValue 60 = .ok (.invokevirtual 51, 3) := by decide +kernel
theorem dX4_readValue_63 : decode cX4_readValue 63 = .ok (.iload 4, 2) := by decide +kernel
theorem dX4_readValue_65 : decode cX4_readValue 65 = .ok (.isub, 1) := by decide +kernel
theorem dX4_readValue_66 : decode cX4_readValue 66 = .ok (.i2l, 1) := by decide +kernel
theorem dX4_readValue_67 : decode cX4_readValue 67 = .ok (.lcmp, 1) := by decide +kernel
theorem dX4_readValue_68 : decode cX4_readValue 68 = .ok (.ifCond .le 11, 3) := by decide +kernel
theorem dX4_readValue_71 : decode cX4_readValue 71 = .ok (.aload_n 0, 1) := by decide +kernel
theorem dX4_readValue_72 : decode cX4_readValue 72 = .ok (.iconst 1, 1) := by decide +kernel
theorem dX4_readValue_73 : decode cX4_readValue 73 = .ok (.iload 4, 2) := by decide +kernel
theorem dX4_readValue_75 : decode cX4_readValue 75 = .ok (.invokevirtual 54, 3) := by decide +kernel
theorem dX4_readValue_78 : decode cX4_readValue 78 = .ok (.ireturn, 1) := by decide +kernel
theorem dX4_readValue_79 : decode cX4_readValue 79 = .ok (.aload_n 0, 1) := by decide +kernel
theorem dX4_readValue_80 : decode cX4_readValue 80 = .ok (.iload 4, 2) := by decide +kernel
theorem dX4_readValue_82 : decode cX4_readValue 82 = .ok (.aload_n 0, 1) := by decide +kernel
theorem dX4_readValue_83 : decode cX4_readValue 83 = .ok (.getfield 12, 3) := by decide +kernel
theorem dX4_readValue_86 : decode cX4_readValue 86 = .ok (.invokevirtual 72, 3) := by decide +kernel
theorem dX4_readValue_89 : decode cX4_readValue 89 = .ok (.l2i, 1) := by decide +kernel
theorem dX4_readValue_90 : decode cX4_readValue 90 = .ok (.iadd, 1) := by decide +kernel
theorem dX4_readValue_91 : decode cX4_readValue 91 = .ok (.putfield 38, 3) := by decide +kernel
theorem dX4_readValue_94 : decode cX4_readValue 94 = .ok (.aload_n 0, 1) := by decide +kernel
theorem dX4_readValue_95 : decode cX4_readValue 95 = .ok (.getfield 12, 3) := by decide +kernel
theorem dX4_readValue_98 : decode cX4_readValue 98 = .ok (.getfield 69, 3) := by decide +kernel
theorem dX4_readValue_101 : decode cX4_readValue 101 = .ok (.tableswitch 79 5 11 #[53, 53, 43, 43, 53, 62, 71], 43) := by decide +kernel
theorem dX4_readValue_144 : decode cX4_readValue 144 = .ok (.aload_n 0, 1) := by decide +kernel
theorem dX4_readValue_145 : decode cX4_readValue 145 = .ok (.aload_n 1, 1) := by decide +kernel
theorem dX4_readValue_146 : decode cX4_readValue 146 = .ok (.aload_n 2, 1) := by decide +kernel
theorem dX4_readValue_147 : decode cX4_readValue 147 = .ok (.iload 4, 2) := by decide +kernel
theorem dX4_readValue_149 : decode cX4_readValue 149 = .ok (.iload_n 3, 1) := by decide +kernel
theorem dX4_readValue_150 : decode cX4_readValue 150 = .ok (.invokevirtual 86, 3) := by decide +kernel
theorem dX4_readValue_153 : decode cX4_readValue 153 = .ok (.ireturn, 1) := by decide +kernel
theorem dX4_readValue_154 : decode cX4_readValue 154 = .ok (.aload_n 0, 1) := by decide +kernel
theorem dX4_readValue_155 : decode cX4_readValue 155 = .ok (.aload_n 1, 1) := by decide +kernel
theorem dX4_readValue_156 : decode cX4_readValue 156 = .ok (.aload_n 2, 1) := by decide +kernel
theorem dX4_readValue_157 : decode cX4_readValue 157 = .ok (.iload 4, 2) := by decide +kernel
theorem dX4_readValue_159 : decode cX4_readValue 159 = .ok (.invokevirtual 90, 3) := by decide +kernel
theorem dX4_readValue_162 : decode cX4_readValue 162 = .ok (.ireturn, 1) := by decide +kernel
theorem dX4_readValue_163 : decode cX4_readValue 163 = .ok (.aload_n 0, 1) := by decide +kernel
theorem dX4_readValue_164 : decode cX4_readValue 164 = .ok (.aload_n 1, 1) := by decide +kernel
theorem dX4_readValue_165 : decode cX4_readValue 165 = .ok (.aload_n 2, 1) := by decide +kernel
theorem dX4_readValue_166 : decode cX4_readValue 166 = .ok (.iload 4, 2) := by decide +kernel
theorem dX4_readValue_168 : decode cX4_readValue 168 = .ok (.invokevirtual 93, 3) := by decide +kernel
theorem dX4_readValue_171 : decode cX4_readValue 171 = .ok (.ireturn, 1) := by decide +kernel
theorem dX4_readValue_172 : decode cX4_readValue 172 = .ok (.aload_n 0, 1) := by decide +kernel
theorem dX4_readValue_173 : decode cX4_readValue 173 = .ok (.aload_n 1, 1) := by decide +kernel
theorem dX4_readValue_174 : decode cX4_readValue 174 = .ok (.iload 4, 2) := by decide +kernel
theorem dX4_readValue_176 : decode cX4_readValue 176 = .ok (.invokevirtual 96, 3) := by decide +kernel
theorem dX4_readValue_179 : decode cX4_readValue 179 = .ok (.ireturn, 1) := by decide +kernel
theorem dX4_readValue_180 : decode cX4_readValue 180 = .ok (.aload_n 0, 1) := by decide +kernel
theorem dX4_readValue_181 : decode cX4_readValue 181 = .ok (.aload_n 1, 1) := by decide +kernel
theorem dX4_readValue_182 : decode cX4_readValue 182 = .ok (.aload_n 2, 1) := by decide +kernel
theorem dX4_readValue_183 : decode cX4_readValue 183 = .ok (.iload 4, 2) := by decide +kernel
theorem dX4_readValue_185 : decode cX4_readValue 185 = .ok (.invokevirtual 100, 3) := by decide +kernel
theorem dX4_readValue_188 : decode cX4_readValue 188 = .ok (.ireturn, 1) := by decide +kernel
theorem dX4_readGroup_0 : decode cX4_readGroup 0 = .ok (.iload 4, 2) := by decide +kernel
theorem dX4_readGroup_2 : decode cX4_readGroup 2 = .ok (.bipush 24, 2) := by decide +kernel
theorem dX4_readGroup_4 : decode cX4_readGroup 4 = .ok (.if_icmp .lt 11, 3) := by decide +kernel
theorem dX4_readGroup_7 : decode cX4_readGroup 7 = .ok (.aload_n 0, 1) := by decide +kernel
theorem dX4_readGroup_8 : decode cX4_readGroup 8 = .ok (.bipush 6, 2) := by decide +kernel
theorem dX4_readGroup_10 : decode cX4_readGroup 10 = .ok (.iload_n 3, 1) := by decide +kernel
theorem dX4_readGroup_11 : decode cX4_readGroup 11 = .ok (.invokevirtual 54, 3) := by decide +kernel
theorem dX4_readGroup_14 : decode cX4_readGroup 14 = .ok (.ireturn, 1) := by decide +kernel
theorem dX4_readGroup_15 : decode cX4_readGroup 15 = .ok (.aload_n 2, 1) := by decide +kernel
theorem dX4_readGroup_16 : decode cX4_readGroup 16 = .ok (.iconst 0, 1) := by decide +kernel
theorem dX4_readGroup_17 : decode cX4_readGroup 17 = .ok (.invokevirtual 103, 3) := by decide +kernel
theorem dX4_readGroup_20 : decode cX4_readGroup 20 = .ok (.ifCond .eq 17, 3) := by decide +kernel
theorem dX4_readGroup_23 : decode cX4_readGroup 23 = .ok (.aload_n 2, 1) := by decide +kernel
theorem dX4_readGroup_24 : decode cX4_readGroup 24 = .ok (.aload_n 0, 1) := by decide +kernel
theorem dX4_readGroup_25 : decode cX4_readGroup 25 = .ok (.getfield 12, 3) := by decide +kernel
theorem dX4_readGroup_28 : decode cX4_readGroup 28 = .ok (.getfield 80, 3) := by decide +kernel
theorem dX4_readGroup_31 : decode cX4_readGroup 31 = .ok (.invokevirtual 107, 3) := by decide +kernel
theorem dX4_readGroup_34 : decode cX4_readGroup 34 = .ok (.ifCond .ne 11, 3) := by decide +kernel
theorem dX4_readGroup_37 : decode cX4_readGroup 37 = .ok (.aload_n 0, 1) := by decide +kernel
theorem dX4_readGroup_38 : decode cX4_readGroup 38 = .ok (.bipush 7, 2) := by decide +kernel
theorem dX4_readGroup_40 : decode cX4_readGroup 40 = .ok (.iload_n 3, 1) := by decide +kernel
theorem dX4_readGroup_41 : decode cX4_readGroup 41 = .ok (.invokevirtual 54, 3) := by decide +kernel
theorem dX4_readGroup_44 : decode cX4_readGroup 44 = .ok (.ireturn, 1) := by decide +kernel
theorem dX4_readGroup_45 : decode cX4_readGroup 45 = .ok (.aload_n 0, 1) := by decide +kernel
theorem dX4_readGroup_46 : decode cX4_readGroup 46 = .ok (.getfield 12, 3) := by decide +kernel
theorem dX4_readGroup_49 : decode cX4_readGroup 49 = .ok (.getfield 80, 3) := by decide +kernel
theorem dX4_readGroup_52 : decode cX4_readGroup 52 = .ok (.l2i, 1) := by decide +kernel
theorem dX4_readGroup_53 : decode cX4_readGroup 53 = .ok (.istore 5, 2) := by decide +kernel
theorem dX4_readGroup_55 : decode cX4_readGroup 55 = .ok (.aload_n 2, 1) := by decide +kernel
theorem dX4_readGroup_56 : decode cX4_readGroup 56 = .ok (.iload 5, 2) := by decide +kernel
theorem dX4_readGroup_58 : decode cX4_readGroup 58 = .ok (.invokevirtual 111, 3) := by decide +kernel
theorem dX4_readGroup_61 : decode cX4_readGroup 61 = .ok (.aload_n 2, 1) := by decide +kernel
theorem dX4_readGroup_62 : decode cX4_readGroup 62 = .ok (.aload_n 0, 1) := by decide +kernel
theorem dX4_readGroup_63 : decode cX4_readGroup 63 = .ok (.getfield 12, 3) := by decide +kernel
theorem dX4_readGroup_66 : decode cX4_readGroup 66 = .ok (.getfield 69, 3) := by decide +kernel
theorem dX4_readGroup_69 : decode cX4_readGroup 69 = .ok (.lconst 0, 1) := by decide +kernel
theorem dX4_readGroup_70 : decode cX4_readGroup 70 = .ok (.iconst 0, 1) := by decide +kernel
theorem dX4_readGroup_71 : decode cX4_readGroup 71 = .ok (.getstatic 115, 3) := by decide +kernel
theorem dX4_readGroup_74 : decode cX4_readGroup 74 = .ok (.invokevirtual 119, 3) := by decide +kernel
theorem dX4_readGroup_77 : decode cX4_readGroup 77 = .ok (.istore 6, 2) := by decide +kernel
theorem dX4_readGroup_79 : decode cX4_readGroup 79 = .ok (.aload_n 2, 1) := by decide +kernel
theorem dX4_readGroup_80 : decode cX4_readGroup 80 = .ok (.iload 6, 2) := by decide +kernel
theorem dX4_readGroup_82 : decode cX4_readGroup 82 = .ok (.invokevirtual 123, 3) := by decide +kernel
theorem dX4_readGroup_85 : decode cX4_readGroup 85 = .ok (.astore 7, 2) := by decide +kernel
theorem dX4_readGroup_87 : decode cX4_readGroup 87 = .ok (.aload_n 0, 1) := by decide +kernel
theorem dX4_readGroup_88 : decode cX4_readGroup 88 = .ok (.getfield 21, 3) := by decide +kernel
theorem dX4_readGroup_91 : decode cX4_readGroup 91 = .ok (.aload 7, 2) := by decide +kernel
theorem dX4_readGroup_93 : decode cX4_readGroup 93 = .ok (.invokevirtual 126, 3) := by decide +kernel
theorem dX4_readGroup_96 : decode cX4_readGroup 96 = .ok (.pop, 1) := by decide +kernel
theorem dX4_readGroup_97 : decode cX4_readGroup 97 = .ok (.iconst 0, 1) := by decide +kernel
theorem dX4_readGroup_98 : decode cX4_readGroup 98 = .ok (.istore 8, 2) := by decide +kernel
theorem dX4_readGroup_100 : decode cX4_readGroup 100 = .ok (.iload 8, 2) := by decide +kernel
theorem dX4_readGroup_102 : decode cX4_readGroup 102 = .ok (.iload 5, 2) := by decide +kernel
theorem dX4_readGroup_104 : decode cX4_readGroup 104 = .ok (.if_icmp .ge 36, 3) := by decide +kernel
theorem dX4_readGroup_107 : decode cX4_readGroup 107 = .ok (.aload_n 0, 1) := by decide +kernel
theorem dX4_readGroup_108 : decode cX4_readGroup 108 = .ok (.aload_n 1, 1) := by decide +kernel
theorem dX4_readGroup_109 : decode cX4_readGroup 109 = .ok (.aload_n 2, 1) := by decide +kernel
theorem dX4_readGroup_110 : decode cX4_readGroup 110 = .ok (.iload 4, 2) := by decide +kernel
theorem dX4_readGroup_112 : decode cX4_readGroup 112 = .ok (.iconst 1, 1) := by decide +kernel
theorem dX4_readGroup_113 : decode cX4_readGroup 113 = .ok (.iadd, 1) := by decide +kernel
theorem dX4_readGroup_114 : decode cX4_readGroup 114 = .ok (.invokevirtual 47, 3) := by decide +kernel
theorem dX4_readGroup_117 : decode cX4_readGroup 117 = .ok (.istore 9, 2) := by decide +kernel
theorem dX4_readGroup_119 : decode cX4_readGroup 119 = .ok (.iload 9, 2) := by decide +kernel
theorem dX4_readGroup_121 : decode cX4_readGroup 121 = .ok (.iconst (-1), 1) := by decide +kernel
theorem dX4_readGroup_122 : decode cX4_readGroup 122 = .ok (.if_icmp .ne 5, 3) := by decide +kernel
theorem dX4_readGroup_125 : decode cX4_readGroup 125 = .ok (.iconst (-1), 1) := by decide +kernel
theorem dX4_readGroup_126 : decode cX4_readGroup 126 = .ok (.ireturn, 1) := by decide +kernel
theorem dX4_readGroup_127 : decode cX4_readGroup 127 = .ok (.aload 7, 2) := by decide +kernel
theorem dX4_readGroup_129 : decode cX4_readGroup 129 = .ok (.iload 9, 2) := by decide +kernel
theorem dX4_readGroup_131 : decode cX4_readGroup 131 = .ok (.invokevirtual 130, 3) := by decide +kernel
theorem dX4_readGroup_134 : decode cX4_readGroup 134 = .ok (.iinc 8 1, 3) := by decide +kernel
theorem dX4_readGroup_137 : decode cX4_readGroup 137 = .ok (.goto (-37), 3) := by decide +kernel
theorem dX4_readGroup_140 : decode cX4_readGroup 140 = .ok (.iload 6, 2) := by decide +kernel
theorem dX4_readGroup_142 : decode cX4_readGroup 142 = .ok (.ireturn, 1) := by decide +kernel
theorem dX4_readRow_0 : decode cX4_readRow 0 = .ok (.iload_n 3, 1) := by decide +kernel
theorem dX4_readRow_1 : decode cX4_readRow 1 = .ok (.aload_n 0, 1) := by decide +kernel
theorem dX4_readRow_2 : decode cX4_readRow 2 = .ok (.getfield 12, 3) := by decide +kernel
theorem dX4_readRow_5 : decode cX4_readRow 5 = .ok (.getfield 135, 3) := by decide +kernel
theorem dX4_readRow_8 : decode cX4_readRow 8 = .ok (.iadd, 1) := by decide +kernel
theorem dX4_readRow_9 : decode cX4_readRow 9 = .ok (.istore 4, 2) := by decide +kernel
theorem dX4_readRow_11 : decode cX4_readRow 11 = .ok (.aload_n 0, 1) := by decide +kernel
theorem dX4_readRow_12 : decode cX4_readRow 12 = .ok (.getfield 12, 3) := by decide +kernel
theorem dX4_readRow_15 : decode cX4_readRow 15 = .ok (.getfield 80, 3) := by decide +kernel
theorem dX4_readRow_18 : decode cX4_readRow 18 = .ok (.l2i, 1) := by decide +kernel
theorem dX4_readRow_19 : decode cX4_readRow 19 = .ok (.istore 5, 2) := by decide +kernel
theorem dX4_readRow_21 : decode cX4_readRow 21 = .ok (.aload_n 0, 1) := by decide +kernel
theorem dX4_readRow_22 : decode cX4_readRow 22 = .ok (.getfield 12, 3) := by decide +kernel
theorem dX4_readRow_25 : decode cX4_readRow 25 = .ok (.getfield 69, 3) := by decide +kernel
theorem dX4_readRow_28 : decode cX4_readRow 28 = .ok (.iconst 5, 1) := by decide +kernel
theorem dX4_readRow_29 : decode cX4_readRow 29 = .ok (.if_icmp .ne 16, 3) := by decide +kernel
theorem dX4_readRow_32 : decode cX4_readRow 32 = .ok (.aload_n 1, 1) := by decide +kernel
theorem dX4_readRow_33 : decode cX4_readRow 33 = .ok (.iload 4, 2) := by decide +kernel
theorem dX4_readRow_35 : decode cX4_readRow 35 = .ok (.aload_n 0, 1) := by decide +kernel
theorem dX4_readRow_36 : decode cX4_readRow 36 = .ok (.getfield 38, 3) := by decide +kernel
theorem dX4_readRow_39 : decode cX4_readRow 39 = .ok (.invokestatic 138, 3) := by decide +kernel
theorem dX4_readRow_42 : decode cX4_readRow 42 = .ok (.goto 4, 3) := by decide +kernel
theorem dX4_readRow_45 : decode cX4_readRow 45 = .ok (.iconst (-1), 1) := by decide +kernel
theorem dX4_readRow_46 : decode cX4_readRow 46 = .ok (.istore 6, 2) := by decide +kernel
theorem dX4_readRow_48 : decode cX4_readRow 48 = .ok (.iload 6, 2) := by decide +kernel
theorem dX4_readRow_50 : decode cX4_readRow 50 = .ok (.iconst (-1), 1) := by decide +kernel
theorem dX4_readRow_51 : decode cX4_readRow 51 = .ok (.if_icmp .eq 11, 3) := by decide +kernel
theorem dX4_readRow_54 : decode cX4_readRow 54 = .ok (.aload_n 0, 1) := by decide +kernel
theorem dX4_readRow_55 : decode cX4_readRow 55 = .ok (.iconst 3, 1) := by decide +kernel
theorem dX4_readRow_56 : decode cX4_readRow 56 = .ok (.iload 6, 2) := by decide +kernel
theorem dX4_readRow_58 : decode cX4_readRow 58 = .ok (.invokevirtual 54, 3) := by decide +kernel
theorem dX4_readRow_61 : decode cX4_readRow 61 = .ok (.ireturn, 1) := by decide +kernel
theorem dX4_readRow_62 : decode cX4_readRow 62 = .ok (.aload_n 2, 1) := by decide +kernel
theorem dX4_readRow_63 : decode cX4_readRow 63 = .ok (.iload 5, 2) := by decide +kernel
theorem dX4_readRow_65 : decode cX4_readRow 65 = .ok (.invokevirtual 103, 3) := by decide +kernel
theorem dX4_readRow_68 : decode cX4_readRow 68 = .ok (.ifCond .ne 11, 3) := by decide +kernel
theorem dX4_readRow_71 : decode cX4_readRow 71 = .ok (.aload_n 0, 1) := by decide +kernel
theorem dX4_readRow_72 : decode cX4_readRow 72 = .ok (.bipush 7, 2) := by decide +kernel
theorem dX4_readRow_74 : decode cX4_readRow 74 = .ok (.iload_n 3, 1) := by decide +kernel
theorem dX4_readRow_75 : decode cX4_readRow 75 = .ok (.invokevirtual 54, 3) := by decide +kernel
theorem dX4_readRow_78 : decode cX4_readRow 78 = .ok (.ireturn, 1) := by decide +kernel
theorem dX4_readRow_79 : decode cX4_readRow 79 = .ok (.aload_n 2, 1) := by decide +kernel
theorem dX4_readRow_80 : decode cX4_readRow 80 = .ok (.aload_n 0, 1) := by decide +kernel
theorem dX4_readRow_81 : decode cX4_readRow 81 = .ok (.getfield 12, 3) := by decide +kernel
theorem dX4_readRow_84 : decode cX4_readRow 84 = .ok (.getfield 69, 3) := by decide +kernel
theorem dX4_readRow_87 : decode cX4_readRow 87 = .ok (.lconst 0, 1) := by decide +kernel
theorem dX4_readRow_88 : decode cX4_readRow 88 = .ok (.aload_n 0, 1) := by decide +kernel
theorem dX4_readRow_89 : decode cX4_readRow 89 = .ok (.getfield 12, 3) := by decide +kernel
theorem dX4_readRow_92 : decode cX4_readRow 92 = .ok (.getfield 144, 3) := by decide +kernel
theorem dX4_readRow_95 : decode cX4_readRow 95 = .ok (.aload_n 1, 1) := by decide +kernel
theorem dX4_readRow_96 : decode cX4_readRow 96 = .ok (.iload 4, 2) := by decide +kernel
theorem dX4_readRow_98 : decode cX4_readRow 98 = .ok (.iload 5, 2) := by decide +kernel
theorem dX4_readRow_100 : decode cX4_readRow 100 = .ok (.invokevirtual 147, 3) := by decide +kernel
theorem dX4_readRow_103 : decode cX4_readRow 103 = .ok (.invokevirtual 119, 3) := by decide +kernel
theorem dX4_readRow_106 : decode cX4_readRow 106 = .ok (.ireturn, 1) := by decide +kernel
theorem dX4_readTime_0 : decode cX4_readTime 0 = .ok (.iload_n 3, 1) := by decide +kernel
theorem dX4_readTime_1 : decode cX4_readTime 1 = .ok (.aload_n 0, 1) := by decide +kernel
theorem dX4_readTime_2 : decode cX4_readTime 2 = .ok (.getfield 12, 3) := by decide +kernel
theorem dX4_readTime_5 : decode cX4_readTime 5 = .ok (.getfield 135, 3) := by decide +kernel
theorem dX4_readTime_8 : decode cX4_readTime 8 = .ok (.iadd, 1) := by decide +kernel
theorem dX4_readTime_9 : decode cX4_readTime 9 = .ok (.istore 4, 2) := by decide +kernel
theorem dX4_readTime_11 : decode cX4_readTime 11 = .ok (.lconst 0, 1) := by decide +kernel
theorem dX4_readTime_12 : decode cX4_readTime 12 = .ok (.lstore 5, 2) := by decide +kernel
theorem dX4_readTime_14 : decode cX4_readTime 14 = .ok (.lconst 0, 1) := by decide +kernel
theorem dX4_readTime_15 : decode cX4_readTime 15 = .ok (.lstore 7, 2) := by decide +kernel
theorem dX4_readTime_17 : decode cX4_readTime 17 = .ok (.aload_n 0, 1) := by decide +kernel
theorem dX4_readTime_18 : decode cX4_readTime 18 = .ok (.getfield 12, 3) := by decide +kernel
theorem dX4_readTime_21 : decode cX4_readTime 21 = .ok (.getfield 80, 3) := by decide +kernel
theorem dX4_readTime_24 : decode cX4_readTime 24 = .ok (.ldc2_w 151, 3) := by decide +kernel
theorem dX4_readTime_27 : decode cX4_readTime 27 = .ok (.lcmp, 1) := by decide +kernel
theorem dX4_readTime_28 : decode cX4_readTime 28 = .ok (.ifCond .ne 15, 3) := by decide +kernel
theorem dX4_readTime_31 : decode cX4_readTime 31 = .ok (.aload_n 1, 1) := by decide +kernel
theorem dX4_readTime_32 : decode cX4_readTime 32 = .ok (.iload 4, 2) := by decide +kernel
theorem dX4_readTime_34 : decode cX4_readTime 34 = .ok (.iconst 4, 1) := by decide +kernel
theorem dX4_readTime_35 : decode cX4_readTime 35 = .ok (.invokevirtual 153, 3) := by decide +kernel
theorem dX4_readTime_38 : decode cX4_readTime 38 = .ok (.lstore 5, 2) := by decide +kernel
theorem dX4_readTime_40 : decode cX4_readTime 40 = .ok (.goto 90, 3) := by decide +kernel
theorem dX4_readTime_43 : decode cX4_readTime 43 = .ok (.aload_n 0, 1) := by decide +kernel
theorem dX4_readTime_44 : decode cX4_readTime 44 = .ok (.getfield 12, 3) := by decide +kernel
theorem dX4_readTime_47 : decode cX4_readTime 47 = .ok (.getfield 80, 3) := by decide +kernel
theorem dX4_readTime_50 : decode cX4_readTime 50 = .ok (.ldc2_w 157, 3) := by decide +kernel
theorem dX4_readTime_53 : decode cX4_readTime 53 = .ok (.lcmp, 1) := by decide +kernel
theorem dX4_readTime_54 : decode cX4_readTime 54 = .ok (.ifCond .ne 31, 3) := by decide +kernel
theorem dX4_readTime_57 : decode cX4_readTime 57 = .ok (.aload_n 1, 1) := by decide +kernel
theorem dX4_readTime_58 : decode cX4_readTime 58 = .ok (.iload 4, 2) := by decide +kernel
theorem dX4_readTime_60 : decode cX4_readTime 60 = .ok (.bipush 8, 2) := by decide +kernel
theorem dX4_readTime_62 : decode cX4_readTime 62 = .ok (.invokevirtual 153, 3) := by decide +kernel
theorem dX4_readTime_65 : decode cX4_readTime 65 = .ok (.lstore 9, 2) := by decide +kernel
theorem dX4_readTime_67 : decode cX4_readTime 67 = .ok (.lload 9, 2) := by decide +kernel
theorem dX4_readTime_69 : decode cX4_readTime 69 = .ok (.ldc2_w 159, 3) := by decide +kernel
theorem dX4_readTime_72 : decode cX4_readTime 72 = .ok (.land, 1) := by decide +kernel
theorem dX4_readTime_73 : decode cX4_readTime 73 = .ok (.lstore 5, 2) := by decide +kernel
theorem dX4_readTime_75 : decode cX4_readTime 75 = .ok (.lload 9, 2) := by decide +kernel
theorem dX4_readTime_77 : decode cX4_readTime 77 = .ok (.bipush 34, 2) := by decide +kernel
theorem dX4_readTime_79 : decode cX4_readTime 79 = .ok (.lushr, 1) := by decide +kernel
theorem dX4_readTime_80 : decode cX4_readTime 80 = .ok (.lstore 7, 2) := by decide +kernel
theorem dX4_readTime_82 : decode cX4_readTime 82 = .ok (.goto 48, 3) := by decide +kernel
theorem dX4_readTime_85 : decode cX4_readTime 85 = .ok (.aload_n 0, 1) := by decide +kernel
theorem dX4_readTime_86 : decode cX4_readTime 86 = .ok (.getfield 12, 3) := by decide +kernel
theorem dX4_readTime_89 : decode cX4_readTime 89 = .ok (.getfield 80, 3) := by decide +kernel
theorem dX4_readTime_92 : decode cX4_readTime 92 = .ok (.ldc2_w 161, 3) := by decide +kernel
theorem dX4_readTime_95 : decode cX4_readTime 95 = .ok (.lcmp, 1) := by decide +kernel
theorem dX4_readTime_96 : decode cX4_readTime 96 = .ok (.ifCond .ne 27, 3) := by decide +kernel
theorem dX4_readTime_99 : decode cX4_readTime 99 = .ok (.aload_n 1, 1) := by decide +kernel
theorem dX4_readTime_100 : decode cX4_readTime 100 = .ok (.iload 4, 2) := by decide +kernel
theorem dX4_readTime_102 : decode cX4_readTime 102 = .ok (.iconst 4, 1) := by decide +kernel
theorem dX4_readTime_103 : decode cX4_readTime 103 = .ok (.invokevirtual 153, 3) := by decide +kernel
theorem dX4_readTime_106 : decode cX4_readTime 106 = .ok (.lstore 7, 2) := by decide +kernel
theorem dX4_readTime_108 : decode cX4_readTime 108 = .ok (.aload_n 1, 1) := by decide +kernel
theorem dX4_readTime_109 : decode cX4_readTime 109 = .ok (.iload 4, 2) := by decide +kernel
theorem dX4_readTime_111 : decode cX4_readTime 111 = .ok (.iconst 4, 1) := by decide +kernel
theorem dX4_readTime_112 : decode cX4_readTime 112 = .ok (.iadd, 1) := by decide +kernel
theorem dX4_readTime_113 : decode cX4_readTime 113 = .ok (.bipush 8, 2) := by decide +kernel
theorem dX4_readTime_115 : decode cX4_readTime 115 = .ok (.invokevirtual 153, 3) := by decide +kernel
theorem dX4_readTime_118 : decode cX4_readTime 118 = .ok (.lstore 5, 2) := by decide +kernel
theorem dX4_readTime_120 : decode cX4_readTime 120 = .ok (.goto 10, 3) := by decide +kernel
theorem dX4_readTime_123 : decode cX4_readTime 123 = .ok (.aload_n 0, 1) := by decide +kernel
theorem dX4_readTime_124 : decode cX4_readTime 124 = .ok (.iconst 4, 1) := by decide +kernel
theorem dX4_readTime_125 : decode cX4_readTime 125 = .ok (.iload_n 3, 1) := by decide +kernel
theorem dX4_readTime_126 : decode cX4_readTime 126 = .ok (.invokevirtual 54, 3) := by decide +kernel
theorem dX4_readTime_129 : decode cX4_readTime 129 = .ok (.ireturn, 1) := by decide +kernel
theorem dX4_readTime_130 : decode cX4_readTime 130 = .ok (.lload 7, 2) := by decide +kernel
theorem dX4_readTime_132 : decode cX4_readTime 132 = .ok (.ldc2_w 163, 3) := by decide +kernel
theorem dX4_readTime_135 : decode cX4_readTime 135 = .ok (.lcmp, 1) := by decide +kernel
theorem dX4_readTime_136 : decode cX4_readTime 136 = .ok (.ifCond .le 10, 3) := by decide +kernel
theorem dX4_readTime_139 : decode cX4_readTime 139 = .ok (.aload_n 0, 1) := by decide +kernel
theorem dX4_readTime_140 : decode cX4_readTime 140 = .ok (.iconst 4, 1) := by decide +kernel
theorem dX4_readTime_141 : decode cX4_readTime 141 = .ok (.iload_n 3, 1) := by decide +kernel
theorem dX4_readTime_142 : decode cX4_readTime 142 = .ok (.invokevirtual 54, 3) := by decide +kernel
theorem dX4_readTime_145 : decode cX4_readTime 145 = .ok (.ireturn, 1) := by decide +kernel
theorem dX4_readTime_146 : decode cX4_readTime 146 = .ok (.aload_n 0, 1) := by decide +kernel
theorem dX4_readTime_147 : decode cX4_readTime 147 = .ok (.aload_n 2, 1) := by decide +kernel
theorem dX4_readTime_148 : decode cX4_readTime 148 = .ok (.iload_n 3, 1) := by decide +kernel
theorem dX4_readTime_149 : decode cX4_readTime 149 = .ok (.bipush 10, 2) := by decide +kernel
theorem dX4_readTime_151 : decode cX4_readTime 151 = .ok (.lload 5, 2) := by decide +kernel
theorem dX4_readTime_153 : decode cX4_readTime 153 = .ok (.lload 7, 2) := by decide +kernel
theorem dX4_readTime_155 : decode cX4_readTime 155 = .ok (.l2i, 1) := by decide +kernel
theorem dX4_readTime_156 : decode cX4_readTime 156 = .ok (.invokevirtual 165, 3) := by decide +kernel
theorem dX4_readTime_159 : decode cX4_readTime 159 = .ok (.ireturn, 1) := by decide +kernel
theorem dX4_readReference_0 : decode cX4_readReference 0 = .ok (.iload_n 2, 1) := by decide +kernel
theorem dX4_readReference_1 : decode cX4_readReference 1 = .ok (.aload_n 0, 1) := by decide +kernel
theorem dX4_readReference_2 : decode cX4_readReference 2 = .ok (.getfield 12, 3) := by decide +kernel
theorem dX4_readReference_5 : decode cX4_readReference 5 = .ok (.getfield 135, 3) := by decide +kernel
theorem dX4_readReference_8 : decode cX4_readReference 8 = .ok (.iadd, 1) := by decide +kernel
theorem dX4_readReference_9 : decode cX4_readReference 9 = .ok (.istore_n 3, 1) := by decide +kernel
theorem dX4_readReference_10 : decode cX4_readReference 10 = .ok (.aload_n 0, 1) := by decide +kernel
theorem dX4_readReference_11 : decode cX4_readReference 11 = .ok (.getfield 38, 3) := by decide +kernel
theorem dX4_readReference_14 : decode cX4_readReference 14 = .ok (.iload_n 3, 1) := by decide +kernel
theorem dX4_readReference_15 : decode cX4_readReference 15 = .ok (.isub, 1) := by decide +kernel
theorem dX4_readReference_16 : decode cX4_readReference 16 = .ok (.istore 4, 2) := by decide +kernel
theorem dX4_readReference_18 : decode cX4_readReference 18 = .ok (.iload 4, 2) := by decide +kernel
theorem dX4_readReference_20 : decode cX4_readReference 20 = .ok (.ifCond .ne 10, 3) := by decide +kernel
theorem dX4_readReference_23 : decode cX4_readReference 23 = .ok (.aload_n 0, 1) := by decide +kernel
theorem dX4_readReference_24 : decode cX4_readReference 24 = .ok (.iconst 5, 1) := by decide +kernel
theorem dX4_readReference_25 : decode cX4_readReference 25 = .ok (.iload_n 2, 1) := by decide +kernel
theorem dX4_readReference_26 : decode cX4_readReference 26 = .ok (.invokevirtual 54, 3) := by decide +kernel
theorem dX4_readReference_29 : decode cX4_readReference 29 = .ok (.ireturn, 1) := by decide +kernel
theorem dX4_readReference_30 : decode cX4_readReference 30 = .ok (.aload_n 0, 1) := by decide +kernel
theorem dX4_readReference_31 : decode cX4_readReference 31 = .ok (.getfield 12, 3) := by decide +kernel
theorem dX4_readReference_34 : decode cX4_readReference 34 = .ok (.aload_n 1, 1) := by decide +kernel
theorem dX4_readReference_35 : decode cX4_readReference 35 = .ok (.iload_n 3, 1) := by decide +kernel
theorem dX4_readReference_36 : decode cX4_readReference 36 = .ok (.invokevirtual 65, 3) := by decide +kernel
theorem dX4_readReference_39 : decode cX4_readReference 39 = .ok (.aload_n 0, 1) := by decide +kernel
theorem dX4_readReference_40 : decode cX4_readReference 40 = .ok (.getfield 12, 3) := by decide +kernel
theorem dX4_readReference_43 : decode cX4_readReference 43 = .ok (.getfield 69, 3) := by decide +kernel
theorem dX4_readReference_46 : decode cX4_readReference 46 = .ok (.iconst 2, 1) := by decide +kernel
theorem dX4_readReference_47 : decode cX4_readReference 47 = .ok (.if_icmp .ne 17, 3) := by decide +kernel
theorem dX4_readReference_50 : decode cX4_readReference 50 = .ok (.aload_n 0, 1) := by decide +kernel
theorem dX4_readReference_51 : decode cX4_readReference 51 = .ok (.getfield 12, 3) := by decide +kernel
theorem dX4_readReference_54 : decode cX4_readReference 54 = .ok (.invokevirtual 72, 3) := by decide +kernel
theorem dX4_readReference_57 : decode cX4_readReference 57 = .ok (.iload 4, 2) := by decide +kernel
theorem dX4_readReference_59 : decode cX4_readReference 59 = .ok (.i2l, 1) := by decide +kernel
theorem dX4_readReference_60 : decode cX4_readReference 60 = .ok (.lcmp, 1) := by decide +kernel
theorem dX4_readReference_61 : decode cX4_readReference 61 = .ok (.ifCond .eq 10, 3) := by decide +kernel
theorem dX4_readReference_64 : decode cX4_readReference 64 = .ok (.aload_n 0, 1) := by decide +kernel
theorem dX4_readReference_65 : decode cX4_readReference 65 = .ok (.iconst 5, 1) := by decide +kernel
theorem dX4_readReference_66 : decode cX4_readReference 66 = .ok (.iload_n 2, 1) := by decide +kernel
theorem dX4_readReference_67 : decode cX4_readReference 67 = .ok (.invokevirtual 54, 3) := by decide +kernel
theorem dX4_readReference_70 : decode cX4_readReference 70 = .ok (.ireturn, 1) := by decide +kernel
theorem dX4_readReference_71 : decode cX4_readReference 71 = .ok (.aload_n 0, 1) := by decide +kernel
theorem dX4_readReference_72 : decode cX4_readReference 72 = .ok (.aload_n 1, 1) := by decide +kernel
theorem dX4_readReference_73 : decode cX4_readReference 73 = .ok (.iload_n 3, 1) := by decide +kernel
theorem dX4_readReference_74 : decode cX4_readReference 74 = .ok (.invokevirtual 169, 3) := by decide +kernel
theorem dX4_readReference_77 : decode cX4_readReference 77 = .ok (.lstore 5, 2) := by decide +kernel
theorem dX4_readReference_79 : decode cX4_readReference 79 = .ok (.lload 5, 2) := by decide +kernel
theorem dX4_readReference_81 : decode cX4_readReference 81 = .ok (.lconst 0, 1) := by decide +kernel
theorem dX4_readReference_82 : decode cX4_readReference 82 = .ok (.lcmp, 1) := by decide +kernel
theorem dX4_readReference_83 : decode cX4_readReference 83 = .ok (.ifCond .lt 17, 3) := by decide +kernel
theorem dX4_readReference_86 : decode cX4_readReference 86 = .ok (.lload 5, 2) := by decide +kernel
theorem dX4_readReference_88 : decode cX4_readReference 88 = .ok (.aload_n 0, 1) := by decide +kernel
theorem dX4_readReference_89 : decode cX4_readReference 89 = .ok (.getfield 21, 3) := by decide +kernel
theorem dX4_readReference_92 : decode cX4_readReference 92 = .ok (.invokevirtual 173, 3) := by decide +kernel
theorem dX4_readReference_95 : decode cX4_readReference 95 = .ok (.i2l, 1) := by decide +kernel
theorem dX4_readReference_96 : decode cX4_readReference 96 = .ok (.lcmp, 1) := by decide +kernel
theorem dX4_readReference_97 : decode cX4_readReference 97 = .ok (.ifCond .lt 10, 3) := by decide +kernel
theorem dX4_readReference_100 : decode cX4_readReference 100 = .ok (.aload_n 0, 1) := by decide +kernel
theorem dX4_readReference_101 : decode cX4_readReference 101 = .ok (.iconst 5, 1) := by decide +kernel
theorem dX4_readReference_102 : decode cX4_readReference 102 = .ok (.iload_n 2, 1) := by decide +kernel
theorem dX4_readReference_103 : decode cX4_readReference 103 = .ok (.invokevirtual 54, 3) := by decide +kernel
theorem dX4_readReference_106 : decode cX4_readReference 106 = .ok (.ireturn, 1) := by decide +kernel
theorem dX4_readReference_107 : decode cX4_readReference 107 = .ok (.aload_n 0, 1) := by decide +kernel
theorem dX4_readReference_108 : decode cX4_readReference 108 = .ok (.getfield 21, 3) := by decide +kernel
theorem dX4_readReference_111 : decode cX4_readReference 111 = .ok (.lload 5, 2) := by decide +kernel
theorem dX4_readReference_113 : decode cX4_readReference 113 = .ok (.l2i, 1) := by decide +kernel
theorem dX4_readReference_114 : decode cX4_readReference 114 = .ok (.invokevirtual 174, 3) := by decide +kernel
theorem dX4_readReference_117 : decode cX4_readReference 117 = .ok (.checkcast 131, 3) := by decide +kernel
theorem dX4_readReference_120 : decode cX4_readReference 120 = .ok (.getfield 178, 3) := by decide +kernel
theorem dX4_readReference_123 : decode cX4_readReference 123 = .ok (.ireturn, 1) := by decide +kernel
theorem dX4_readPlain_0 : decode cX4_readPlain 0 = .ok (.aload_n 0, 1) := by decide +kernel
theorem dX4_readPlain_1 : decode cX4_readPlain 1 = .ok (.getfield 12, 3) := by decide +kernel
theorem dX4_readPlain_4 : decode cX4_readPlain 4 = .ok (.getfield 69, 3) := by decide +kernel
theorem dX4_readPlain_7 : decode cX4_readPlain 7 = .ok (.iconst 1, 1) := by decide +kernel
theorem dX4_readPlain_8 : decode cX4_readPlain 8 = .ok (.if_icmp .ne 21, 3) := by decide +kernel
theorem dX4_readPlain_11 : decode cX4_readPlain 11 = .ok (.aload_n 0, 1) := by decide +kernel
theorem dX4_readPlain_12 : decode cX4_readPlain 12 = .ok (.aload_n 2, 1) := by decide +kernel
theorem dX4_readPlain_13 : decode cX4_readPlain 13 = .ok (.iload_n 3, 1) := by decide +kernel
theorem dX4_readPlain_14 : decode cX4_readPlain 14 = .ok (.iconst 1, 1) := by decide +kernel
theorem dX4_readPlain_15 : decode cX4_readPlain 15 = .ok (.lconst 0, 1) := by decide +kernel
theorem dX4_readPlain_16 : decode cX4_readPlain 16 = .ok (.aload_n 1, 1) := by decide +kernel
theorem dX4_readPlain_17 : decode cX4_readPlain 17 = .ok (.iload_n 3, 1) := by decide +kernel
theorem dX4_readPlain_18 : decode cX4_readPlain 18 = .ok (.invokevirtual 181, 3) := by decide +kernel
theorem dX4_readPlain_21 : decode cX4_readPlain 21 = .ok (.sipush 194, 3) := by decide +kernel
theorem dX4_readPlain_24 : decode cX4_readPlain 24 = .ok (.isub, 1) := by decide +kernel
theorem dX4_readPlain_25 : decode cX4_readPlain 25 = .ok (.invokevirtual 165, 3) := by decide +kernel
theorem dX4_readPlain_28 : decode cX4_readPlain 28 = .ok (.ireturn, 1) := by decide +kernel
theorem dX4_readPlain_29 : decode cX4_readPlain 29 = .ok (.aload_n 0, 1) := by decide +kernel
theorem dX4_readPlain_30 : decode cX4_readPlain 30 = .ok (.getfield 12, 3) := by decide +kernel
theorem dX4_readPlain_33 : decode cX4_readPlain 33 = .ok (.getfield 69, 3) := by decide +kernel
theorem dX4_readPlain_36 : decode cX4_readPlain 36 = .ok (.iconst 2, 1) := by decide +kernel
theorem dX4_readPlain_37 : decode cX4_readPlain 37 = .ok (.if_icmp .ne 44, 3) := by decide +kernel
theorem dX4_readPlain_40 : decode cX4_readPlain 40 = .ok (.aload_n 0, 1) := by decide +kernel
theorem dX4_readPlain_41 : decode cX4_readPlain 41 = .ok (.aload_n 1, 1) := by decide +kernel
theorem dX4_readPlain_42 : decode cX4_readPlain 42 = .ok (.iload_n 3, 1) := by decide +kernel
theorem dX4_readPlain_43 : decode cX4_readPlain 43 = .ok (.invokevirtual 169, 3) := by decide +kernel
theorem dX4_readPlain_46 : decode cX4_readPlain 46 = .ok (.lstore 4, 2) := by decide +kernel
theorem dX4_readPlain_48 : decode cX4_readPlain 48 = .ok (.aload_n 0, 1) := by decide +kernel
theorem dX4_readPlain_49 : decode cX4_readPlain 49 = .ok (.aload_n 2, 1) := by decide +kernel
theorem dX4_readPlain_50 : decode cX4_readPlain 50 = .ok (.iload_n 3, 1) := by decide +kernel
theorem dX4_readPlain_51 : decode cX4_readPlain 51 = .ok (.iconst 2, 1) := by decide +kernel
theorem dX4_readPlain_52 : decode cX4_readPlain 52 = .ok (.lload 4, 2) := by decide +kernel
theorem dX4_readPlain_54 : decode cX4_readPlain 54 = .ok (.lload 4, 2) := by decide +kernel
theorem dX4_readPlain_56 : decode cX4_readPlain 56 = .ok (.lconst 0, 1) := by decide +kernel
theorem dX4_readPlain_57 : decode cX4_readPlain 57 = .ok (.lcmp, 1) := by decide +kernel
theorem dX4_readPlain_58 : decode cX4_readPlain 58 = .ok (.ifCond .ge 18, 3) := by decide +kernel
theorem dX4_readPlain_61 : decode cX4_readPlain 61 = .ok (.aload_n 1, 1) := by decide +kernel
theorem dX4_readPlain_62 : decode cX4_readPlain 62 = .ok (.iload_n 3, 1) := by decide +kernel
theorem dX4_readPlain_63 : decode cX4_readPlain 63 = .ok (.invokevirtual 181, 3) := by decide +kernel
theorem dX4_readPlain_66 : decode cX4_readPlain 66 = .ok (.sipush 207, 3) := by decide +kernel
theorem dX4_readPlain_69 : decode cX4_readPlain 69 = .ok (.if_icmp .ne 7, 3) := by decide +kernel
theorem dX4_readPlain_72 : decode cX4_readPlain 72 = .ok (.iconst 1, 1) := by decide +kernel
theorem dX4_readPlain_73 : decode cX4_readPlain 73 = .ok (.goto 4, 3) := by decide +kernel
theorem dX4_readPlain_76 : decode cX4_readPlain 76 = .ok (.iconst 0, 1) := by decide +kernel
theorem dX4_readPlain_77 : decode cX4_readPlain 77 = .ok (.invokevirtual 165, 3) := by decide +kernel
theorem dX4_readPlain_80 : decode cX4_readPlain 80 = .ok (.ireturn, 1) := by decide +kernel
theorem dX4_readPlain_81 : decode cX4_readPlain 81 = .ok (.aload_n 0, 1) := by decide +kernel
theorem dX4_readPlain_82 : decode cX4_readPlain 82 = .ok (.aload_n 2, 1) := by decide +kernel
theorem dX4_readPlain_83 : decode cX4_readPlain 83 = .ok (.iload_n 3, 1) := by decide +kernel
theorem dX4_readPlain_84 : decode cX4_readPlain 84 = .ok (.aload_n 0, 1) := by decide +kernel
theorem dX4_readPlain_85 : decode cX4_readPlain 85 = .ok (.getfield 12, 3) := by decide +kernel
theorem dX4_readPlain_88 : decode cX4_readPlain 88 = .ok (.getfield 69, 3) := by decide +kernel
theorem dX4_readPlain_91 : decode cX4_readPlain 91 = .ok (.aload_n 1, 1) := by decide +kernel
theorem dX4_readPlain_92 : decode cX4_readPlain 92 = .ok (.iload_n 3, 1) := by decide +kernel
theorem dX4_readPlain_93 : decode cX4_readPlain 93 = .ok (.iconst 1, 1) := by decide +kernel
theorem dX4_readPlain_94 : decode cX4_readPlain 94 = .ok (.iadd, 1) := by decide +kernel
theorem dX4_readPlain_95 : decode cX4_readPlain 95 = .ok (.aload_n 0, 1) := by decide +kernel
theorem dX4_readPlain_96 : decode cX4_readPlain 96 = .ok (.getfield 12, 3) := by decide +kernel
theorem dX4_readPlain_99 : decode cX4_readPlain 99 = .ok (.getfield 80, 3) := by decide +kernel
theorem dX4_readPlain_102 : decode cX4_readPlain 102 = .ok (.l2i, 1) := by decide +kernel
theorem dX4_readPlain_103 : decode cX4_readPlain 103 = .ok (.invokevirtual 153, 3) := by decide +kernel
theorem dX4_readPlain_106 : decode cX4_readPlain 106 = .ok (.iconst 0, 1) := by decide +kernel
theorem dX4_readPlain_107 : decode cX4_readPlain 107 = .ok (.invokevirtual 165, 3) := by decide +kernel
theorem dX4_readPlain_110 : decode cX4_readPlain 110 = .ok (.ireturn, 1) := by decide +kernel
theorem dX4_readInteger_0 : decode cX4_readInteger 0 = .ok (.aload_n 1, 1) := by decide +kernel
theorem dX4_readInteger_1 : decode cX4_readInteger 1 = .ok (.iload_n 2, 1) := by decide +kernel
theorem dX4_readInteger_2 : decode cX4_readInteger 2 = .ok (.invokevirtual 181, 3) := by decide +kernel
theorem dX4_readInteger_5 : decode cX4_readInteger 5 = .ok (.istore_n 3, 1) := by decide +kernel
theorem dX4_readInteger_6 : decode cX4_readInteger 6 = .ok (.aload_n 0, 1) := by decide +kernel
theorem dX4_readInteger_7 : decode cX4_readInteger 7 = .ok (.getfield 12, 3) := by decide +kernel
theorem dX4_readInteger_10 : decode cX4_readInteger 10 = .ok (.getfield 80, 3) := by decide +kernel
theorem dX4_readInteger_13 : decode cX4_readInteger 13 = .ok (.l2i, 1) := by decide +kernel
theorem dX4_readInteger_14 : decode cX4_readInteger 14 = .ok (.istore 4, 2) := by decide +kernel
theorem dX4_readInteger_16 : decode cX4_readInteger 16 = .ok (.iload 4, 2) := by decide +kernel
theorem dX4_readInteger_18 : decode cX4_readInteger 18 = .ok (.ifCond .ne 7, 3) := by decide +kernel
theorem dX4_readInteger_21 : decode cX4_readInteger 21 = .ok (.iload_n 3, 1) := by decide +kernel
theorem dX4_readInteger_22 : decode cX4_readInteger 22 = .ok (.i2b, 1) := by decide +kernel
theorem dX4_readInteger_23 : decode cX4_readInteger 23 = .ok (.i2l, 1) := by decide +kernel
theorem dX4_readInteger_24 : decode cX4_readInteger 24 = .ok (.lreturn, 1) := by decide +kernel
theorem dX4_readInteger_25 : decode cX4_readInteger 25 = .ok (.aload_n 1, 1) := by decide +kernel
theorem dX4_readInteger_26 : decode cX4_readInteger 26 = .ok (.iload_n 2, 1) := by decide +kernel
theorem dX4_readInteger_27 : decode cX4_readInteger 27 = .ok (.iconst 1, 1) := by decide +kernel
theorem dX4_readInteger_28 : decode cX4_readInteger 28 = .ok (.iadd, 1) := by decide +kernel
theorem dX4_readInteger_29 : decode cX4_readInteger 29 = .ok (.iload 4, 2) := by decide +kernel
theorem dX4_readInteger_31 : decode cX4_readInteger 31 = .ok (.invokevirtual 153, 3) := by decide +kernel
theorem dX4_readInteger_34 : decode cX4_readInteger 34 = .ok (.lstore 5, 2) := by decide +kernel
theorem dX4_readInteger_36 : decode cX4_readInteger 36 = .ok (.bipush 64, 2) := by decide +kernel
theorem dX4_readInteger_38 : decode cX4_readInteger 38 = .ok (.bipush 8, 2) := by decide +kernel
theorem dX4_readInteger_40 : decode cX4_readInteger 40 = .ok (.iload 4, 2) := by decide +kernel
theorem dX4_readInteger_42 : decode cX4_readInteger 42 = .ok (.imul, 1) := by decide +kernel
theorem dX4_readInteger_43 : decode cX4_readInteger 43 = .ok (.isub, 1) := by decide +kernel
theorem dX4_readInteger_44 : decode cX4_readInteger 44 = .ok (.istore 7, 2) := by decide +kernel
theorem dX4_readInteger_46 : decode cX4_readInteger 46 = .ok (.iload_n 3, 1) := by decide +kernel
theorem dX4_readInteger_47 : decode cX4_readInteger 47 = .ok (.sipush 208, 3) := by decide +kernel
theorem dX4_readInteger_50 : decode cX4_readInteger 50 = .ok (.if_icmp .lt 14, 3) := by decide +kernel
theorem dX4_readInteger_53 : decode cX4_readInteger 53 = .ok (.lload 5, 2) := by decide +kernel
theorem dX4_readInteger_55 : decode cX4_readInteger 55 = .ok (.iload 7, 2) := by decide +kernel
theorem dX4_readInteger_57 : decode cX4_readInteger 57 = .ok (.lshl, 1) := by decide +kernel
theorem dX4_readInteger_58 : decode cX4_readInteger 58 = .ok (.iload 7, 2) := by decide +kernel
theorem dX4_readInteger_60 : decode cX4_readInteger 60 = .ok (.lshr, 1) := by decide +kernel
theorem dX4_readInteger_61 : decode cX4_readInteger 61 = .ok (.goto 5, 3) := by decide +kernel
theorem dX4_readInteger_64 : decode cX4_readInteger 64 = .ok (.lload 5, 2) := by decide +kernel
theorem dX4_readInteger_66 : decode cX4_readInteger 66 = .ok (.lreturn, 1) := by decide +kernel
theorem dX4_keepPlain_0 : decode cX4_keepPlain 0 = .ok (.aload_n 1, 1) := by decide +kernel
theorem dX4_keepPlain_1 : decode cX4_keepPlain 1 = .ok (.iconst 0, 1) := by decide +kernel
theorem dX4_keepPlain_2 : decode cX4_keepPlain 2 = .ok (.invokevirtual 103, 3) := by decide +kernel
theorem dX4_keepPlain_5 : decode cX4_keepPlain 5 = .ok (.ifCond .eq 18, 3) := by decide +kernel
theorem dX4_keepPlain_8 : decode cX4_keepPlain 8 = .ok (.aload_n 1, 1) := by decide +kernel
theorem dX4_keepPlain_9 : decode cX4_keepPlain 9 = .ok (.iload_n 3, 1) := by decide +kernel
theorem dX4_keepPlain_10 : decode cX4_keepPlain 10 = .ok (.lload 4, 2) := by decide +kernel
theorem dX4_keepPlain_12 : decode cX4_keepPlain 12 = .ok (.iload 6, 2) := by decide +kernel
theorem dX4_keepPlain_14 : decode cX4_keepPlain 14 = .ok (.getstatic 115, 3) := by decide +kernel
theorem dX4_keepPlain_17 : decode cX4_keepPlain 17 = .ok (.invokevirtual 119, 3) := by decide +kernel
theorem dX4_keepPlain_20 : decode cX4_keepPlain 20 = .ok (.goto 10, 3) := by decide +kernel
theorem dX4_keepPlain_23 : decode cX4_keepPlain 23 = .ok (.aload_n 0, 1) := by decide +kernel
theorem dX4_keepPlain_24 : decode cX4_keepPlain 24 = .ok (.bipush 7, 2) := by decide +kernel
theorem dX4_keepPlain_26 : decode cX4_keepPlain 26 = .ok (.iload_n 2, 1) := by decide +kernel
theorem dX4_keepPlain_27 : decode cX4_keepPlain 27 = .ok (.invokevirtual 54, 3) := by decide +kernel
theorem dX4_keepPlain_30 : decode cX4_keepPlain 30 = .ok (.ireturn, 1) := by decide +kernel
theorem dX5_init_0 : decode cX5_init 0 = .ok (.aload_n 0, 1) := by decide +kernel
theorem dX5_init_1 : decode cX5_init 1 = .ok (.invokespecial 3, 3) := by decide +kernel
theorem dX5_init_4 : decode cX5_init 4 = .ok (.aload_n 0, 1) := by decide +kernel
theorem dX5_init_5 : decode cX5_init 5 = .ok (.getstatic 9, 3) := by decide +kernel
theorem dX5_init_8 : decode cX5_init 8 = .ok (.putfield 13, 3) := by decide +kernel
theorem dX5_init_11 : decode cX5_init 11 = .ok (.aload_n 0, 1) := by decide +kernel
theorem dX5_init_12 : decode cX5_init 12 = .ok (.iconst (-1), 1) := by decide +kernel
theorem dX5_init_13 : decode cX5_init 13 = .ok (.putfield 18, 3) := by decide +kernel
theorem dX5_init_16 : decode cX5_init 16 = .ok (.aload_n 0, 1) := by decide +kernel
theorem dX5_init_17 : decode cX5_init 17 = .ok (.iload_n 1, 1) := by decide +kernel
theorem dX5_init_18 : decode cX5_init 18 = .ok (.putfield 22, 3) := by decide +kernel
theorem dX5_init_21 : decode cX5_init 21 = .ok (.aload_n 0, 1) := by decide +kernel
theorem dX5_init_22 : decode cX5_init 22 = .ok (.iload_n 2, 1) := by decide +kernel
theorem dX5_init_23 : decode cX5_init 23 = .ok (.putfield 25, 3) := by decide +kernel
theorem dX5_init_26 : decode cX5_init 26 = .ok (.aload_n 0, 1) := by decide +kernel
theorem dX5_init_27 : decode cX5_init 27 = .ok (.lload_n 3, 1) := by decide +kernel
theorem dX5_init_28 : decode cX5_init 28 = .ok (.putfield 28, 3) := by decide +kernel
theorem dX5_init_31 : decode cX5_init 31 = .ok (.aload_n 0, 1) := by decide +kernel
theorem dX5_init_32 : decode cX5_init 32 = .ok (.iload 5, 2) := by decide +kernel
theorem dX5_init_34 : decode cX5_init 34 = .ok (.putfield 32, 3) := by decide +kernel
theorem dX5_init_37 : decode cX5_init 37 = .ok (.aload_n 0, 1) := by decide +kernel
theorem dX5_init_38 : decode cX5_init 38 = .ok (.aload 6, 2) := by decide +kernel
theorem dX5_init_40 : decode cX5_init 40 = .ok (.putfield 35, 3) := by decide +kernel
theorem dX5_init_43 : decode cX5_init 43 = .ok (.return_, 1) := by decide +kernel
theorem dX5_isGroup_0 : decode cX5_isGroup 0 = .ok (.aload_n 0, 1) := by decide +kernel
theorem dX5_isGroup_1 : decode cX5_isGroup 1 = .ok (.getfield 22, 3) := by decide +kernel
theorem dX5_isGroup_4 : decode cX5_isGroup 4 = .ok (.bipush 7, 2) := by decide +kernel
theorem dX5_isGroup_6 : decode cX5_isGroup 6 = .ok (.if_icmp .eq 12, 3) := by decide +kernel
theorem dX5_isGroup_9 : decode cX5_isGroup 9 = .ok (.aload_n 0, 1) := by decide +kernel
theorem dX5_isGroup_10 : decode cX5_isGroup 10 = .ok (.getfield 22, 3) := by decide +kernel
theorem dX5_isGroup_13 : decode cX5_isGroup 13 = .ok (.bipush 8, 2) := by decide +kernel
theorem dX5_isGroup_15 : decode cX5_isGroup 15 = .ok (.if_icmp .ne 7, 3) := by decide +kernel
theorem dX5_isGroup_18 : decode cX5_isGroup 18 = .ok (.iconst 1, 1) := by decide +kernel
theorem dX5_isGroup_19 : decode cX5_isGroup 19 = .ok (.goto 4, 3) := by decide +kernel
theorem dX5_isGroup_22 : decode cX5_isGroup 22 = .ok (.iconst 0, 1) := by decide +kernel
theorem dX5_isGroup_23 : decode cX5_isGroup 23 = .ok (.ireturn, 1) := by decide +kernel
theorem dX5_isHigh_0 : decode cX5_isHigh 0 = .ok (.aload_n 0, 1) := by decide +kernel
theorem dX5_isHigh_1 : decode cX5_isHigh 1 = .ok (.getfield 22, 3) := by decide +kernel
theorem dX5_isHigh_4 : decode cX5_isHigh 4 = .ok (.iconst 2, 1) := by decide +kernel
theorem dX5_isHigh_5 : decode cX5_isHigh 5 = .ok (.if_icmp .ne 15, 3) := by decide +kernel
theorem dX5_isHigh_8 : decode cX5_isHigh 8 = .ok (.aload_n 0, 1) := by decide +kernel
theorem dX5_isHigh_9 : decode cX5_isHigh 9 = .ok (.getfield 32, 3) := by decide +kernel
theorem dX5_isHigh_12 : decode cX5_isHigh 12 = .ok (.iconst 1, 1) := by decide +kernel
theorem dX5_isHigh_13 : decode cX5_isHigh 13 = .ok (.if_icmp .ne 7, 3) := by decide +kernel
theorem dX5_isHigh_16 : decode cX5_isHigh 16 = .ok (.iconst 1, 1) := by decide +kernel
theorem dX5_isHigh_17 : decode cX5_isHigh 17 = .ok (.goto 4, 3) := by decide +kernel
theorem dX5_isHigh_20 : decode cX5_isHigh 20 = .ok (.iconst 0, 1) := by decide +kernel
theorem dX5_isHigh_21 : decode cX5_isHigh 21 = .ok (.ireturn, 1) := by decide +kernel
theorem dX5_length_0 : decode cX5_length 0 = .ok (.aload_n 0, 1) := by decide +kernel
theorem dX5_length_1 : decode cX5_length 1 = .ok (.invokevirtual 39, 3) := by decide +kernel
theorem dX5_length_4 : decode cX5_length 4 = .ok (.ifCond .eq 26, 3) := by decide +kernel
theorem dX5_length_7 : decode cX5_length 7 = .ok (.aload_n 0, 1) := by decide +kernel
theorem dX5_length_8 : decode cX5_length 8 = .ok (.getfield 22, 3) := by decide +kernel
theorem dX5_length_11 : decode cX5_length 11 = .ok (.bipush 8, 2) := by decide +kernel
theorem dX5_length_13 : decode cX5_length 13 = .ok (.if_icmp .ne 12, 3) := by decide +kernel
theorem dX5_length_16 : decode cX5_length 16 = .ok (.aload_n 0, 1) := by decide +kernel
theorem dX5_length_17 : decode cX5_length 17 = .ok (.getfield 43, 3) := by decide +kernel
theorem dX5_length_20 : decode cX5_length 20 = .ok (.iconst 2, 1) := by decide +kernel
theorem dX5_length_21 : decode cX5_length 21 = .ok (.idiv, 1) := by decide +kernel
theorem dX5_length_22 : decode cX5_length 22 = .ok (.goto 7, 3) := by decide +kernel
theorem dX5_length_25 : decode cX5_length 25 = .ok (.aload_n 0, 1) := by decide +kernel
theorem dX5_length_26 : decode cX5_length 26 = .ok (.getfield 43, 3) := by decide +kernel
theorem dX5_length_29 : decode cX5_length 29 = .ok (.ireturn, 1) := by decide +kernel
theorem dX5_length_30 : decode cX5_length 30 = .ok (.aload_n 0, 1) := by decide +kernel
theorem dX5_length_31 : decode cX5_length 31 = .ok (.getfield 35, 3) := by decide +kernel
theorem dX5_length_34 : decode cX5_length 34 = .ok (.arraylength, 1) := by decide +kernel
theorem dX5_length_35 : decode cX5_length 35 = .ok (.ireturn, 1) := by decide +kernel
theorem dX5_append_0 : decode cX5_append 0 = .ok (.aload_n 0, 1) := by decide +kernel
theorem dX5_append_1 : decode cX5_append 1 = .ok (.getfield 43, 3) := by decide +kernel
theorem dX5_append_4 : decode cX5_append 4 = .ok (.aload_n 0, 1) := by decide +kernel
theorem dX5_append_5 : decode cX5_append 5 = .ok (.getfield 13, 3) := by decide +kernel
theorem dX5_append_8 : decode cX5_append 8 = .ok (.arraylength, 1) := by decide +kernel
theorem dX5_append_9 : decode cX5_append 9 = .ok (.if_icmp .ne 24, 3) := by decide +kernel
theorem dX5_append_12 : decode cX5_append 12 = .ok (.aload_n 0, 1) := by decide +kernel
theorem dX5_append_13 : decode cX5_append 13 = .ok (.aload_n 0, 1) := by decide +kernel
theorem dX5_append_14 : decode cX5_append 14 = .ok (.getfield 13, 3) := by decide +kernel
theorem dX5_append_17 : decode cX5_append 17 = .ok (.iconst 4, 1) := by decide +kernel
theorem dX5_append_18 : decode cX5_append 18 = .ok (.iconst 2, 1) := by decide +kernel
theorem dX5_append_19 : decode cX5_append 19 = .ok (.aload_n 0, 1) := by decide +kernel
theorem dX5_append_20 : decode cX5_append 20 = .ok (.getfield 43, 3) := by decide +kernel
theorem dX5_append_23 : decode cX5_append 23 = .ok (.imul, 1) := by decide +kernel
theorem dX5_append_24 : decode cX5_append 24 = .ok (.invokestatic 46, 3) := by decide +kernel
theorem dX5_append_27 : decode cX5_append 27 = .ok (.invokestatic 52, 3) := by decide +kernel
theorem dX5_append_30 : decode cX5_append 30 = .ok (.putfield 13, 3) := by decide +kernel
theorem dX5_append_33 : decode cX5_append 33 = .ok (.aload_n 0, 1) := by decide +kernel
theorem dX5_append_34 : decode cX5_append 34 = .ok (.getfield 13, 3) := by decide +kernel
theorem dX5_append_37 : decode cX5_append 37 = .ok (.aload_n 0, 1) := by decide +kernel
theorem dX5_append_38 : decode cX5_append 38 = .ok (.getfield 43, 3) := by decide +kernel
theorem dX5_append_41 : decode cX5_append 41 = .ok (.iload_n 1, 1) := by decide +kernel
theorem dX5_append_42 : decode cX5_append 42 = .ok (.iastore, 1) := by decide +kernel
theorem dX5_append_43 : decode cX5_append 43 = .ok (.aload_n 0, 1) := by decide +kernel
theorem dX5_append_44 : decode cX5_append 44 = .ok (.dup, 1) := by decide +kernel
theorem dX5_append_45 : decode cX5_append 45 = .ok (.getfield 43, 3) := by decide +kernel
theorem dX5_append_48 : decode cX5_append 48 = .ok (.iconst 1, 1) := by decide +kernel
theorem dX5_append_49 : decode cX5_append 49 = .ok (.iadd, 1) := by decide +kernel
theorem dX5_append_50 : decode cX5_append 50 = .ok (.putfield 43, 3) := by decide +kernel
theorem dX5_append_53 : decode cX5_append 53 = .ok (.return_, 1) := by decide +kernel
theorem dX6_init_0 : decode cX6_init 0 = .ok (.aload_n 0, 1) := by decide +kernel
theorem dX6_init_1 : decode cX6_init 1 = .ok (.invokespecial 3, 3) := by decide +kernel
theorem dX6_init_4 : decode cX6_init 4 = .ok (.aload_n 0, 1) := by decide +kernel
theorem dX6_init_5 : decode cX6_init 5 = .ok (.new 9, 3) := by decide +kernel
theorem dX6_init_8 : decode cX6_init 8 = .ok (.dup, 1) := by decide +kernel
theorem dX6_init_9 : decode cX6_init 9 = .ok (.invokespecial 11, 3) := by decide +kernel
theorem dX6_init_12 : decode cX6_init 12 = .ok (.putfield 12, 3) := by decide +kernel
theorem dX6_init_15 : decode cX6_init 15 = .ok (.return_, 1) := by decide +kernel
theorem dX6_size_0 : decode cX6_size 0 = .ok (.aload_n 0, 1) := by decide +kernel
theorem dX6_size_1 : decode cX6_size 1 = .ok (.getfield 12, 3) := by decide +kernel
theorem dX6_size_4 : decode cX6_size 4 = .ok (.invokevirtual 18, 3) := by decide +kernel
theorem dX6_size_7 : decode cX6_size 7 = .ok (.ireturn, 1) := by decide +kernel
theorem dX6_has_0 : decode cX6_has 0 = .ok (.iload_n 1, 1) := by decide +kernel
theorem dX6_has_1 : decode cX6_has 1 = .ok (.ifCond .lt 18, 3) := by decide +kernel
theorem dX6_has_4 : decode cX6_has 4 = .ok (.iload_n 1, 1) := by decide +kernel
theorem dX6_has_5 : decode cX6_has 5 = .ok (.aload_n 0, 1) := by decide +kernel
theorem dX6_has_6 : decode cX6_has 6 = .ok (.getfield 12, 3) := by decide +kernel
theorem dX6_has_9 : decode cX6_has 9 = .ok (.invokevirtual 18, 3) := by decide +kernel
theorem dX6_has_12 : decode cX6_has 12 = .ok (.if_icmp .ge 7, 3) := by decide +kernel
theorem dX6_has_15 : decode cX6_has 15 = .ok (.iconst 1, 1) := by decide +kernel
theorem dX6_has_16 : decode cX6_has 16 = .ok (.goto 4, 3) := by decide +kernel
theorem dX6_has_19 : decode cX6_has 19 = .ok (.iconst 0, 1) := by decide +kernel
theorem dX6_has_20 : decode cX6_has 20 = .ok (.ireturn, 1) := by decide +kernel
theorem dX6_at_0 : decode cX6_at 0 = .ok (.aload_n 0, 1) := by decide +kernel
theorem dX6_at_1 : decode cX6_at 1 = .ok (.getfield 12, 3) := by decide +kernel
theorem dX6_at_4 : decode cX6_at 4 = .ok (.iload_n 1, 1) := by decide +kernel
theorem dX6_at_5 : decode cX6_at 5 = .ok (.invokevirtual 22, 3) := by decide +kernel
theorem dX6_at_8 : decode cX6_at 8 = .ok (.checkcast 26, 3) := by decide +kernel
theorem dX6_at_11 : decode cX6_at 11 = .ok (.areturn, 1) := by decide +kernel
theorem dX6_takes_0 : decode cX6_takes 0 = .ok (.aload_n 0, 1) := by decide +kernel
theorem dX6_takes_1 : decode cX6_takes 1 = .ok (.getfield 12, 3) := by decide +kernel
theorem dX6_takes_4 : decode cX6_takes 4 = .ok (.invokevirtual 18, 3) := by decide +kernel
theorem dX6_takes_7 : decode cX6_takes 7 = .ok (.sipush 3000, 3) := by decide +kernel
theorem dX6_takes_10 : decode cX6_takes 10 = .ok (.if_icmp .ge 18, 3) := by decide +kernel
theorem dX6_takes_13 : decode cX6_takes 13 = .ok (.aload_n 0, 1) := by decide +kernel
theorem dX6_takes_14 : decode cX6_takes 14 = .ok (.getfield 28, 3) := by decide +kernel
theorem dX6_takes_17 : decode cX6_takes 17 = .ok (.iload_n 1, 1) := by decide +kernel
theorem dX6_takes_18 : decode cX6_takes 18 = .ok (.iadd, 1) := by decide +kernel
theorem dX6_takes_19 : decode cX6_takes 19 = .ok (.ldc 32, 2) := by decide +kernel
theorem dX6_takes_21 : decode cX6_takes 21 = .ok (.if_icmp .gt 7, 3) := by decide +kernel
theorem dX6_takes_24 : decode cX6_takes 24 = .ok (.iconst 1, 1) := by decide +kernel
theorem dX6_takes_25 : decode cX6_takes 25 = .ok (.goto 4, 3) := by decide +kernel
theorem dX6_takes_28 : decode cX6_takes 28 = .ok (.iconst 0, 1) := by decide +kernel
theorem dX6_takes_29 : decode cX6_takes 29 = .ok (.ireturn, 1) := by decide +kernel
theorem dX6_takesParts_0 : decode cX6_takesParts 0 = .ok (.aload_n 0, 1) := by decide +kernel
theorem dX6_takesParts_1 : decode cX6_takesParts 1 = .ok (.getfield 33, 3) := by decide +kernel
theorem dX6_takesParts_4 : decode cX6_takesParts 4 = .ok (.i2l, 1) := by decide +kernel
theorem dX6_takesParts_5 : decode cX6_takesParts 5 = .ok (.lload_n 1, 1) := by decide +kernel
theorem dX6_takesParts_6 : decode cX6_takesParts 6 = .ok (.ladd, 1) := by decide +kernel
theorem dX6_takesParts_7 : decode cX6_takesParts 7 = .ok (.ldc2_w 36, 3) := by decide +kernel
theorem dX6_takesParts_10 : decode cX6_takesParts 10 = .ok (.lcmp, 1) := by decide +kernel
theorem dX6_takesParts_11 : decode cX6_takesParts 11 = .ok (.ifCond .gt 7, 3) := by decide +kernel
theorem dX6_takesParts_14 : decode cX6_takesParts 14 = .ok (.iconst 1, 1) := by decide +kernel
theorem dX6_takesParts_15 : decode cX6_takesParts 15 = .ok (.goto 4, 3) := by decide +kernel
theorem dX6_takesParts_18 : decode cX6_takesParts 18 = .ok (.iconst 0, 1) := by decide +kernel
theorem dX6_takesParts_19 : decode cX6_takesParts 19 = .ok (.ireturn, 1) := by decide +kernel
theorem dX6_hold_0 : decode cX6_hold 0 = .ok (.aload_n 0, 1) := by decide +kernel
theorem dX6_hold_1 : decode cX6_hold 1 = .ok (.dup, 1) := by decide +kernel
theorem dX6_hold_2 : decode cX6_hold 2 = .ok (.getfield 33, 3) := by decide +kernel
theorem dX6_hold_5 : decode cX6_hold 5 = .ok (.iload_n 1, 1) := by decide +kernel
theorem dX6_hold_6 : decode cX6_hold 6 = .ok (.iadd, 1) := by decide +kernel
theorem dX6_hold_7 : decode cX6_hold 7 = .ok (.putfield 33, 3) := by decide +kernel
theorem dX6_hold_10 : decode cX6_hold 10 = .ok (.return_, 1) := by decide +kernel
theorem dX6_keep_0 : decode cX6_keep 0 = .ok (.aload_n 0, 1) := by decide +kernel
theorem dX6_keep_1 : decode cX6_keep 1 = .ok (.getfield 12, 3) := by decide +kernel
theorem dX6_keep_4 : decode cX6_keep 4 = .ok (.invokevirtual 18, 3) := by decide +kernel
theorem dX6_keep_7 : decode cX6_keep 7 = .ok (.istore 6, 2) := by decide +kernel
theorem dX6_keep_9 : decode cX6_keep 9 = .ok (.aload_n 0, 1) := by decide +kernel
theorem dX6_keep_10 : decode cX6_keep 10 = .ok (.getfield 12, 3) := by decide +kernel
theorem dX6_keep_13 : decode cX6_keep 13 = .ok (.new 26, 3) := by decide +kernel
theorem dX6_keep_16 : decode cX6_keep 16 = .ok (.dup, 1) := by decide +kernel
theorem dX6_keep_17 : decode cX6_keep 17 = .ok (.iload_n 1, 1) := by decide +kernel
theorem dX6_keep_18 : decode cX6_keep 18 = .ok (.iload 6, 2) := by decide +kernel
theorem dX6_keep_20 : decode cX6_keep 20 = .ok (.lload_n 2, 1) := by decide +kernel
theorem dX6_keep_21 : decode cX6_keep 21 = .ok (.iload 4, 2) := by decide +kernel
theorem dX6_keep_23 : decode cX6_keep 23 = .ok (.aload 5, 2) := by decide +kernel
theorem dX6_keep_25 : decode cX6_keep 25 = .ok (.invokespecial 38, 3) := by decide +kernel
theorem dX6_keep_28 : decode cX6_keep 28 = .ok (.invokevirtual 41, 3) := by decide +kernel
theorem dX6_keep_31 : decode cX6_keep 31 = .ok (.pop, 1) := by decide +kernel
theorem dX6_keep_32 : decode cX6_keep 32 = .ok (.aload_n 0, 1) := by decide +kernel
theorem dX6_keep_33 : decode cX6_keep 33 = .ok (.dup, 1) := by decide +kernel
theorem dX6_keep_34 : decode cX6_keep 34 = .ok (.getfield 28, 3) := by decide +kernel
theorem dX6_keep_37 : decode cX6_keep 37 = .ok (.aload 5, 2) := by decide +kernel
theorem dX6_keep_39 : decode cX6_keep 39 = .ok (.arraylength, 1) := by decide +kernel
theorem dX6_keep_40 : decode cX6_keep 40 = .ok (.iadd, 1) := by decide +kernel
theorem dX6_keep_41 : decode cX6_keep 41 = .ok (.putfield 28, 3) := by decide +kernel
theorem dX6_keep_44 : decode cX6_keep 44 = .ok (.iload 6, 2) := by decide +kernel
theorem dX6_keep_46 : decode cX6_keep 46 = .ok (.ireturn, 1) := by decide +kernel
theorem dX6_keepOnly_0 : decode cX6_keepOnly 0 = .ok (.aload_n 0, 1) := by decide +kernel
theorem dX6_keepOnly_1 : decode cX6_keepOnly 1 = .ok (.getfield 12, 3) := by decide +kernel
theorem dX6_keepOnly_4 : decode cX6_keepOnly 4 = .ok (.invokevirtual 18, 3) := by decide +kernel
theorem dX6_keepOnly_7 : decode cX6_keepOnly 7 = .ok (.iconst 1, 1) := by decide +kernel
theorem dX6_keepOnly_8 : decode cX6_keepOnly 8 = .ok (.isub, 1) := by decide +kernel
theorem dX6_keepOnly_9 : decode cX6_keepOnly 9 = .ok (.istore 4, 2) := by decide +kernel
theorem dX6_keepOnly_11 : decode cX6_keepOnly 11 = .ok (.iload 4, 2) := by decide +kernel
theorem dX6_keepOnly_13 : decode cX6_keepOnly 13 = .ok (.iload_n 1, 1) := by decide +kernel
theorem dX6_keepOnly_14 : decode cX6_keepOnly 14 = .ok (.if_icmp .lt 19, 3) := by decide +kernel
theorem dX6_keepOnly_17 : decode cX6_keepOnly 17 = .ok (.aload_n 0, 1) := by decide +kernel
theorem dX6_keepOnly_18 : decode cX6_keepOnly 18 = .ok (.getfield 12, 3) := by decide +kernel
theorem dX6_keepOnly_21 : decode cX6_keepOnly 21 = .ok (.iload 4, 2) := by decide +kernel
theorem dX6_keepOnly_23 : decode cX6_keepOnly 23 = .ok (.invokevirtual 45, 3) := by decide +kernel
theorem dX6_keepOnly_26 : decode cX6_keepOnly 26 = .ok (.pop, 1) := by decide +kernel
theorem dX6_keepOnly_27 : decode cX6_keepOnly 27 = .ok (.iinc 4 (-1), 3) := by decide +kernel
theorem dX6_keepOnly_30 : decode cX6_keepOnly 30 = .ok (.goto (-19), 3) := by decide +kernel
theorem dX6_keepOnly_33 : decode cX6_keepOnly 33 = .ok (.aload_n 0, 1) := by decide +kernel
theorem dX6_keepOnly_34 : decode cX6_keepOnly 34 = .ok (.iload_n 2, 1) := by decide +kernel
theorem dX6_keepOnly_35 : decode cX6_keepOnly 35 = .ok (.putfield 33, 3) := by decide +kernel
theorem dX6_keepOnly_38 : decode cX6_keepOnly 38 = .ok (.aload_n 0, 1) := by decide +kernel
theorem dX6_keepOnly_39 : decode cX6_keepOnly 39 = .ok (.iload_n 3, 1) := by decide +kernel
theorem dX6_keepOnly_40 : decode cX6_keepOnly 40 = .ok (.putfield 28, 3) := by decide +kernel
theorem dX6_keepOnly_43 : decode cX6_keepOnly 43 = .ok (.return_, 1) := by decide +kernel
theorem dX7_init_0 : decode cX7_init 0 = .ok (.aload_n 0, 1) := by decide +kernel
theorem dX7_init_1 : decode cX7_init 1 = .ok (.invokespecial 1, 3) := by decide +kernel
theorem dX7_init_4 : decode cX7_init 4 = .ok (.aload_n 0, 1) := by decide +kernel
theorem dX7_init_5 : decode cX7_init 5 = .ok (.new 7, 3) := by decide +kernel
theorem dX7_init_8 : decode cX7_init 8 = .ok (.dup, 1) := by decide +kernel
theorem dX7_init_9 : decode cX7_init 9 = .ok (.invokespecial 9, 3) := by decide +kernel
theorem dX7_init_12 : decode cX7_init 12 = .ok (.putfield 10, 3) := by decide +kernel
theorem dX7_init_15 : decode cX7_init 15 = .ok (.aload_n 0, 1) := by decide +kernel
theorem dX7_init_16 : decode cX7_init 16 = .ok (.new 16, 3) := by decide +kernel
theorem dX7_init_19 : decode cX7_init 19 = .ok (.dup, 1) := by decide +kernel
theorem dX7_init_20 : decode cX7_init 20 = .ok (.invokespecial 18, 3) := by decide +kernel
theorem dX7_init_23 : decode cX7_init 23 = .ok (.putfield 19, 3) := by decide +kernel
theorem dX7_init_26 : decode cX7_init 26 = .ok (.aload_n 0, 1) := by decide +kernel
theorem dX7_init_27 : decode cX7_init 27 = .ok (.new 23, 3) := by decide +kernel
theorem dX7_init_30 : decode cX7_init 30 = .ok (.dup, 1) := by decide +kernel
theorem dX7_init_31 : decode cX7_init 31 = .ok (.invokespecial 25, 3) := by decide +kernel
theorem dX7_init_34 : decode cX7_init 34 = .ok (.putfield 26, 3) := by decide +kernel
theorem dX7_init_37 : decode cX7_init 37 = .ok (.aload_n 0, 1) := by decide +kernel
theorem dX7_init_38 : decode cX7_init 38 = .ok (.new 30, 3) := by decide +kernel
theorem dX7_init_41 : decode cX7_init 41 = .ok (.dup, 1) := by decide +kernel
theorem dX7_init_42 : decode cX7_init 42 = .ok (.invokespecial 32, 3) := by decide +kernel
theorem dX7_init_45 : decode cX7_init 45 = .ok (.putfield 33, 3) := by decide +kernel
theorem dX7_init_48 : decode cX7_init 48 = .ok (.aload_n 0, 1) := by decide +kernel
theorem dX7_init_49 : decode cX7_init 49 = .ok (.new 30, 3) := by decide +kernel
theorem dX7_init_52 : decode cX7_init 52 = .ok (.dup, 1) := by decide +kernel
theorem dX7_init_53 : decode cX7_init 53 = .ok (.invokespecial 32, 3) := by decide +kernel
theorem dX7_init_56 : decode cX7_init 56 = .ok (.putfield 37, 3) := by decide +kernel
theorem dX7_init_59 : decode cX7_init 59 = .ok (.aload_n 0, 1) := by decide +kernel
theorem dX7_init_60 : decode cX7_init 60 = .ok (.new 30, 3) := by decide +kernel
theorem dX7_init_63 : decode cX7_init 63 = .ok (.dup, 1) := by decide +kernel
theorem dX7_init_64 : decode cX7_init 64 = .ok (.invokespecial 32, 3) := by decide +kernel
theorem dX7_init_67 : decode cX7_init 67 = .ok (.putfield 40, 3) := by decide +kernel
theorem dX7_init_70 : decode cX7_init 70 = .ok (.return_, 1) := by decide +kernel
theorem dX7_feed_0 : decode cX7_feed 0 = .ok (.aload_n 0, 1) := by decide +kernel
theorem dX7_feed_1 : decode cX7_feed 1 = .ok (.getfield 10, 3) := by decide +kernel
theorem dX7_feed_4 : decode cX7_feed 4 = .ok (.invokevirtual 43, 3) := by decide +kernel
theorem dX7_feed_7 : decode cX7_feed 7 = .ok (.bipush 20, 2) := by decide +kernel
theorem dX7_feed_9 : decode cX7_feed 9 = .ok (.iadd, 1) := by decide +kernel
theorem dX7_feed_10 : decode cX7_feed 10 = .ok (.ldc 47, 2) := by decide +kernel
theorem dX7_feed_12 : decode cX7_feed 12 = .ok (.if_icmp .le 13, 3) := by decide +kernel
theorem dX7_feed_15 : decode cX7_feed 15 = .ok (.new 48, 3) := by decide +kernel
theorem dX7_feed_18 : decode cX7_feed 18 = .ok (.dup, 1) := by decide +kernel
theorem dX7_feed_19 : decode cX7_feed 19 = .ok (.ldc 50, 2) := by decide +kernel
theorem dX7_feed_21 : decode cX7_feed 21 = .ok (.invokespecial 52, 3) := by decide +kernel
theorem dX7_feed_24 : decode cX7_feed 24 = .ok (.athrow, 1) := by decide +kernel
theorem dX7_feed_25 : decode cX7_feed 25 = .ok (.aload_n 0, 1) := by decide +kernel
theorem dX7_feed_26 : decode cX7_feed 26 = .ok (.getfield 10, 3) := by decide +kernel
theorem dX7_feed_29 : decode cX7_feed 29 = .ok (.iload_n 1, 1) := by decide +kernel
theorem dX7_feed_30 : decode cX7_feed 30 = .ok (.i2l, 1) := by decide +kernel
theorem dX7_feed_31 : decode cX7_feed 31 = .ok (.iconst 4, 1) := by decide +kernel
theorem dX7_feed_32 : decode cX7_feed 32 = .ok (.invokevirtual 55, 3) := by decide +kernel
theorem dX7_feed_35 : decode cX7_feed 35 = .ok (.aload_n 0, 1) := by decide +kernel
theorem dX7_feed_36 : decode cX7_feed 36 = .ok (.getfield 10, 3) := by decide +kernel
theorem dX7_feed_39 : decode cX7_feed 39 = .ok (.iload_n 2, 1) := by decide +kernel
theorem dX7_feed_40 : decode cX7_feed 40 = .ok (.i2l, 1) := by decide +kernel
theorem dX7_feed_41 : decode cX7_feed 41 = .ok (.iconst 4, 1) := by decide +kernel
theorem dX7_feed_42 : decode cX7_feed 42 = .ok (.invokevirtual 55, 3) := by decide +kernel
theorem dX7_feed_45 : decode cX7_feed 45 = .ok (.aload_n 0, 1) := by decide +kernel
theorem dX7_feed_46 : decode cX7_feed 46 = .ok (.getfield 10, 3) := by decide +kernel
theorem dX7_feed_49 : decode cX7_feed 49 = .ok (.iload_n 3, 1) := by decide +kernel
theorem dX7_feed_50 : decode cX7_feed 50 = .ok (.i2l, 1) := by decide +kernel
theorem dX7_feed_51 : decode cX7_feed 51 = .ok (.iconst 4, 1) := by decide +kernel
theorem dX7_feed_52 : decode cX7_feed 52 = .ok (.invokevirtual 55, 3) := by decide +kernel
theorem dX7_feed_55 : decode cX7_feed 55 = .ok (.aload_n 0, 1) := by decide +kernel
theorem dX7_feed_56 : decode cX7_feed 56 = .ok (.getfield 10, 3) := by decide +kernel
theorem dX7_feed_59 : decode cX7_feed 59 = .ok (.iload 4, 2) := by decide +kernel
theorem dX7_feed_61 : decode cX7_feed 61 = .ok (.i2l, 1) := by decide +kernel
theorem dX7_feed_62 : decode cX7_feed 62 = .ok (.iconst 4, 1) := by decide +kernel
theorem dX7_feed_63 : decode cX7_feed 63 = .ok (.invokevirtual 55, 3) := by decide +kernel
theorem dX7_feed_66 : decode cX7_feed 66 = .ok (.aload_n 0, 1) := by decide +kernel
theorem dX7_feed_67 : decode cX7_feed 67 = .ok (.getfield 10, 3) := by decide +kernel
theorem dX7_feed_70 : decode cX7_feed 70 = .ok (.iload 5, 2) := by decide +kernel
theorem dX7_feed_72 : decode cX7_feed 72 = .ok (.i2l, 1) := by decide +kernel
theorem dX7_feed_73 : decode cX7_feed 73 = .ok (.iconst 4, 1) := by decide +kernel
theorem dX7_feed_74 : decode cX7_feed 74 = .ok (.invokevirtual 55, 3) := by decide +kernel
theorem dX7_feed_77 : decode cX7_feed 77 = .ok (.aload_n 0, 1) := by decide +kernel
theorem dX7_feed_78 : decode cX7_feed 78 = .ok (.getfield 10, 3) := by decide +kernel
theorem dX7_feed_81 : decode cX7_feed 81 = .ok (.invokevirtual 43, 3) := by decide +kernel
theorem dX7_feed_84 : decode cX7_feed 84 = .ok (.ireturn, 1) := by decide +kernel
theorem dX7_end_0 : decode cX7_end 0 = .ok (.iload_n 1, 1) := by decide +kernel
theorem dX7_end_1 : decode cX7_end 1 = .ok (.ifCond .lt 14, 3) := by decide +kernel
theorem dX7_end_4 : decode cX7_end 4 = .ok (.iload_n 1, 1) := by decide +kernel
theorem dX7_end_5 : decode cX7_end 5 = .ok (.aload_n 0, 1) := by decide +kernel
theorem dX7_end_6 : decode cX7_end 6 = .ok (.getfield 10, 3) := by decide +kernel
theorem dX7_end_9 : decode cX7_end 9 = .ok (.invokevirtual 43, 3) := by decide +kernel
theorem dX7_end_12 : decode cX7_end 12 = .ok (.if_icmp .le 13, 3) := by decide +kernel
theorem dX7_end_15 : decode cX7_end 15 = .ok (.new 59, 3) := by decide +kernel
theorem dX7_end_18 : decode cX7_end 18 = .ok (.dup, 1) := by decide +kernel
theorem dX7_end_19 : decode cX7_end 19 = .ok (.ldc 61, 2) := by decide +kernel
theorem dX7_end_21 : decode cX7_end 21 = .ok (.invokespecial 63, 3) := by decide +kernel
theorem dX7_end_24 : decode cX7_end 24 = .ok (.athrow, 1) := by decide +kernel
theorem dX7_end_25 : decode cX7_end 25 = .ok (.aload_n 0, 1) := by decide +kernel
theorem dX7_end_26 : decode cX7_end 26 = .ok (.getfield 10, 3) := by decide +kernel
theorem dX7_end_29 : decode cX7_end 29 = .ok (.iload_n 1, 1) := by decide +kernel
theorem dX7_end_30 : decode cX7_end 30 = .ok (.invokevirtual 64, 3) := by decide +kernel
theorem dX7_end_33 : decode cX7_end 33 = .ok (.return_, 1) := by decide +kernel
theorem dX7_unpack_0 : decode cX7_unpack 0 = .ok (.aload_n 0, 1) := by decide +kernel
theorem dX7_unpack_1 : decode cX7_unpack 1 = .ok (.getfield 26, 3) := by decide +kernel
theorem dX7_unpack_4 : decode cX7_unpack 4 = .ok (.aload_n 0, 1) := by decide +kernel
theorem dX7_unpack_5 : decode cX7_unpack 5 = .ok (.getfield 10, 3) := by decide +kernel
theorem dX7_unpack_8 : decode cX7_unpack 8 = .ok (.aload_n 0, 1) := by decide +kernel
theorem dX7_unpack_9 : decode cX7_unpack 9 = .ok (.getfield 19, 3) := by decide +kernel
theorem dX7_unpack_12 : decode cX7_unpack 12 = .ok (.invokevirtual 68, 3) := by decide +kernel
theorem dX7_unpack_15 : decode cX7_unpack 15 = .ok (.istore_n 1, 1) := by decide +kernel
theorem dX7_unpack_16 : decode cX7_unpack 16 = .ok (.aload_n 0, 1) := by decide +kernel
theorem dX7_unpack_17 : decode cX7_unpack 17 = .ok (.getfield 10, 3) := by decide +kernel
theorem dX7_unpack_20 : decode cX7_unpack 20 = .ok (.iconst 0, 1) := by decide +kernel
theorem dX7_unpack_21 : decode cX7_unpack 21 = .ok (.invokevirtual 64, 3) := by decide +kernel
theorem dX7_unpack_24 : decode cX7_unpack 24 = .ok (.iload_n 1, 1) := by decide +kernel
theorem dX7_unpack_25 : decode cX7_unpack 25 = .ok (.ireturn, 1) := by decide +kernel
theorem dX7_fault_0 : decode cX7_fault 0 = .ok (.iload_n 1, 1) := by decide +kernel
theorem dX7_fault_1 : decode cX7_fault 1 = .ok (.ifCond .lt 8, 3) := by decide +kernel
theorem dX7_fault_4 : decode cX7_fault 4 = .ok (.iload_n 1, 1) := by decide +kernel
theorem dX7_fault_5 : decode cX7_fault 5 = .ok (.iconst 1, 1) := by decide +kernel
theorem dX7_fault_6 : decode cX7_fault 6 = .ok (.if_icmp .le 13, 3) := by decide +kernel
theorem dX7_fault_9 : decode cX7_fault 9 = .ok (.new 72, 3) := by decide +kernel
theorem dX7_fault_12 : decode cX7_fault 12 = .ok (.dup, 1) := by decide +kernel
theorem dX7_fault_13 : decode cX7_fault 13 = .ok (.ldc 74, 2) := by decide +kernel
theorem dX7_fault_15 : decode cX7_fault 15 = .ok (.invokespecial 76, 3) := by decide +kernel
theorem dX7_fault_18 : decode cX7_fault 18 = .ok (.athrow, 1) := by decide +kernel
theorem dX7_fault_19 : decode cX7_fault 19 = .ok (.iload_n 1, 1) := by decide +kernel
theorem dX7_fault_20 : decode cX7_fault 20 = .ok (.ifCond .ne 13, 3) := by decide +kernel
theorem dX7_fault_23 : decode cX7_fault 23 = .ok (.aload_n 0, 1) := by decide +kernel
theorem dX7_fault_24 : decode cX7_fault 24 = .ok (.getfield 26, 3) := by decide +kernel
theorem dX7_fault_27 : decode cX7_fault 27 = .ok (.getfield 77, 3) := by decide +kernel
theorem dX7_fault_30 : decode cX7_fault 30 = .ok (.goto 10, 3) := by decide +kernel
theorem dX7_fault_33 : decode cX7_fault 33 = .ok (.aload_n 0, 1) := by decide +kernel
theorem dX7_fault_34 : decode cX7_fault 34 = .ok (.getfield 26, 3) := by decide +kernel
theorem dX7_fault_37 : decode cX7_fault 37 = .ok (.getfield 81, 3) := by decide +kernel
theorem dX7_fault_40 : decode cX7_fault 40 = .ok (.ireturn, 1) := by decide +kernel
theorem dX7_skip_0 : decode cX7_skip 0 = .ok (.iload_n 1, 1) := by decide +kernel
theorem dX7_skip_1 : decode cX7_skip 1 = .ok (.ifCond .lt 14, 3) := by decide +kernel
theorem dX7_skip_4 : decode cX7_skip 4 = .ok (.iload_n 1, 1) := by decide +kernel
theorem dX7_skip_5 : decode cX7_skip 5 = .ok (.aload_n 0, 1) := by decide +kernel
theorem dX7_skip_6 : decode cX7_skip 6 = .ok (.getfield 10, 3) := by decide +kernel
theorem dX7_skip_9 : decode cX7_skip 9 = .ok (.invokevirtual 43, 3) := by decide +kernel
theorem dX7_skip_12 : decode cX7_skip 12 = .ok (.if_icmp .lt 13, 3) := by decide +kernel
theorem dX7_skip_15 : decode cX7_skip 15 = .ok (.new 72, 3) := by decide +kernel
theorem dX7_skip_18 : decode cX7_skip 18 = .ok (.dup, 1) := by decide +kernel
theorem dX7_skip_19 : decode cX7_skip 19 = .ok (.ldc 84, 2) := by decide +kernel
theorem dX7_skip_21 : decode cX7_skip 21 = .ok (.invokespecial 76, 3) := by decide +kernel
theorem dX7_skip_24 : decode cX7_skip 24 = .ok (.athrow, 1) := by decide +kernel
theorem dX7_skip_25 : decode cX7_skip 25 = .ok (.aload_n 0, 1) := by decide +kernel
theorem dX7_skip_26 : decode cX7_skip 26 = .ok (.getfield 26, 3) := by decide +kernel
theorem dX7_skip_29 : decode cX7_skip 29 = .ok (.aload_n 0, 1) := by decide +kernel
theorem dX7_skip_30 : decode cX7_skip 30 = .ok (.getfield 10, 3) := by decide +kernel
theorem dX7_skip_33 : decode cX7_skip 33 = .ok (.iload_n 1, 1) := by decide +kernel
theorem dX7_skip_34 : decode cX7_skip 34 = .ok (.invokevirtual 86, 3) := by decide +kernel
theorem dX7_skip_37 : decode cX7_skip 37 = .ok (.ireturn, 1) := by decide +kernel
theorem dX7_pack_0 : decode cX7_pack 0 = .ok (.aload_n 0, 1) := by decide +kernel
theorem dX7_pack_1 : decode cX7_pack 1 = .ok (.iload_n 1, 1) := by decide +kernel
theorem dX7_pack_2 : decode cX7_pack 2 = .ok (.invokevirtual 90, 3) := by decide +kernel
theorem dX7_pack_5 : decode cX7_pack 5 = .ok (.aload_n 0, 1) := by decide +kernel
theorem dX7_pack_6 : decode cX7_pack 6 = .ok (.getfield 33, 3) := by decide +kernel
theorem dX7_pack_9 : decode cX7_pack 9 = .ok (.aload_n 0, 1) := by decide +kernel
theorem dX7_pack_10 : decode cX7_pack 10 = .ok (.getfield 19, 3) := by decide +kernel
theorem dX7_pack_13 : decode cX7_pack 13 = .ok (.iload_n 1, 1) := by decide +kernel
theorem dX7_pack_14 : decode cX7_pack 14 = .ok (.ldc 47, 2) := by decide +kernel
theorem dX7_pack_16 : decode cX7_pack 16 = .ok (.invokevirtual 93, 3) := by decide +kernel
theorem dX7_pack_19 : decode cX7_pack 19 = .ok (.ifCond .ne 13, 3) := by decide +kernel
theorem dX7_pack_22 : decode cX7_pack 22 = .ok (.new 48, 3) := by decide +kernel
theorem dX7_pack_25 : decode cX7_pack 25 = .ok (.dup, 1) := by decide +kernel
theorem dX7_pack_26 : decode cX7_pack 26 = .ok (.ldc 97, 2) := by decide +kernel
theorem dX7_pack_28 : decode cX7_pack 28 = .ok (.invokespecial 52, 3) := by decide +kernel
theorem dX7_pack_31 : decode cX7_pack 31 = .ok (.athrow, 1) := by decide +kernel
theorem dX7_pack_32 : decode cX7_pack 32 = .ok (.aload_n 0, 1) := by decide +kernel
theorem dX7_pack_33 : decode cX7_pack 33 = .ok (.getfield 33, 3) := by decide +kernel
theorem dX7_pack_36 : decode cX7_pack 36 = .ok (.getfield 99, 3) := by decide +kernel
theorem dX7_pack_39 : decode cX7_pack 39 = .ok (.invokevirtual 43, 3) := by decide +kernel
theorem dX7_pack_42 : decode cX7_pack 42 = .ok (.ireturn, 1) := by decide +kernel
theorem dX7_shown_0 : decode cX7_shown 0 = .ok (.iload_n 1, 1) := by decide +kernel
theorem dX7_shown_1 : decode cX7_shown 1 = .ok (.ifCond .lt 17, 3) := by decide +kernel
theorem dX7_shown_4 : decode cX7_shown 4 = .ok (.iload_n 1, 1) := by decide +kernel
theorem dX7_shown_5 : decode cX7_shown 5 = .ok (.aload_n 0, 1) := by decide +kernel
theorem dX7_shown_6 : decode cX7_shown 6 = .ok (.getfield 33, 3) := by decide +kernel
theorem dX7_shown_9 : decode cX7_shown 9 = .ok (.getfield 99, 3) := by decide +kernel
theorem dX7_shown_12 : decode cX7_shown 12 = .ok (.invokevirtual 43, 3) := by decide +kernel
theorem dX7_shown_15 : decode cX7_shown 15 = .ok (.if_icmp .lt 13, 3) := by decide +kernel
theorem dX7_shown_18 : decode cX7_shown 18 = .ok (.new 72, 3) := by decide +kernel
theorem dX7_shown_21 : decode cX7_shown 21 = .ok (.dup, 1) := by decide +kernel
theorem dX7_shown_22 : decode cX7_shown 22 = .ok (.ldc 102, 2) := by decide +kernel
theorem dX7_shown_24 : decode cX7_shown 24 = .ok (.invokespecial 76, 3) := by decide +kernel
theorem dX7_shown_27 : decode cX7_shown 27 = .ok (.athrow, 1) := by decide +kernel
theorem dX7_shown_28 : decode cX7_shown 28 = .ok (.aload_n 0, 1) := by decide +kernel
theorem dX7_shown_29 : decode cX7_shown 29 = .ok (.getfield 33, 3) := by decide +kernel
theorem dX7_shown_32 : decode cX7_shown 32 = .ok (.getfield 99, 3) := by decide +kernel
theorem dX7_shown_35 : decode cX7_shown 35 = .ok (.iload_n 1, 1) := by decide +kernel
theorem dX7_shown_36 : decode cX7_shown 36 = .ok (.invokevirtual 104, 3) := by decide +kernel
theorem dX7_shown_39 : decode cX7_shown 39 = .ok (.ireturn, 1) := by decide +kernel
theorem dX7_nil_0 : decode cX7_nil 0 = .ok (.aload_n 0, 1) := by decide +kernel
theorem dX7_nil_1 : decode cX7_nil 1 = .ok (.iconst 0, 1) := by decide +kernel
theorem dX7_nil_2 : decode cX7_nil 2 = .ok (.invokevirtual 108, 3) := by decide +kernel
theorem dX7_nil_5 : decode cX7_nil 5 = .ok (.aload_n 0, 1) := by decide +kernel
theorem dX7_nil_6 : decode cX7_nil 6 = .ok (.getfield 19, 3) := by decide +kernel
theorem dX7_nil_9 : decode cX7_nil 9 = .ok (.iconst 0, 1) := by decide +kernel
theorem dX7_nil_10 : decode cX7_nil 10 = .ok (.lconst 0, 1) := by decide +kernel
theorem dX7_nil_11 : decode cX7_nil 11 = .ok (.iconst 0, 1) := by decide +kernel
theorem dX7_nil_12 : decode cX7_nil 12 = .ok (.getstatic 111, 3) := by decide +kernel
theorem dX7_nil_15 : decode cX7_nil 15 = .ok (.invokevirtual 115, 3) := by decide +kernel
theorem dX7_nil_18 : decode cX7_nil 18 = .ok (.ireturn, 1) := by decide +kernel
theorem dX7_truth_0 : decode cX7_truth 0 = .ok (.aload_n 0, 1) := by decide +kernel
theorem dX7_truth_1 : decode cX7_truth 1 = .ok (.iconst 0, 1) := by decide +kernel
theorem dX7_truth_2 : decode cX7_truth 2 = .ok (.invokevirtual 108, 3) := by decide +kernel
theorem dX7_truth_5 : decode cX7_truth 5 = .ok (.aload_n 0, 1) := by decide +kernel
theorem dX7_truth_6 : decode cX7_truth 6 = .ok (.getfield 19, 3) := by decide +kernel
theorem dX7_truth_9 : decode cX7_truth 9 = .ok (.iconst 1, 1) := by decide +kernel
theorem dX7_truth_10 : decode cX7_truth 10 = .ok (.lconst 0, 1) := by decide +kernel
theorem dX7_truth_11 : decode cX7_truth 11 = .ok (.iload_n 1, 1) := by decide +kernel
theorem dX7_truth_12 : decode cX7_truth 12 = .ok (.ifCond .eq 7, 3) := by decide +kernel
theorem dX7_truth_15 : decode cX7_truth 15 = .ok (.iconst 1, 1) := by decide +kernel
theorem dX7_truth_16 : decode cX7_truth 16 = .ok (.goto 4, 3) := by decide +kernel
theorem dX7_truth_19 : decode cX7_truth 19 = .ok (.iconst 0, 1) := by decide +kernel
theorem dX7_truth_20 : decode cX7_truth 20 = .ok (.getstatic 111, 3) := by decide +kernel
theorem dX7_truth_23 : decode cX7_truth 23 = .ok (.invokevirtual 115, 3) := by decide +kernel
theorem dX7_truth_26 : decode cX7_truth 26 = .ok (.ireturn, 1) := by decide +kernel
theorem dX7_integer_0 : decode cX7_integer 0 = .ok (.aload_n 0, 1) := by decide +kernel
theorem dX7_integer_1 : decode cX7_integer 1 = .ok (.iconst 0, 1) := by decide +kernel
theorem dX7_integer_2 : decode cX7_integer 2 = .ok (.invokevirtual 108, 3) := by decide +kernel
theorem dX7_integer_5 : decode cX7_integer 5 = .ok (.aload_n 0, 1) := by decide +kernel
theorem dX7_integer_6 : decode cX7_integer 6 = .ok (.getfield 19, 3) := by decide +kernel
theorem dX7_integer_9 : decode cX7_integer 9 = .ok (.iconst 2, 1) := by decide +kernel
theorem dX7_integer_10 : decode cX7_integer 10 = .ok (.lload_n 1, 1) := by decide +kernel
theorem dX7_integer_11 : decode cX7_integer 11 = .ok (.iload_n 3, 1) := by decide +kernel
theorem dX7_integer_12 : decode cX7_integer 12 = .ok (.ifCond .eq 13, 3) := by decide +kernel
theorem dX7_integer_15 : decode cX7_integer 15 = .ok (.lload_n 1, 1) := by decide +kernel
theorem dX7_integer_16 : decode cX7_integer 16 = .ok (.lconst 0, 1) := by decide +kernel
theorem dX7_integer_17 : decode cX7_integer 17 = .ok (.lcmp, 1) := by decide +kernel
theorem dX7_integer_18 : decode cX7_integer 18 = .ok (.ifCond .ge 7, 3) := by decide +kernel
theorem dX7_integer_21 : decode cX7_integer 21 = .ok (.iconst 1, 1) := by decide +kernel
theorem dX7_integer_22 : decode cX7_integer 22 = .ok (.goto 4, 3) := by decide +kernel
theorem dX7_integer_25 : decode cX7_integer 25 = .ok (.iconst 0, 1) := by decide +kernel
theorem dX7_integer_26 : decode cX7_integer 26 = .ok (.getstatic 111, 3) := by decide +kernel
theorem dX7_integer_29 : decode cX7_integer 29 = .ok (.invokevirtual 115, 3) := by decide +kernel
theorem dX7_integer_32 : decode cX7_integer 32 = .ok (.ireturn, 1) := by decide +kernel
theorem dX7_real_0 : decode cX7_real 0 = .ok (.aload_n 0, 1) := by decide +kernel
theorem dX7_real_1 : decode cX7_real 1 = .ok (.iconst 0, 1) := by decide +kernel
theorem dX7_real_2 : decode cX7_real 2 = .ok (.invokevirtual 108, 3) := by decide +kernel
theorem dX7_real_5 : decode cX7_real 5 = .ok (.iload_n 3, 1) := by decide +kernel
theorem dX7_real_6 : decode cX7_real 6 = .ok (.ifCond .eq 19, 3) := by decide +kernel
theorem dX7_real_9 : decode cX7_real 9 = .ok (.aload_n 0, 1) := by decide +kernel
theorem dX7_real_10 : decode cX7_real 10 = .ok (.getfield 19, 3) := by decide +kernel
theorem dX7_real_13 : decode cX7_real 13 = .ok (.iconst 4, 1) := by decide +kernel
theorem dX7_real_14 : decode cX7_real 14 = .ok (.lload_n 1, 1) := by decide +kernel
theorem dX7_real_15 : decode cX7_real 15 = .ok (.iconst 0, 1) := by decide +kernel
theorem dX7_real_16 : decode cX7_real 16 = .ok (.getstatic 111, 3) := by decide +kernel
theorem dX7_real_19 : decode cX7_real 19 = .ok (.invokevirtual 115, 3) := by decide +kernel
theorem dX7_real_22 : decode cX7_real 22 = .ok (.goto 20, 3) := by decide +kernel
theorem dX7_real_25 : decode cX7_real 25 = .ok (.aload_n 0, 1) := by decide +kernel
theorem dX7_real_26 : decode cX7_real 26 = .ok (.getfield 19, 3) := by decide +kernel
theorem dX7_real_29 : decode cX7_real 29 = .ok (.iconst 3, 1) := by decide +kernel
theorem dX7_real_30 : decode cX7_real 30 = .ok (.lload_n 1, 1) := by decide +kernel
theorem dX7_real_31 : decode cX7_real 31 = .ok (.ldc2_w 119, 3) := by decide +kernel
theorem dX7_real_34 : decode cX7_real 34 = .ok (.land, 1) := by decide +kernel
theorem dX7_real_35 : decode cX7_real 35 = .ok (.iconst 0, 1) := by decide +kernel
theorem dX7_real_36 : decode cX7_real 36 = .ok (.getstatic 111, 3) := by decide +kernel
theorem dX7_real_39 : decode cX7_real 39 = .ok (.invokevirtual 115, 3) := by decide +kernel
theorem dX7_real_42 : decode cX7_real 42 = .ok (.ireturn, 1) := by decide +kernel
theorem dX7_row_0 : decode cX7_row 0 = .ok (.iload_n 1, 1) := by decide +kernel
theorem dX7_row_1 : decode cX7_row 1 = .ok (.iconst 5, 1) := by decide +kernel
theorem dX7_row_2 : decode cX7_row 2 = .ok (.if_icmp .eq 19, 3) := by decide +kernel
theorem dX7_row_5 : decode cX7_row 5 = .ok (.iload_n 1, 1) := by decide +kernel
theorem dX7_row_6 : decode cX7_row 6 = .ok (.bipush 6, 2) := by decide +kernel
theorem dX7_row_8 : decode cX7_row 8 = .ok (.if_icmp .eq 13, 3) := by decide +kernel
theorem dX7_row_11 : decode cX7_row 11 = .ok (.new 59, 3) := by decide +kernel
theorem dX7_row_14 : decode cX7_row 14 = .ok (.dup, 1) := by decide +kernel
theorem dX7_row_15 : decode cX7_row 15 = .ok (.ldc 121, 2) := by decide +kernel
theorem dX7_row_17 : decode cX7_row 17 = .ok (.invokespecial 63, 3) := by decide +kernel
theorem dX7_row_20 : decode cX7_row 20 = .ok (.athrow, 1) := by decide +kernel
theorem dX7_row_21 : decode cX7_row 21 = .ok (.iload_n 1, 1) := by decide +kernel
theorem dX7_row_22 : decode cX7_row 22 = .ok (.iconst 5, 1) := by decide +kernel
theorem dX7_row_23 : decode cX7_row 23 = .ok (.if_icmp .ne 32, 3) := by decide +kernel
theorem dX7_row_26 : decode cX7_row 26 = .ok (.aload_n 0, 1) := by decide +kernel
theorem dX7_row_27 : decode cX7_row 27 = .ok (.getfield 10, 3) := by decide +kernel
theorem dX7_row_30 : decode cX7_row 30 = .ok (.iconst 0, 1) := by decide +kernel
theorem dX7_row_31 : decode cX7_row 31 = .ok (.aload_n 0, 1) := by decide +kernel
theorem dX7_row_32 : decode cX7_row 32 = .ok (.getfield 10, 3) := by decide +kernel
theorem dX7_row_35 : decode cX7_row 35 = .ok (.invokevirtual 43, 3) := by decide +kernel
theorem dX7_row_38 : decode cX7_row 38 = .ok (.invokestatic 123, 3) := by decide +kernel
theorem dX7_row_41 : decode cX7_row 41 = .ok (.iconst (-1), 1) := by decide +kernel
theorem dX7_row_42 : decode cX7_row 42 = .ok (.if_icmp .eq 13, 3) := by decide +kernel
theorem dX7_row_45 : decode cX7_row 45 = .ok (.new 59, 3) := by decide +kernel
theorem dX7_row_48 : decode cX7_row 48 = .ok (.dup, 1) := by decide +kernel
theorem dX7_row_49 : decode cX7_row 49 = .ok (.ldc 129, 2) := by decide +kernel
theorem dX7_row_51 : decode cX7_row 51 = .ok (.invokespecial 63, 3) := by decide +kernel
theorem dX7_row_54 : decode cX7_row 54 = .ok (.athrow, 1) := by decide +kernel
theorem dX7_row_55 : decode cX7_row 55 = .ok (.aload_n 0, 1) := by decide +kernel
theorem dX7_row_56 : decode cX7_row 56 = .ok (.iload_n 1, 1) := by decide +kernel
theorem dX7_row_57 : decode cX7_row 57 = .ok (.iconst 0, 1) := by decide +kernel
theorem dX7_row_58 : decode cX7_row 58 = .ok (.invokevirtual 131, 3) := by decide +kernel
theorem dX7_row_61 : decode cX7_row 61 = .ok (.ireturn, 1) := by decide +kernel
theorem dX7_extension_0 : decode cX7_extension 0 = .ok (.iload_n 1, 1) := by decide +kernel
theorem dX7_extension_1 : decode cX7_extension 1 = .ok (.bipush (-128), 2) := by decide +kernel
theorem dX7_extension_3 : decode cX7_extension 3 = .ok (.if_icmp .lt 18, 3) := by decide +kernel
theorem dX7_extension_6 : decode cX7_extension 6 = .ok (.iload_n 1, 1) := by decide +kernel
theorem dX7_extension_7 : decode cX7_extension 7 = .ok (.bipush 127, 2) := by decide +kernel
theorem dX7_extension_9 : decode cX7_extension 9 = .ok (.if_icmp .gt 12, 3) := by decide +kernel
theorem dX7_extension_12 : decode cX7_extension 12 = .ok (.iload_n 1, 1) := by decide +kernel
theorem dX7_extension_13 : decode cX7_extension 13 = .ok (.iconst (-1), 1) := by decide +kernel
theorem dX7_extension_14 : decode cX7_extension 14 = .ok (.if_icmp .eq 7, 3) := by decide +kernel
theorem dX7_extension_17 : decode cX7_extension 17 = .ok (.iload_n 1, 1) := by decide +kernel
theorem dX7_extension_18 : decode cX7_extension 18 = .ok (.ifCond .ne 13, 3) := by decide +kernel
theorem dX7_extension_21 : decode cX7_extension 21 = .ok (.new 59, 3) := by decide +kernel
theorem dX7_extension_24 : decode cX7_extension 24 = .ok (.dup, 1) := by decide +kernel
theorem dX7_extension_25 : decode cX7_extension 25 = .ok (.ldc 135, 2) := by decide +kernel
theorem dX7_extension_27 : decode cX7_extension 27 = .ok (.invokespecial 63, 3) := by decide +kernel
theorem dX7_extension_30 : decode cX7_extension 30 = .ok (.athrow, 1) := by decide +kernel
theorem dX7_extension_31 : decode cX7_extension 31 = .ok (.aload_n 0, 1) := by decide +kernel
theorem dX7_extension_32 : decode cX7_extension 32 = .ok (.bipush 9, 2) := by decide +kernel
theorem dX7_extension_34 : decode cX7_extension 34 = .ok (.iload_n 1, 1) := by decide +kernel
theorem dX7_extension_35 : decode cX7_extension 35 = .ok (.invokevirtual 131, 3) := by decide +kernel
theorem dX7_extension_38 : decode cX7_extension 38 = .ok (.ireturn, 1) := by decide +kernel
theorem dX7_time_0 : decode cX7_time 0 = .ok (.iload_n 3, 1) := by decide +kernel
theorem dX7_time_1 : decode cX7_time 1 = .ok (.ifCond .lt 9, 3) := by decide +kernel
theorem dX7_time_4 : decode cX7_time 4 = .ok (.iload_n 3, 1) := by decide +kernel
theorem dX7_time_5 : decode cX7_time 5 = .ok (.ldc 137, 2) := by decide +kernel
theorem dX7_time_7 : decode cX7_time 7 = .ok (.if_icmp .le 13, 3) := by decide +kernel
theorem dX7_time_10 : decode cX7_time 10 = .ok (.new 59, 3) := by decide +kernel
theorem dX7_time_13 : decode cX7_time 13 = .ok (.dup, 1) := by decide +kernel
theorem dX7_time_14 : decode cX7_time 14 = .ok (.ldc 138, 2) := by decide +kernel
theorem dX7_time_16 : decode cX7_time 16 = .ok (.invokespecial 63, 3) := by decide +kernel
theorem dX7_time_19 : decode cX7_time 19 = .ok (.athrow, 1) := by decide +kernel
theorem dX7_time_20 : decode cX7_time 20 = .ok (.aload_n 0, 1) := by decide +kernel
theorem dX7_time_21 : decode cX7_time 21 = .ok (.iconst 0, 1) := by decide +kernel
theorem dX7_time_22 : decode cX7_time 22 = .ok (.invokevirtual 108, 3) := by decide +kernel
theorem dX7_time_25 : decode cX7_time 25 = .ok (.aload_n 0, 1) := by decide +kernel
theorem dX7_time_26 : decode cX7_time 26 = .ok (.getfield 19, 3) := by decide +kernel
theorem dX7_time_29 : decode cX7_time 29 = .ok (.bipush 10, 2) := by decide +kernel
theorem dX7_time_31 : decode cX7_time 31 = .ok (.lload_n 1, 1) := by decide +kernel
theorem dX7_time_32 : decode cX7_time 32 = .ok (.iload_n 3, 1) := by decide +kernel
theorem dX7_time_33 : decode cX7_time 33 = .ok (.getstatic 111, 3) := by decide +kernel
theorem dX7_time_36 : decode cX7_time 36 = .ok (.invokevirtual 115, 3) := by decide +kernel
theorem dX7_time_39 : decode cX7_time 39 = .ok (.ireturn, 1) := by decide +kernel
theorem dX7_group_0 : decode cX7_group 0 = .ok (.iload_n 1, 1) := by decide +kernel
theorem dX7_group_1 : decode cX7_group 1 = .ok (.bipush 7, 2) := by decide +kernel
theorem dX7_group_3 : decode cX7_group 3 = .ok (.if_icmp .eq 19, 3) := by decide +kernel
theorem dX7_group_6 : decode cX7_group 6 = .ok (.iload_n 1, 1) := by decide +kernel
theorem dX7_group_7 : decode cX7_group 7 = .ok (.bipush 8, 2) := by decide +kernel
theorem dX7_group_9 : decode cX7_group 9 = .ok (.if_icmp .eq 13, 3) := by decide +kernel
theorem dX7_group_12 : decode cX7_group 12 = .ok (.new 59, 3) := by decide +kernel
theorem dX7_group_15 : decode cX7_group 15 = .ok (.dup, 1) := by decide +kernel
theorem dX7_group_16 : decode cX7_group 16 = .ok (.ldc 140, 2) := by decide +kernel
theorem dX7_group_18 : decode cX7_group 18 = .ok (.invokespecial 63, 3) := by decide +kernel
theorem dX7_group_21 : decode cX7_group 21 = .ok (.athrow, 1) := by decide +kernel
theorem dX7_group_22 : decode cX7_group 22 = .ok (.aload_n 0, 1) := by decide +kernel
theorem dX7_group_23 : decode cX7_group 23 = .ok (.iconst 0, 1) := by decide +kernel
theorem dX7_group_24 : decode cX7_group 24 = .ok (.invokevirtual 108, 3) := by decide +kernel
theorem dX7_group_27 : decode cX7_group 27 = .ok (.aload_n 0, 1) := by decide +kernel
theorem dX7_group_28 : decode cX7_group 28 = .ok (.getfield 19, 3) := by decide +kernel
theorem dX7_group_31 : decode cX7_group 31 = .ok (.iload_n 1, 1) := by decide +kernel
theorem dX7_group_32 : decode cX7_group 32 = .ok (.lconst 0, 1) := by decide +kernel
theorem dX7_group_33 : decode cX7_group 33 = .ok (.iconst 0, 1) := by decide +kernel
theorem dX7_group_34 : decode cX7_group 34 = .ok (.getstatic 111, 3) := by decide +kernel
theorem dX7_group_37 : decode cX7_group 37 = .ok (.invokevirtual 115, 3) := by decide +kernel
theorem dX7_group_40 : decode cX7_group 40 = .ok (.ireturn, 1) := by decide +kernel
theorem dX7_add_0 : decode cX7_add 0 = .ok (.aload_n 0, 1) := by decide +kernel
theorem dX7_add_1 : decode cX7_add 1 = .ok (.iload_n 1, 1) := by decide +kernel
theorem dX7_add_2 : decode cX7_add 2 = .ok (.invokevirtual 90, 3) := by decide +kernel
theorem dX7_add_5 : decode cX7_add 5 = .ok (.aload_n 0, 1) := by decide +kernel
theorem dX7_add_6 : decode cX7_add 6 = .ok (.iload_n 2, 1) := by decide +kernel
theorem dX7_add_7 : decode cX7_add 7 = .ok (.invokevirtual 90, 3) := by decide +kernel
theorem dX7_add_10 : decode cX7_add 10 = .ok (.aload_n 0, 1) := by decide +kernel
theorem dX7_add_11 : decode cX7_add 11 = .ok (.iload_n 1, 1) := by decide +kernel
theorem dX7_add_12 : decode cX7_add 12 = .ok (.bipush 7, 2) := by decide +kernel
theorem dX7_add_14 : decode cX7_add 14 = .ok (.invokevirtual 142, 3) := by decide +kernel
theorem dX7_add_17 : decode cX7_add 17 = .ok (.aload_n 0, 1) := by decide +kernel
theorem dX7_add_18 : decode cX7_add 18 = .ok (.iconst 1, 1) := by decide +kernel
theorem dX7_add_19 : decode cX7_add 19 = .ok (.invokevirtual 146, 3) := by decide +kernel
theorem dX7_add_22 : decode cX7_add 22 = .ok (.aload_n 0, 1) := by decide +kernel
theorem dX7_add_23 : decode cX7_add 23 = .ok (.getfield 19, 3) := by decide +kernel
theorem dX7_add_26 : decode cX7_add 26 = .ok (.iconst 1, 1) := by decide +kernel
theorem dX7_add_27 : decode cX7_add 27 = .ok (.invokevirtual 149, 3) := by decide +kernel
theorem dX7_add_30 : decode cX7_add 30 = .ok (.aload_n 0, 1) := by decide +kernel
theorem dX7_add_31 : decode cX7_add 31 = .ok (.getfield 19, 3) := by decide +kernel
theorem dX7_add_34 : decode cX7_add 34 = .ok (.iload_n 1, 1) := by decide +kernel
theorem dX7_add_35 : decode cX7_add 35 = .ok (.invokevirtual 152, 3) := by decide +kernel
theorem dX7_add_38 : decode cX7_add 38 = .ok (.astore_n 3, 1) := by decide +kernel
theorem dX7_add_39 : decode cX7_add 39 = .ok (.aload_n 3, 1) := by decide +kernel
theorem dX7_add_40 : decode cX7_add 40 = .ok (.iload_n 2, 1) := by decide +kernel
theorem dX7_add_41 : decode cX7_add 41 = .ok (.invokevirtual 155, 3) := by decide +kernel
theorem dX7_add_44 : decode cX7_add 44 = .ok (.aload_n 3, 1) := by decide +kernel
theorem dX7_add_45 : decode cX7_add 45 = .ok (.invokevirtual 159, 3) := by decide +kernel
theorem dX7_add_48 : decode cX7_add 48 = .ok (.ireturn, 1) := by decide +kernel
theorem dX7_put_0 : decode cX7_put 0 = .ok (.aload_n 0, 1) := by decide +kernel
theorem dX7_put_1 : decode cX7_put 1 = .ok (.iload_n 1, 1) := by decide +kernel
theorem dX7_put_2 : decode cX7_put 2 = .ok (.invokevirtual 90, 3) := by decide +kernel
theorem dX7_put_5 : decode cX7_put 5 = .ok (.aload_n 0, 1) := by decide +kernel
theorem dX7_put_6 : decode cX7_put 6 = .ok (.iload_n 2, 1) := by decide +kernel
theorem dX7_put_7 : decode cX7_put 7 = .ok (.invokevirtual 90, 3) := by decide +kernel
theorem dX7_put_10 : decode cX7_put 10 = .ok (.aload_n 0, 1) := by decide +kernel
theorem dX7_put_11 : decode cX7_put 11 = .ok (.iload_n 3, 1) := by decide +kernel
theorem dX7_put_12 : decode cX7_put 12 = .ok (.invokevirtual 90, 3) := by decide +kernel
theorem dX7_put_15 : decode cX7_put 15 = .ok (.aload_n 0, 1) := by decide +kernel
theorem dX7_put_16 : decode cX7_put 16 = .ok (.iload_n 1, 1) := by decide +kernel
theorem dX7_put_17 : decode cX7_put 17 = .ok (.bipush 8, 2) := by decide +kernel
theorem dX7_put_19 : decode cX7_put 19 = .ok (.invokevirtual 142, 3) := by decide +kernel
theorem dX7_put_22 : decode cX7_put 22 = .ok (.aload_n 0, 1) := by decide +kernel
theorem dX7_put_23 : decode cX7_put 23 = .ok (.iconst 2, 1) := by decide +kernel
theorem dX7_put_24 : decode cX7_put 24 = .ok (.invokevirtual 146, 3) := by decide +kernel
theorem dX7_put_27 : decode cX7_put 27 = .ok (.aload_n 0, 1) := by decide +kernel
theorem dX7_put_28 : decode cX7_put 28 = .ok (.getfield 19, 3) := by decide +kernel
theorem dX7_put_31 : decode cX7_put 31 = .ok (.iconst 2, 1) := by decide +kernel
theorem dX7_put_32 : decode cX7_put 32 = .ok (.invokevirtual 149, 3) := by decide +kernel
theorem dX7_put_35 : decode cX7_put 35 = .ok (.aload_n 0, 1) := by decide +kernel
theorem dX7_put_36 : decode cX7_put 36 = .ok (.getfield 19, 3) := by decide +kernel
theorem dX7_put_39 : decode cX7_put 39 = .ok (.iload_n 1, 1) := by decide +kernel
theorem dX7_put_40 : decode cX7_put 40 = .ok (.invokevirtual 152, 3) := by decide +kernel
theorem dX7_put_43 : decode cX7_put 43 = .ok (.astore 4, 2) := by decide +kernel
theorem dX7_put_45 : decode cX7_put 45 = .ok (.aload 4, 2) := by decide +kernel
theorem dX7_put_47 : decode cX7_put 47 = .ok (.iload_n 2, 1) := by decide +kernel
theorem dX7_put_48 : decode cX7_put 48 = .ok (.invokevirtual 155, 3) := by decide +kernel
theorem dX7_put_51 : decode cX7_put 51 = .ok (.aload 4, 2) := by decide +kernel
theorem dX7_put_53 : decode cX7_put 53 = .ok (.iload_n 3, 1) := by decide +kernel
theorem dX7_put_54 : decode cX7_put 54 = .ok (.invokevirtual 155, 3) := by decide +kernel
theorem dX7_put_57 : decode cX7_put 57 = .ok (.aload 4, 2) := by decide +kernel
theorem dX7_put_59 : decode cX7_put 59 = .ok (.invokevirtual 159, 3) := by decide +kernel
theorem dX7_put_62 : decode cX7_put 62 = .ok (.ireturn, 1) := by decide +kernel
theorem dX7_about_0 : decode cX7_about 0 = .ok (.aload_n 0, 1) := by decide +kernel
theorem dX7_about_1 : decode cX7_about 1 = .ok (.iload_n 1, 1) := by decide +kernel
theorem dX7_about_2 : decode cX7_about 2 = .ok (.invokevirtual 90, 3) := by decide +kernel
theorem dX7_about_5 : decode cX7_about 5 = .ok (.aload_n 0, 1) := by decide +kernel
theorem dX7_about_6 : decode cX7_about 6 = .ok (.getfield 19, 3) := by decide +kernel
theorem dX7_about_9 : decode cX7_about 9 = .ok (.iload_n 1, 1) := by decide +kernel
theorem dX7_about_10 : decode cX7_about 10 = .ok (.invokevirtual 152, 3) := by decide +kernel
theorem dX7_about_13 : decode cX7_about 13 = .ok (.astore_n 3, 1) := by decide +kernel
theorem dX7_about_14 : decode cX7_about 14 = .ok (.iload_n 2, 1) := by decide +kernel
theorem dX7_about_15 : decode cX7_about 15 = .ok (.tableswitch 95 0 3 #[29, 34, 39, 56], 29) := by decide +kernel
theorem dX7_about_44 : decode cX7_about 44 = .ok (.aload_n 3, 1) := by decide +kernel
theorem dX7_about_45 : decode cX7_about 45 = .ok (.getfield 162, 3) := by decide +kernel
theorem dX7_about_48 : decode cX7_about 48 = .ok (.ireturn, 1) := by decide +kernel
theorem dX7_about_49 : decode cX7_about 49 = .ok (.aload_n 3, 1) := by decide +kernel
theorem dX7_about_50 : decode cX7_about 50 = .ok (.invokevirtual 159, 3) := by decide +kernel
theorem dX7_about_53 : decode cX7_about 53 = .ok (.ireturn, 1) := by decide +kernel
theorem dX7_about_54 : decode cX7_about 54 = .ok (.aload_n 3, 1) := by decide +kernel
theorem dX7_about_55 : decode cX7_about 55 = .ok (.getfield 162, 3) := by decide +kernel
theorem dX7_about_58 : decode cX7_about 58 = .ok (.iconst 2, 1) := by decide +kernel
theorem dX7_about_59 : decode cX7_about 59 = .ok (.if_icmp .ne 7, 3) := by decide +kernel
theorem dX7_about_62 : decode cX7_about 62 = .ok (.iconst 0, 1) := by decide +kernel
theorem dX7_about_63 : decode cX7_about 63 = .ok (.goto 7, 3) := by decide +kernel
theorem dX7_about_66 : decode cX7_about 66 = .ok (.aload_n 3, 1) := by decide +kernel
theorem dX7_about_67 : decode cX7_about 67 = .ok (.getfield 165, 3) := by decide +kernel
theorem dX7_about_70 : decode cX7_about 70 = .ok (.ireturn, 1) := by decide +kernel
theorem dX7_about_71 : decode cX7_about 71 = .ok (.aload_n 3, 1) := by decide +kernel
theorem dX7_about_72 : decode cX7_about 72 = .ok (.invokevirtual 168, 3) := by decide +kernel
theorem dX7_about_75 : decode cX7_about 75 = .ok (.ifCond .ne 20, 3) := by decide +kernel
theorem dX7_about_78 : decode cX7_about 78 = .ok (.aload_n 0, 1) := by decide +kernel
theorem dX7_about_79 : decode cX7_about 79 = .ok (.getfield 37, 3) := by decide +kernel
theorem dX7_about_82 : decode cX7_about 82 = .ok (.aload_n 0, 1) := by decide +kernel
theorem dX7_about_83 : decode cX7_about 83 = .ok (.getfield 19, 3) := by decide +kernel
theorem dX7_about_86 : decode cX7_about 86 = .ok (.iload_n 1, 1) := by decide +kernel
theorem dX7_about_87 : decode cX7_about 87 = .ok (.ldc 47, 2) := by decide +kernel
theorem dX7_about_89 : decode cX7_about 89 = .ok (.invokevirtual 93, 3) := by decide +kernel
theorem dX7_about_92 : decode cX7_about 92 = .ok (.ifCond .ne 7, 3) := by decide +kernel
theorem dX7_about_95 : decode cX7_about 95 = .ok (.iconst 0, 1) := by decide +kernel
theorem dX7_about_96 : decode cX7_about 96 = .ok (.goto 13, 3) := by decide +kernel
theorem dX7_about_99 : decode cX7_about 99 = .ok (.aload_n 0, 1) := by decide +kernel
theorem dX7_about_100 : decode cX7_about 100 = .ok (.getfield 37, 3) := by decide +kernel
theorem dX7_about_103 : decode cX7_about 103 = .ok (.getfield 99, 3) := by decide +kernel
theorem dX7_about_106 : decode cX7_about 106 = .ok (.invokevirtual 43, 3) := by decide +kernel
theorem dX7_about_109 : decode cX7_about 109 = .ok (.ireturn, 1) := by decide +kernel
theorem dX7_about_110 : decode cX7_about 110 = .ok (.new 59, 3) := by decide +kernel
theorem dX7_about_113 : decode cX7_about 113 = .ok (.dup, 1) := by decide +kernel
theorem dX7_about_114 : decode cX7_about 114 = .ok (.ldc 172, 2) := by decide +kernel
theorem dX7_about_116 : decode cX7_about 116 = .ok (.invokespecial 63, 3) := by decide +kernel
theorem dX7_about_119 : decode cX7_about 119 = .ok (.athrow, 1) := by decide +kernel
theorem dX7_number_0 : decode cX7_number 0 = .ok (.aload_n 0, 1) := by decide +kernel
theorem dX7_number_1 : decode cX7_number 1 = .ok (.iload_n 1, 1) := by decide +kernel
theorem dX7_number_2 : decode cX7_number 2 = .ok (.invokevirtual 90, 3) := by decide +kernel
theorem dX7_number_5 : decode cX7_number 5 = .ok (.aload_n 0, 1) := by decide +kernel
theorem dX7_number_6 : decode cX7_number 6 = .ok (.getfield 19, 3) := by decide +kernel
theorem dX7_number_9 : decode cX7_number 9 = .ok (.iload_n 1, 1) := by decide +kernel
theorem dX7_number_10 : decode cX7_number 10 = .ok (.invokevirtual 152, 3) := by decide +kernel
theorem dX7_number_13 : decode cX7_number 13 = .ok (.astore_n 2, 1) := by decide +kernel
theorem dX7_number_14 : decode cX7_number 14 = .ok (.aload_n 2, 1) := by decide +kernel
theorem dX7_number_15 : decode cX7_number 15 = .ok (.getfield 162, 3) := by decide +kernel
theorem dX7_number_18 : decode cX7_number 18 = .ok (.iconst 2, 1) := by decide +kernel
theorem dX7_number_19 : decode cX7_number 19 = .ok (.if_icmp .eq 38, 3) := by decide +kernel
theorem dX7_number_22 : decode cX7_number 22 = .ok (.aload_n 2, 1) := by decide +kernel
theorem dX7_number_23 : decode cX7_number 23 = .ok (.getfield 162, 3) := by decide +kernel
theorem dX7_number_26 : decode cX7_number 26 = .ok (.iconst 3, 1) := by decide +kernel
theorem dX7_number_27 : decode cX7_number 27 = .ok (.if_icmp .eq 30, 3) := by decide +kernel
theorem dX7_number_30 : decode cX7_number 30 = .ok (.aload_n 2, 1) := by decide +kernel
theorem dX7_number_31 : decode cX7_number 31 = .ok (.getfield 162, 3) := by decide +kernel
theorem dX7_number_34 : decode cX7_number 34 = .ok (.iconst 4, 1) := by decide +kernel
theorem dX7_number_35 : decode cX7_number 35 = .ok (.if_icmp .eq 22, 3) := by decide +kernel
theorem dX7_number_38 : decode cX7_number 38 = .ok (.aload_n 2, 1) := by decide +kernel
theorem dX7_number_39 : decode cX7_number 39 = .ok (.getfield 162, 3) := by decide +kernel
theorem dX7_number_42 : decode cX7_number 42 = .ok (.bipush 10, 2) := by decide +kernel
theorem dX7_number_44 : decode cX7_number 44 = .ok (.if_icmp .eq 13, 3) := by decide +kernel
theorem dX7_number_47 : decode cX7_number 47 = .ok (.new 59, 3) := by decide +kernel
theorem dX7_number_50 : decode cX7_number 50 = .ok (.dup, 1) := by decide +kernel
theorem dX7_number_51 : decode cX7_number 51 = .ok (.ldc 174, 2) := by decide +kernel
theorem dX7_number_53 : decode cX7_number 53 = .ok (.invokespecial 63, 3) := by decide +kernel
theorem dX7_number_56 : decode cX7_number 56 = .ok (.athrow, 1) := by decide +kernel
theorem dX7_number_57 : decode cX7_number 57 = .ok (.aload_n 2, 1) := by decide +kernel
theorem dX7_number_58 : decode cX7_number 58 = .ok (.invokevirtual 176, 3) := by decide +kernel
theorem dX7_number_61 : decode cX7_number 61 = .ok (.ifCond .eq 13, 3) := by decide +kernel
theorem dX7_number_64 : decode cX7_number 64 = .ok (.new 179, 3) := by decide +kernel
theorem dX7_number_67 : decode cX7_number 67 = .ok (.dup, 1) := by decide +kernel
theorem dX7_number_68 : decode cX7_number 68 = .ok (.ldc 181, 2) := by decide +kernel
theorem dX7_number_70 : decode cX7_number 70 = .ok (.invokespecial 183, 3) := by decide +kernel
theorem dX7_number_73 : decode cX7_number 73 = .ok (.athrow, 1) := by decide +kernel
theorem dX7_number_74 : decode cX7_number 74 = .ok (.aload_n 2, 1) := by decide +kernel
theorem dX7_number_75 : decode cX7_number 75 = .ok (.getfield 184, 3) := by decide +kernel
theorem dX7_number_78 : decode cX7_number 78 = .ok (.lreturn, 1) := by decide +kernel
theorem dX7_part_0 : decode cX7_part 0 = .ok (.aload_n 0, 1) := by decide +kernel
theorem dX7_part_1 : decode cX7_part 1 = .ok (.iload_n 1, 1) := by decide +kernel
theorem dX7_part_2 : decode cX7_part 2 = .ok (.invokevirtual 90, 3) := by decide +kernel
theorem dX7_part_5 : decode cX7_part 5 = .ok (.aload_n 0, 1) := by decide +kernel
theorem dX7_part_6 : decode cX7_part 6 = .ok (.getfield 19, 3) := by decide +kernel
theorem dX7_part_9 : decode cX7_part 9 = .ok (.iload_n 1, 1) := by decide +kernel
theorem dX7_part_10 : decode cX7_part 10 = .ok (.invokevirtual 152, 3) := by decide +kernel
theorem dX7_part_13 : decode cX7_part 13 = .ok (.astore_n 3, 1) := by decide +kernel
theorem dX7_part_14 : decode cX7_part 14 = .ok (.iload_n 2, 1) := by decide +kernel
theorem dX7_part_15 : decode cX7_part 15 = .ok (.ifCond .lt 23, 3) := by decide +kernel
theorem dX7_part_18 : decode cX7_part 18 = .ok (.iload_n 2, 1) := by decide +kernel
theorem dX7_part_19 : decode cX7_part 19 = .ok (.aload_n 3, 1) := by decide +kernel
theorem dX7_part_20 : decode cX7_part 20 = .ok (.getfield 188, 3) := by decide +kernel
theorem dX7_part_23 : decode cX7_part 23 = .ok (.arraylength, 1) := by decide +kernel
theorem dX7_part_24 : decode cX7_part 24 = .ok (.if_icmp .ge 14, 3) := by decide +kernel
theorem dX7_part_27 : decode cX7_part 27 = .ok (.aload_n 3, 1) := by decide +kernel
theorem dX7_part_28 : decode cX7_part 28 = .ok (.getfield 188, 3) := by decide +kernel
theorem dX7_part_31 : decode cX7_part 31 = .ok (.iload_n 2, 1) := by decide +kernel
theorem dX7_part_32 : decode cX7_part 32 = .ok (.baload, 1) := by decide +kernel
theorem dX7_part_33 : decode cX7_part 33 = .ok (.sipush 255, 3) := by decide +kernel
theorem dX7_part_36 : decode cX7_part 36 = .ok (.iand, 1) := by decide +kernel
theorem dX7_part_37 : decode cX7_part 37 = .ok (.ireturn, 1) := by decide +kernel
theorem dX7_part_38 : decode cX7_part 38 = .ok (.iload_n 2, 1) := by decide +kernel
theorem dX7_part_39 : decode cX7_part 39 = .ok (.ifCond .lt 18, 3) := by decide +kernel
theorem dX7_part_42 : decode cX7_part 42 = .ok (.iload_n 2, 1) := by decide +kernel
theorem dX7_part_43 : decode cX7_part 43 = .ok (.aload_n 3, 1) := by decide +kernel
theorem dX7_part_44 : decode cX7_part 44 = .ok (.getfield 191, 3) := by decide +kernel
theorem dX7_part_47 : decode cX7_part 47 = .ok (.if_icmp .ge 10, 3) := by decide +kernel
theorem dX7_part_50 : decode cX7_part 50 = .ok (.aload_n 3, 1) := by decide +kernel
theorem dX7_part_51 : decode cX7_part 51 = .ok (.getfield 194, 3) := by decide +kernel
theorem dX7_part_54 : decode cX7_part 54 = .ok (.iload_n 2, 1) := by decide +kernel
theorem dX7_part_55 : decode cX7_part 55 = .ok (.iaload, 1) := by decide +kernel
theorem dX7_part_56 : decode cX7_part 56 = .ok (.ireturn, 1) := by decide +kernel
theorem dX7_part_57 : decode cX7_part 57 = .ok (.new 72, 3) := by decide +kernel
theorem dX7_part_60 : decode cX7_part 60 = .ok (.dup, 1) := by decide +kernel
theorem dX7_part_61 : decode cX7_part 61 = .ok (.ldc 198, 2) := by decide +kernel
theorem dX7_part_63 : decode cX7_part 63 = .ok (.invokespecial 76, 3) := by decide +kernel
theorem dX7_part_66 : decode cX7_part 66 = .ok (.athrow, 1) := by decide +kernel
theorem dX7_same_0 : decode cX7_same 0 = .ok (.aload_n 0, 1) := by decide +kernel
theorem dX7_same_1 : decode cX7_same 1 = .ok (.iload_n 1, 1) := by decide +kernel
theorem dX7_same_2 : decode cX7_same 2 = .ok (.invokevirtual 90, 3) := by decide +kernel
theorem dX7_same_5 : decode cX7_same 5 = .ok (.aload_n 0, 1) := by decide +kernel
theorem dX7_same_6 : decode cX7_same 6 = .ok (.iload_n 2, 1) := by decide +kernel
theorem dX7_same_7 : decode cX7_same 7 = .ok (.invokevirtual 90, 3) := by decide +kernel
theorem dX7_same_10 : decode cX7_same 10 = .ok (.aload_n 0, 1) := by decide +kernel
theorem dX7_same_11 : decode cX7_same 11 = .ok (.getfield 37, 3) := by decide +kernel
theorem dX7_same_14 : decode cX7_same 14 = .ok (.aload_n 0, 1) := by decide +kernel
theorem dX7_same_15 : decode cX7_same 15 = .ok (.getfield 19, 3) := by decide +kernel
theorem dX7_same_18 : decode cX7_same 18 = .ok (.iload_n 1, 1) := by decide +kernel
theorem dX7_same_19 : decode cX7_same 19 = .ok (.ldc 47, 2) := by decide +kernel
theorem dX7_same_21 : decode cX7_same 21 = .ok (.invokevirtual 93, 3) := by decide +kernel
theorem dX7_same_24 : decode cX7_same 24 = .ok (.ifCond .eq 20, 3) := by decide +kernel
theorem dX7_same_27 : decode cX7_same 27 = .ok (.aload_n 0, 1) := by decide +kernel
theorem dX7_same_28 : decode cX7_same 28 = .ok (.getfield 40, 3) := by decide +kernel
theorem dX7_same_31 : decode cX7_same 31 = .ok (.aload_n 0, 1) := by decide +kernel
theorem dX7_same_32 : decode cX7_same 32 = .ok (.getfield 19, 3) := by decide +kernel
theorem dX7_same_35 : decode cX7_same 35 = .ok (.iload_n 2, 1) := by decide +kernel
theorem dX7_same_36 : decode cX7_same 36 = .ok (.ldc 47, 2) := by decide +kernel
theorem dX7_same_38 : decode cX7_same 38 = .ok (.invokevirtual 93, 3) := by decide +kernel
theorem dX7_same_41 : decode cX7_same 41 = .ok (.ifCond .ne 13, 3) := by decide +kernel
theorem dX7_same_44 : decode cX7_same 44 = .ok (.new 48, 3) := by decide +kernel
theorem dX7_same_47 : decode cX7_same 47 = .ok (.dup, 1) := by decide +kernel
theorem dX7_same_48 : decode cX7_same 48 = .ok (.ldc 200, 2) := by decide +kernel
theorem dX7_same_50 : decode cX7_same 50 = .ok (.invokespecial 52, 3) := by decide +kernel
theorem dX7_same_53 : decode cX7_same 53 = .ok (.athrow, 1) := by decide +kernel
theorem dX7_same_54 : decode cX7_same 54 = .ok (.aload_n 0, 1) := by decide +kernel
theorem dX7_same_55 : decode cX7_same 55 = .ok (.getfield 37, 3) := by decide +kernel
theorem dX7_same_58 : decode cX7_same 58 = .ok (.getfield 99, 3) := by decide +kernel
theorem dX7_same_61 : decode cX7_same 61 = .ok (.aload_n 0, 1) := by decide +kernel
theorem dX7_same_62 : decode cX7_same 62 = .ok (.getfield 40, 3) := by decide +kernel
theorem dX7_same_65 : decode cX7_same 65 = .ok (.getfield 99, 3) := by decide +kernel
theorem dX7_same_68 : decode cX7_same 68 = .ok (.invokevirtual 202, 3) := by decide +kernel
theorem dX7_same_71 : decode cX7_same 71 = .ok (.ireturn, 1) := by decide +kernel
theorem dX7_find_0 : decode cX7_find 0 = .ok (.aload_n 0, 1) := by decide +kernel
theorem dX7_find_1 : decode cX7_find 1 = .ok (.iload_n 1, 1) := by decide +kernel
theorem dX7_find_2 : decode cX7_find 2 = .ok (.invokevirtual 90, 3) := by decide +kernel
theorem dX7_find_5 : decode cX7_find 5 = .ok (.aload_n 0, 1) := by decide +kernel
theorem dX7_find_6 : decode cX7_find 6 = .ok (.iload_n 2, 1) := by decide +kernel
theorem dX7_find_7 : decode cX7_find 7 = .ok (.invokevirtual 90, 3) := by decide +kernel
theorem dX7_find_10 : decode cX7_find 10 = .ok (.aload_n 0, 1) := by decide +kernel
theorem dX7_find_11 : decode cX7_find 11 = .ok (.iload_n 1, 1) := by decide +kernel
theorem dX7_find_12 : decode cX7_find 12 = .ok (.bipush 8, 2) := by decide +kernel
theorem dX7_find_14 : decode cX7_find 14 = .ok (.invokevirtual 142, 3) := by decide +kernel
theorem dX7_find_17 : decode cX7_find 17 = .ok (.aload_n 0, 1) := by decide +kernel
theorem dX7_find_18 : decode cX7_find 18 = .ok (.getfield 37, 3) := by decide +kernel
theorem dX7_find_21 : decode cX7_find 21 = .ok (.aload_n 0, 1) := by decide +kernel
theorem dX7_find_22 : decode cX7_find 22 = .ok (.getfield 19, 3) := by decide +kernel
theorem dX7_find_25 : decode cX7_find 25 = .ok (.iload_n 2, 1) := by decide +kernel
theorem dX7_find_26 : decode cX7_find 26 = .ok (.ldc 47, 2) := by decide +kernel
theorem dX7_find_28 : decode cX7_find 28 = .ok (.invokevirtual 93, 3) := by decide +kernel
theorem dX7_find_31 : decode cX7_find 31 = .ok (.ifCond .ne 13, 3) := by decide +kernel
theorem dX7_find_34 : decode cX7_find 34 = .ok (.new 48, 3) := by decide +kernel
theorem dX7_find_37 : decode cX7_find 37 = .ok (.dup, 1) := by decide +kernel
theorem dX7_find_38 : decode cX7_find 38 = .ok (.ldc 206, 2) := by decide +kernel
theorem dX7_find_40 : decode cX7_find 40 = .ok (.invokespecial 52, 3) := by decide +kernel
theorem dX7_find_43 : decode cX7_find 43 = .ok (.athrow, 1) := by decide +kernel
theorem dX7_find_44 : decode cX7_find 44 = .ok (.aload_n 0, 1) := by decide +kernel
theorem dX7_find_45 : decode cX7_find 45 = .ok (.getfield 19, 3) := by decide +kernel
theorem dX7_find_48 : decode cX7_find 48 = .ok (.iload_n 1, 1) := by decide +kernel
theorem dX7_find_49 : decode cX7_find 49 = .ok (.invokevirtual 152, 3) := by decide +kernel
theorem dX7_find_52 : decode cX7_find 52 = .ok (.astore_n 3, 1) := by decide +kernel
theorem dX7_find_53 : decode cX7_find 53 = .ok (.aload_n 0, 1) := by decide +kernel
theorem dX7_find_54 : decode cX7_find 54 = .ok (.getfield 37, 3) := by decide +kernel
theorem dX7_find_57 : decode cX7_find 57 = .ok (.getfield 99, 3) := by decide +kernel
theorem dX7_find_60 : decode cX7_find 60 = .ok (.invokevirtual 43, 3) := by decide +kernel
theorem dX7_find_63 : decode cX7_find 63 = .ok (.istore 4, 2) := by decide +kernel
theorem dX7_find_65 : decode cX7_find 65 = .ok (.iconst 0, 1) := by decide +kernel
theorem dX7_find_66 : decode cX7_find 66 = .ok (.istore 5, 2) := by decide +kernel
theorem dX7_find_68 : decode cX7_find 68 = .ok (.iload 5, 2) := by decide +kernel
theorem dX7_find_70 : decode cX7_find 70 = .ok (.iconst 1, 1) := by decide +kernel
theorem dX7_find_71 : decode cX7_find 71 = .ok (.iadd, 1) := by decide +kernel
theorem dX7_find_72 : decode cX7_find 72 = .ok (.aload_n 3, 1) := by decide +kernel
theorem dX7_find_73 : decode cX7_find 73 = .ok (.getfield 191, 3) := by decide +kernel
theorem dX7_find_76 : decode cX7_find 76 = .ok (.if_icmp .ge 62, 3) := by decide +kernel
theorem dX7_find_79 : decode cX7_find 79 = .ok (.aload_n 0, 1) := by decide +kernel
theorem dX7_find_80 : decode cX7_find 80 = .ok (.getfield 40, 3) := by decide +kernel
theorem dX7_find_83 : decode cX7_find 83 = .ok (.aload_n 0, 1) := by decide +kernel
theorem dX7_find_84 : decode cX7_find 84 = .ok (.getfield 19, 3) := by decide +kernel
theorem dX7_find_87 : decode cX7_find 87 = .ok (.aload_n 3, 1) := by decide +kernel
theorem dX7_find_88 : decode cX7_find 88 = .ok (.getfield 194, 3) := by decide +kernel
theorem dX7_find_91 : decode cX7_find 91 = .ok (.iload 5, 2) := by decide +kernel
theorem dX7_find_93 : decode cX7_find 93 = .ok (.iaload, 1) := by decide +kernel
theorem dX7_find_94 : decode cX7_find 94 = .ok (.iload 4, 2) := by decide +kernel
theorem dX7_find_96 : decode cX7_find 96 = .ok (.invokevirtual 93, 3) := by decide +kernel
theorem dX7_find_99 : decode cX7_find 99 = .ok (.ifCond .eq 33, 3) := by decide +kernel
theorem dX7_find_102 : decode cX7_find 102 = .ok (.aload_n 0, 1) := by decide +kernel
theorem dX7_find_103 : decode cX7_find 103 = .ok (.getfield 37, 3) := by decide +kernel
theorem dX7_find_106 : decode cX7_find 106 = .ok (.getfield 99, 3) := by decide +kernel
theorem dX7_find_109 : decode cX7_find 109 = .ok (.aload_n 0, 1) := by decide +kernel
theorem dX7_find_110 : decode cX7_find 110 = .ok (.getfield 40, 3) := by decide +kernel
theorem dX7_find_113 : decode cX7_find 113 = .ok (.getfield 99, 3) := by decide +kernel
theorem dX7_find_116 : decode cX7_find 116 = .ok (.invokevirtual 202, 3) := by decide +kernel
theorem dX7_find_119 : decode cX7_find 119 = .ok (.ifCond .eq 13, 3) := by decide +kernel
theorem dX7_find_122 : decode cX7_find 122 = .ok (.aload_n 3, 1) := by decide +kernel
theorem dX7_find_123 : decode cX7_find 123 = .ok (.getfield 194, 3) := by decide +kernel
theorem dX7_find_126 : decode cX7_find 126 = .ok (.iload 5, 2) := by decide +kernel
theorem dX7_find_128 : decode cX7_find 128 = .ok (.iconst 1, 1) := by decide +kernel
theorem dX7_find_129 : decode cX7_find 129 = .ok (.iadd, 1) := by decide +kernel
theorem dX7_find_130 : decode cX7_find 130 = .ok (.iaload, 1) := by decide +kernel
theorem dX7_find_131 : decode cX7_find 131 = .ok (.ireturn, 1) := by decide +kernel
theorem dX7_find_132 : decode cX7_find 132 = .ok (.iinc 5 2, 3) := by decide +kernel
theorem dX7_find_135 : decode cX7_find 135 = .ok (.goto (-67), 3) := by decide +kernel
theorem dX7_find_138 : decode cX7_find 138 = .ok (.iconst (-1), 1) := by decide +kernel
theorem dX7_find_139 : decode cX7_find 139 = .ok (.ireturn, 1) := by decide +kernel
theorem dX7_count_0 : decode cX7_count 0 = .ok (.iload_n 1, 1) := by decide +kernel
theorem dX7_count_1 : decode cX7_count 1 = .ok (.tableswitch 78 0 4 #[35, 43, 51, 59, 67], 35) := by decide +kernel
theorem dX7_count_36 : decode cX7_count 36 = .ok (.aload_n 0, 1) := by decide +kernel
theorem dX7_count_37 : decode cX7_count 37 = .ok (.getfield 19, 3) := by decide +kernel
theorem dX7_count_40 : decode cX7_count 40 = .ok (.invokevirtual 208, 3) := by decide +kernel
theorem dX7_count_43 : decode cX7_count 43 = .ok (.ireturn, 1) := by decide +kernel
theorem dX7_count_44 : decode cX7_count 44 = .ok (.aload_n 0, 1) := by decide +kernel
theorem dX7_count_45 : decode cX7_count 45 = .ok (.getfield 19, 3) := by decide +kernel
theorem dX7_count_48 : decode cX7_count 48 = .ok (.getfield 209, 3) := by decide +kernel
theorem dX7_count_51 : decode cX7_count 51 = .ok (.ireturn, 1) := by decide +kernel
theorem dX7_count_52 : decode cX7_count 52 = .ok (.aload_n 0, 1) := by decide +kernel
theorem dX7_count_53 : decode cX7_count 53 = .ok (.getfield 19, 3) := by decide +kernel
theorem dX7_count_56 : decode cX7_count 56 = .ok (.getfield 212, 3) := by decide +kernel
theorem dX7_count_59 : decode cX7_count 59 = .ok (.ireturn, 1) := by decide +kernel
theorem dX7_count_60 : decode cX7_count 60 = .ok (.aload_n 0, 1) := by decide +kernel
theorem dX7_count_61 : decode cX7_count 61 = .ok (.getfield 10, 3) := by decide +kernel
theorem dX7_count_64 : decode cX7_count 64 = .ok (.invokevirtual 43, 3) := by decide +kernel
theorem dX7_count_67 : decode cX7_count 67 = .ok (.ireturn, 1) := by decide +kernel
theorem dX7_count_68 : decode cX7_count 68 = .ok (.aload_n 0, 1) := by decide +kernel
theorem dX7_count_69 : decode cX7_count 69 = .ok (.getfield 33, 3) := by decide +kernel
theorem dX7_count_72 : decode cX7_count 72 = .ok (.getfield 99, 3) := by decide +kernel
theorem dX7_count_75 : decode cX7_count 75 = .ok (.invokevirtual 43, 3) := by decide +kernel
theorem dX7_count_78 : decode cX7_count 78 = .ok (.ireturn, 1) := by decide +kernel
theorem dX7_count_79 : decode cX7_count 79 = .ok (.new 59, 3) := by decide +kernel
theorem dX7_count_82 : decode cX7_count 82 = .ok (.dup, 1) := by decide +kernel
theorem dX7_count_83 : decode cX7_count 83 = .ok (.ldc 215, 2) := by decide +kernel
theorem dX7_count_85 : decode cX7_count 85 = .ok (.invokespecial 63, 3) := by decide +kernel
theorem dX7_count_88 : decode cX7_count 88 = .ok (.athrow, 1) := by decide +kernel
theorem dX7_clear_0 : decode cX7_clear 0 = .ok (.aload_n 0, 1) := by decide +kernel
theorem dX7_clear_1 : decode cX7_clear 1 = .ok (.getfield 19, 3) := by decide +kernel
theorem dX7_clear_4 : decode cX7_clear 4 = .ok (.invokevirtual 208, 3) := by decide +kernel
theorem dX7_clear_7 : decode cX7_clear 7 = .ok (.istore_n 1, 1) := by decide +kernel
theorem dX7_clear_8 : decode cX7_clear 8 = .ok (.aload_n 0, 1) := by decide +kernel
theorem dX7_clear_9 : decode cX7_clear 9 = .ok (.getfield 19, 3) := by decide +kernel
theorem dX7_clear_12 : decode cX7_clear 12 = .ok (.iconst 0, 1) := by decide +kernel
theorem dX7_clear_13 : decode cX7_clear 13 = .ok (.iconst 0, 1) := by decide +kernel
theorem dX7_clear_14 : decode cX7_clear 14 = .ok (.iconst 0, 1) := by decide +kernel
theorem dX7_clear_15 : decode cX7_clear 15 = .ok (.invokevirtual 217, 3) := by decide +kernel
theorem dX7_clear_18 : decode cX7_clear 18 = .ok (.iload_n 1, 1) := by decide +kernel
theorem dX7_clear_19 : decode cX7_clear 19 = .ok (.ireturn, 1) := by decide +kernel
theorem dX7_needValue_0 : decode cX7_needValue 0 = .ok (.aload_n 0, 1) := by decide +kernel
theorem dX7_needValue_1 : decode cX7_needValue 1 = .ok (.getfield 19, 3) := by decide +kernel
theorem dX7_needValue_4 : decode cX7_needValue 4 = .ok (.iload_n 1, 1) := by decide +kernel
theorem dX7_needValue_5 : decode cX7_needValue 5 = .ok (.invokevirtual 221, 3) := by decide +kernel
theorem dX7_needValue_8 : decode cX7_needValue 8 = .ok (.ifCond .ne 13, 3) := by decide +kernel
theorem dX7_needValue_11 : decode cX7_needValue 11 = .ok (.new 72, 3) := by decide +kernel
theorem dX7_needValue_14 : decode cX7_needValue 14 = .ok (.dup, 1) := by decide +kernel
theorem dX7_needValue_15 : decode cX7_needValue 15 = .ok (.ldc 225, 2) := by decide +kernel
theorem dX7_needValue_17 : decode cX7_needValue 17 = .ok (.invokespecial 76, 3) := by decide +kernel
theorem dX7_needValue_20 : decode cX7_needValue 20 = .ok (.athrow, 1) := by decide +kernel
theorem dX7_needValue_21 : decode cX7_needValue 21 = .ok (.return_, 1) := by decide +kernel
theorem dX7_needKind_0 : decode cX7_needKind 0 = .ok (.aload_n 0, 1) := by decide +kernel
theorem dX7_needKind_1 : decode cX7_needKind 1 = .ok (.getfield 19, 3) := by decide +kernel
theorem dX7_needKind_4 : decode cX7_needKind 4 = .ok (.iload_n 1, 1) := by decide +kernel
theorem dX7_needKind_5 : decode cX7_needKind 5 = .ok (.invokevirtual 152, 3) := by decide +kernel
theorem dX7_needKind_8 : decode cX7_needKind 8 = .ok (.getfield 162, 3) := by decide +kernel
theorem dX7_needKind_11 : decode cX7_needKind 11 = .ok (.iload_n 2, 1) := by decide +kernel
theorem dX7_needKind_12 : decode cX7_needKind 12 = .ok (.if_icmp .eq 13, 3) := by decide +kernel
theorem dX7_needKind_15 : decode cX7_needKind 15 = .ok (.new 59, 3) := by decide +kernel
theorem dX7_needKind_18 : decode cX7_needKind 18 = .ok (.dup, 1) := by decide +kernel
theorem dX7_needKind_19 : decode cX7_needKind 19 = .ok (.ldc 227, 2) := by decide +kernel
theorem dX7_needKind_21 : decode cX7_needKind 21 = .ok (.invokespecial 63, 3) := by decide +kernel
theorem dX7_needKind_24 : decode cX7_needKind 24 = .ok (.athrow, 1) := by decide +kernel
theorem dX7_needKind_25 : decode cX7_needKind 25 = .ok (.return_, 1) := by decide +kernel
theorem dX7_needRoom_0 : decode cX7_needRoom 0 = .ok (.aload_n 0, 1) := by decide +kernel
theorem dX7_needRoom_1 : decode cX7_needRoom 1 = .ok (.getfield 19, 3) := by decide +kernel
theorem dX7_needRoom_4 : decode cX7_needRoom 4 = .ok (.iload_n 1, 1) := by decide +kernel
theorem dX7_needRoom_5 : decode cX7_needRoom 5 = .ok (.invokevirtual 229, 3) := by decide +kernel
theorem dX7_needRoom_8 : decode cX7_needRoom 8 = .ok (.ifCond .ne 13, 3) := by decide +kernel
theorem dX7_needRoom_11 : decode cX7_needRoom 11 = .ok (.new 48, 3) := by decide +kernel
theorem dX7_needRoom_14 : decode cX7_needRoom 14 = .ok (.dup, 1) := by decide +kernel
theorem dX7_needRoom_15 : decode cX7_needRoom 15 = .ok (.ldc 232, 2) := by decide +kernel
theorem dX7_needRoom_17 : decode cX7_needRoom 17 = .ok (.invokespecial 52, 3) := by decide +kernel
theorem dX7_needRoom_20 : decode cX7_needRoom 20 = .ok (.athrow, 1) := by decide +kernel
theorem dX7_needRoom_21 : decode cX7_needRoom 21 = .ok (.return_, 1) := by decide +kernel
theorem dX7_needParts_0 : decode cX7_needParts 0 = .ok (.aload_n 0, 1) := by decide +kernel
theorem dX7_needParts_1 : decode cX7_needParts 1 = .ok (.getfield 19, 3) := by decide +kernel
theorem dX7_needParts_4 : decode cX7_needParts 4 = .ok (.iload_n 1, 1) := by decide +kernel
theorem dX7_needParts_5 : decode cX7_needParts 5 = .ok (.i2l, 1) := by decide +kernel
theorem dX7_needParts_6 : decode cX7_needParts 6 = .ok (.invokevirtual 234, 3) := by decide +kernel
theorem dX7_needParts_9 : decode cX7_needParts 9 = .ok (.ifCond .ne 13, 3) := by decide +kernel
theorem dX7_needParts_12 : decode cX7_needParts 12 = .ok (.new 48, 3) := by decide +kernel
theorem dX7_needParts_15 : decode cX7_needParts 15 = .ok (.dup, 1) := by decide +kernel
theorem dX7_needParts_16 : decode cX7_needParts 16 = .ok (.ldc 238, 2) := by decide +kernel
theorem dX7_needParts_18 : decode cX7_needParts 18 = .ok (.invokespecial 52, 3) := by decide +kernel
theorem dX7_needParts_21 : decode cX7_needParts 21 = .ok (.athrow, 1) := by decide +kernel
theorem dX7_needParts_22 : decode cX7_needParts 22 = .ok (.return_, 1) := by decide +kernel
theorem dX7_keepTape_0 : decode cX7_keepTape 0 = .ok (.aload_n 0, 1) := by decide +kernel
theorem dX7_keepTape_1 : decode cX7_keepTape 1 = .ok (.aload_n 0, 1) := by decide +kernel
theorem dX7_keepTape_2 : decode cX7_keepTape 2 = .ok (.getfield 10, 3) := by decide +kernel
theorem dX7_keepTape_5 : decode cX7_keepTape 5 = .ok (.invokevirtual 43, 3) := by decide +kernel
theorem dX7_keepTape_8 : decode cX7_keepTape 8 = .ok (.invokevirtual 108, 3) := by decide +kernel
theorem dX7_keepTape_11 : decode cX7_keepTape 11 = .ok (.aload_n 0, 1) := by decide +kernel
theorem dX7_keepTape_12 : decode cX7_keepTape 12 = .ok (.getfield 19, 3) := by decide +kernel
theorem dX7_keepTape_15 : decode cX7_keepTape 15 = .ok (.iload_n 1, 1) := by decide +kernel
theorem dX7_keepTape_16 : decode cX7_keepTape 16 = .ok (.lconst 0, 1) := by decide +kernel
theorem dX7_keepTape_17 : decode cX7_keepTape 17 = .ok (.iload_n 2, 1) := by decide +kernel
theorem dX7_keepTape_18 : decode cX7_keepTape 18 = .ok (.aload_n 0, 1) := by decide +kernel
theorem dX7_keepTape_19 : decode cX7_keepTape 19 = .ok (.getfield 10, 3) := by decide +kernel
theorem dX7_keepTape_22 : decode cX7_keepTape 22 = .ok (.iconst 0, 1) := by decide +kernel
theorem dX7_keepTape_23 : decode cX7_keepTape 23 = .ok (.aload_n 0, 1) := by decide +kernel
theorem dX7_keepTape_24 : decode cX7_keepTape 24 = .ok (.getfield 10, 3) := by decide +kernel
theorem dX7_keepTape_27 : decode cX7_keepTape 27 = .ok (.invokevirtual 43, 3) := by decide +kernel
theorem dX7_keepTape_30 : decode cX7_keepTape 30 = .ok (.invokevirtual 240, 3) := by decide +kernel
theorem dX7_keepTape_33 : decode cX7_keepTape 33 = .ok (.invokevirtual 115, 3) := by decide +kernel
theorem dX7_keepTape_36 : decode cX7_keepTape 36 = .ok (.istore_n 3, 1) := by decide +kernel
theorem dX7_keepTape_37 : decode cX7_keepTape 37 = .ok (.aload_n 0, 1) := by decide +kernel
theorem dX7_keepTape_38 : decode cX7_keepTape 38 = .ok (.getfield 10, 3) := by decide +kernel
theorem dX7_keepTape_41 : decode cX7_keepTape 41 = .ok (.iconst 0, 1) := by decide +kernel
theorem dX7_keepTape_42 : decode cX7_keepTape 42 = .ok (.invokevirtual 64, 3) := by decide +kernel
theorem dX7_keepTape_45 : decode cX7_keepTape 45 = .ok (.iload_n 3, 1) := by decide +kernel
theorem dX7_keepTape_46 : decode cX7_keepTape 46 = .ok (.ireturn, 1) := by decide +kernel
