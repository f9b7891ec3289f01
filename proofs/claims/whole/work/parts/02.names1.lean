theorem dX0_init_15 : decode cX0_init 15 = .ok (.iload_n 3, 1) := by decide +kernel
theorem dX0_init_16 : decode cX0_init 16 = .ok (.putfield 18, 3) := by decide +kernel
theorem dX0_init_19 : decode cX0_init 19 = .ok (.aload_n 0, 1) := by decide +kernel
theorem dX0_init_20 : decode cX0_init 20 = .ok (.iload 4, 2) := by decide +kernel
theorem dX0_init_22 : decode cX0_init 22 = .ok (.putfield 21, 3) := by decide +kernel
theorem dX0_init_25 : decode cX0_init 25 = .ok (.return_, 1) := by decide +kernel
theorem dX0_setToField_0 : decode cX0_setToField 0 = .ok (.aload_n 0, 1) := by decide +kernel
theorem dX0_setToField_1 : decode cX0_setToField 1 = .ok (.iconst 0, 1) := by decide +kernel
theorem dX0_setToField_2 : decode cX0_setToField 2 = .ok (.putfield 9, 3) := by decide +kernel
theorem dX0_setToField_5 : decode cX0_setToField 5 = .ok (.aload_n 0, 1) := by decide +kernel
theorem dX0_setToField_6 : decode cX0_setToField 6 = .ok (.bipush 63, 2) := by decide +kernel
theorem dX0_setToField_8 : decode cX0_setToField 8 = .ok (.putfield 15, 3) := by decide +kernel
theorem dX0_setToField_11 : decode cX0_setToField 11 = .ok (.aload_n 0, 1) := by decide +kernel
theorem dX0_setToField_12 : decode cX0_setToField 12 = .ok (.iconst 0, 1) := by decide +kernel
theorem dX0_setToField_13 : decode cX0_setToField 13 = .ok (.putfield 18, 3) := by decide +kernel
theorem dX0_setToField_16 : decode cX0_setToField 16 = .ok (.aload_n 0, 1) := by decide +kernel
theorem dX0_setToField_17 : decode cX0_setToField 17 = .ok (.bipush 63, 2) := by decide +kernel
theorem dX0_setToField_19 : decode cX0_setToField 19 = .ok (.putfield 21, 3) := by decide +kernel
theorem dX0_setToField_22 : decode cX0_setToField 22 = .ok (.return_, 1) := by decide +kernel
theorem dX0_keepAround_0 : decode cX0_keepAround 0 = .ok (.aload_n 0, 1) := by decide +kernel
theorem dX0_keepAround_1 : decode cX0_keepAround 1 = .ok (.aload_n 0, 1) := by decide +kernel
theorem dX0_keepAround_2 : decode cX0_keepAround 2 = .ok (.getfield 9, 3) := by decide +kernel
theorem dX0_keepAround_5 : decode cX0_keepAround 5 = .ok (.iload_n 1, 1) := by decide +kernel
theorem dX0_keepAround_6 : decode cX0_keepAround 6 = .ok (.iload_n 3, 1) := by decide +kernel
theorem dX0_keepAround_7 : decode cX0_keepAround 7 = .ok (.isub, 1) := by decide +kernel
theorem dX0_keepAround_8 : decode cX0_keepAround 8 = .ok (.invokestatic 24, 3) := by decide +kernel
theorem dX0_keepAround_11 : decode cX0_keepAround 11 = .ok (.putfield 9, 3) := by decide +kernel
theorem dX0_keepAround_14 : decode cX0_keepAround 14 = .ok (.aload_n 0, 1) := by decide +kernel
theorem dX0_keepAround_15 : decode cX0_keepAround 15 = .ok (.aload_n 0, 1) := by decide +kernel
theorem dX0_keepAround_16 : decode cX0_keepAround 16 = .ok (.getfield 15, 3) := by decide +kernel
theorem dX0_keepAround_19 : decode cX0_keepAround 19 = .ok (.iload_n 1, 1) := by decide +kernel
theorem dX0_keepAround_20 : decode cX0_keepAround 20 = .ok (.iload_n 3, 1) := by decide +kernel
theorem dX0_keepAround_21 : decode cX0_keepAround 21 = .ok (.iadd, 1) := by decide +kernel
theorem dX0_keepAround_22 : decode cX0_keepAround 22 = .ok (.invokestatic 30, 3) := by decide +kernel
theorem dX0_keepAround_25 : decode cX0_keepAround 25 = .ok (.putfield 15, 3) := by decide +kernel
theorem dX0_keepAround_28 : decode cX0_keepAround 28 = .ok (.aload_n 0, 1) := by decide +kernel
theorem dX0_keepAround_29 : decode cX0_keepAround 29 = .ok (.aload_n 0, 1) := by decide +kernel
theorem dX0_keepAround_30 : decode cX0_keepAround 30 = .ok (.getfield 18, 3) := by decide +kernel
theorem dX0_keepAround_33 : decode cX0_keepAround 33 = .ok (.iload_n 2, 1) := by decide +kernel
theorem dX0_keepAround_34 : decode cX0_keepAround 34 = .ok (.iload_n 3, 1) := by decide +kernel
theorem dX0_keepAround_35 : decode cX0_keepAround 35 = .ok (.isub, 1) := by decide +kernel
theorem dX0_keepAround_36 : decode cX0_keepAround 36 = .ok (.invokestatic 24, 3) := by decide +kernel
theorem dX0_keepAround_39 : decode cX0_keepAround 39 = .ok (.putfield 18, 3) := by decide +kernel
theorem dX0_keepAround_42 : decode cX0_keepAround 42 = .ok (.aload_n 0, 1) := by decide +kernel
theorem dX0_keepAround_43 : decode cX0_keepAround 43 = .ok (.aload_n 0, 1) := by decide +kernel
theorem dX0_keepAround_44 : decode cX0_keepAround 44 = .ok (.getfield 21, 3) := by decide +kernel
theorem dX0_keepAround_47 : decode cX0_keepAround 47 = .ok (.iload_n 2, 1) := by decide +kernel
theorem dX0_keepAround_48 : decode cX0_keepAround 48 = .ok (.iload_n 3, 1) := by decide +kernel
theorem dX0_keepAround_49 : decode cX0_keepAround 49 = .ok (.iadd, 1) := by decide +kernel
theorem dX0_keepAround_50 : decode cX0_keepAround 50 = .ok (.invokestatic 30, 3) := by decide +kernel
theorem dX0_keepAround_53 : decode cX0_keepAround 53 = .ok (.putfield 21, 3) := by decide +kernel
theorem dX0_keepAround_56 : decode cX0_keepAround 56 = .ok (.return_, 1) := by decide +kernel
theorem dX0_keepNear_0 : decode cX0_keepNear 0 = .ok (.aload_n 0, 1) := by decide +kernel
theorem dX0_keepNear_1 : decode cX0_keepNear 1 = .ok (.aload_n 0, 1) := by decide +kernel
theorem dX0_keepNear_2 : decode cX0_keepNear 2 = .ok (.getfield 9, 3) := by decide +kernel
theorem dX0_keepNear_5 : decode cX0_keepNear 5 = .ok (.aload_n 1, 1) := by decide +kernel
theorem dX0_keepNear_6 : decode cX0_keepNear 6 = .ok (.getfield 9, 3) := by decide +kernel
theorem dX0_keepNear_9 : decode cX0_keepNear 9 = .ok (.iload_n 2, 1) := by decide +kernel
theorem dX0_keepNear_10 : decode cX0_keepNear 10 = .ok (.isub, 1) := by decide +kernel
theorem dX0_keepNear_11 : decode cX0_keepNear 11 = .ok (.invokestatic 24, 3) := by decide +kernel
theorem dX0_keepNear_14 : decode cX0_keepNear 14 = .ok (.putfield 9, 3) := by decide +kernel
theorem dX0_keepNear_17 : decode cX0_keepNear 17 = .ok (.aload_n 0, 1) := by decide +kernel
theorem dX0_keepNear_18 : decode cX0_keepNear 18 = .ok (.aload_n 0, 1) := by decide +kernel
theorem dX0_keepNear_19 : decode cX0_keepNear 19 = .ok (.getfield 15, 3) := by decide +kernel
theorem dX0_keepNear_22 : decode cX0_keepNear 22 = .ok (.aload_n 1, 1) := by decide +kernel
theorem dX0_keepNear_23 : decode cX0_keepNear 23 = .ok (.getfield 15, 3) := by decide +kernel
theorem dX0_keepNear_26 : decode cX0_keepNear 26 = .ok (.iload_n 2, 1) := by decide +kernel
theorem dX0_keepNear_27 : decode cX0_keepNear 27 = .ok (.iadd, 1) := by decide +kernel
theorem dX0_keepNear_28 : decode cX0_keepNear 28 = .ok (.invokestatic 30, 3) := by decide +kernel
theorem dX0_keepNear_31 : decode cX0_keepNear 31 = .ok (.putfield 15, 3) := by decide +kernel
theorem dX0_keepNear_34 : decode cX0_keepNear 34 = .ok (.aload_n 0, 1) := by decide +kernel
theorem dX0_keepNear_35 : decode cX0_keepNear 35 = .ok (.aload_n 0, 1) := by decide +kernel
theorem dX0_keepNear_36 : decode cX0_keepNear 36 = .ok (.getfield 18, 3) := by decide +kernel
theorem dX0_keepNear_39 : decode cX0_keepNear 39 = .ok (.aload_n 1, 1) := by decide +kernel
theorem dX0_keepNear_40 : decode cX0_keepNear 40 = .ok (.getfield 18, 3) := by decide +kernel
theorem dX0_keepNear_43 : decode cX0_keepNear 43 = .ok (.iload_n 2, 1) := by decide +kernel
theorem dX0_keepNear_44 : decode cX0_keepNear 44 = .ok (.isub, 1) := by decide +kernel
theorem dX0_keepNear_45 : decode cX0_keepNear 45 = .ok (.invokestatic 24, 3) := by decide +kernel
theorem dX0_keepNear_48 : decode cX0_keepNear 48 = .ok (.putfield 18, 3) := by decide +kernel
theorem dX0_keepNear_51 : decode cX0_keepNear 51 = .ok (.aload_n 0, 1) := by decide +kernel
theorem dX0_keepNear_52 : decode cX0_keepNear 52 = .ok (.aload_n 0, 1) := by decide +kernel
theorem dX0_keepNear_53 : decode cX0_keepNear 53 = .ok (.getfield 21, 3) := by decide +kernel
theorem dX0_keepNear_56 : decode cX0_keepNear 56 = .ok (.aload_n 1, 1) := by decide +kernel
theorem dX0_keepNear_57 : decode cX0_keepNear 57 = .ok (.getfield 21, 3) := by decide +kernel
theorem dX0_keepNear_60 : decode cX0_keepNear 60 = .ok (.iload_n 2, 1) := by decide +kernel
theorem dX0_keepNear_61 : decode cX0_keepNear 61 = .ok (.iadd, 1) := by decide +kernel
theorem dX0_keepNear_62 : decode cX0_keepNear 62 = .ok (.invokestatic 30, 3) := by decide +kernel
theorem dX0_keepNear_65 : decode cX0_keepNear 65 = .ok (.putfield 21, 3) := by decide +kernel
theorem dX0_keepNear_68 : decode cX0_keepNear 68 = .ok (.return_, 1) := by decide +kernel
theorem dX0_isEmpty_0 : decode cX0_isEmpty 0 = .ok (.aload_n 0, 1) := by decide +kernel
theorem dX0_isEmpty_1 : decode cX0_isEmpty 1 = .ok (.getfield 9, 3) := by decide +kernel
theorem dX0_isEmpty_4 : decode cX0_isEmpty 4 = .ok (.aload_n 0, 1) := by decide +kernel
theorem dX0_isEmpty_5 : decode cX0_isEmpty 5 = .ok (.getfield 15, 3) := by decide +kernel
theorem dX0_isEmpty_8 : decode cX0_isEmpty 8 = .ok (.if_icmp .gt 14, 3) := by decide +kernel
theorem dX0_isEmpty_11 : decode cX0_isEmpty 11 = .ok (.aload_n 0, 1) := by decide +kernel
theorem dX0_isEmpty_12 : decode cX0_isEmpty 12 = .ok (.getfield 18, 3) := by decide +kernel
theorem dX0_isEmpty_15 : decode cX0_isEmpty 15 = .ok (.aload_n 0, 1) := by decide +kernel
theorem dX0_isEmpty_16 : decode cX0_isEmpty 16 = .ok (.getfield 21, 3) := by decide +kernel
theorem dX0_isEmpty_19 : decode cX0_isEmpty 19 = .ok (.if_icmp .le 7, 3) := by decide +kernel
theorem dX0_isEmpty_22 : decode cX0_isEmpty 22 = .ok (.iconst 1, 1) := by decide +kernel
theorem dX0_isEmpty_23 : decode cX0_isEmpty 23 = .ok (.goto 4, 3) := by decide +kernel
theorem dX0_isEmpty_26 : decode cX0_isEmpty 26 = .ok (.iconst 0, 1) := by decide +kernel
theorem dX0_isEmpty_27 : decode cX0_isEmpty 27 = .ok (.ireturn, 1) := by decide +kernel
theorem dX0_size_0 : decode cX0_size 0 = .ok (.aload_n 0, 1) := by decide +kernel
theorem dX0_size_1 : decode cX0_size 1 = .ok (.getfield 15, 3) := by decide +kernel
theorem dX0_size_4 : decode cX0_size 4 = .ok (.aload_n 0, 1) := by decide +kernel
theorem dX0_size_5 : decode cX0_size 5 = .ok (.getfield 9, 3) := by decide +kernel
theorem dX0_size_8 : decode cX0_size 8 = .ok (.isub, 1) := by decide +kernel
theorem dX0_size_9 : decode cX0_size 9 = .ok (.iconst 1, 1) := by decide +kernel
theorem dX0_size_10 : decode cX0_size 10 = .ok (.iadd, 1) := by decide +kernel
theorem dX0_size_11 : decode cX0_size 11 = .ok (.aload_n 0, 1) := by decide +kernel
theorem dX0_size_12 : decode cX0_size 12 = .ok (.getfield 21, 3) := by decide +kernel
theorem dX0_size_15 : decode cX0_size 15 = .ok (.aload_n 0, 1) := by decide +kernel
theorem dX0_size_16 : decode cX0_size 16 = .ok (.getfield 18, 3) := by decide +kernel
theorem dX0_size_19 : decode cX0_size 19 = .ok (.isub, 1) := by decide +kernel
theorem dX0_size_20 : decode cX0_size 20 = .ok (.iconst 1, 1) := by decide +kernel
theorem dX0_size_21 : decode cX0_size 21 = .ok (.iadd, 1) := by decide +kernel
theorem dX0_size_22 : decode cX0_size 22 = .ok (.imul, 1) := by decide +kernel
theorem dX0_size_23 : decode cX0_size 23 = .ok (.ireturn, 1) := by decide +kernel
theorem dX0_rowBits_0 : decode cX0_rowBits 0 = .ok (.ldc2_w 33, 3) := by decide +kernel
theorem dX0_rowBits_3 : decode cX0_rowBits 3 = .ok (.bipush 63, 2) := by decide +kernel
theorem dX0_rowBits_5 : decode cX0_rowBits 5 = .ok (.aload_n 0, 1) := by decide +kernel
theorem dX0_rowBits_6 : decode cX0_rowBits 6 = .ok (.getfield 21, 3) := by decide +kernel
theorem dX0_rowBits_9 : decode cX0_rowBits 9 = .ok (.aload_n 0, 1) := by decide +kernel
theorem dX0_rowBits_10 : decode cX0_rowBits 10 = .ok (.getfield 18, 3) := by decide +kernel
theorem dX0_rowBits_13 : decode cX0_rowBits 13 = .ok (.isub, 1) := by decide +kernel
theorem dX0_rowBits_14 : decode cX0_rowBits 14 = .ok (.isub, 1) := by decide +kernel
theorem dX0_rowBits_15 : decode cX0_rowBits 15 = .ok (.lushr, 1) := by decide +kernel
theorem dX0_rowBits_16 : decode cX0_rowBits 16 = .ok (.aload_n 0, 1) := by decide +kernel
theorem dX0_rowBits_17 : decode cX0_rowBits 17 = .ok (.getfield 18, 3) := by decide +kernel
theorem dX0_rowBits_20 : decode cX0_rowBits 20 = .ok (.lshl, 1) := by decide +kernel
theorem dX0_rowBits_21 : decode cX0_rowBits 21 = .ok (.lreturn, 1) := by decide +kernel
theorem dX0_leastApart_0 : decode cX0_leastApart 0 = .ok (.aload_n 0, 1) := by decide +kernel
theorem dX0_leastApart_1 : decode cX0_leastApart 1 = .ok (.getfield 9, 3) := by decide +kernel
theorem dX0_leastApart_4 : decode cX0_leastApart 4 = .ok (.aload_n 1, 1) := by decide +kernel
theorem dX0_leastApart_5 : decode cX0_leastApart 5 = .ok (.getfield 15, 3) := by decide +kernel
theorem dX0_leastApart_8 : decode cX0_leastApart 8 = .ok (.isub, 1) := by decide +kernel
theorem dX0_leastApart_9 : decode cX0_leastApart 9 = .ok (.aload_n 1, 1) := by decide +kernel
theorem dX0_leastApart_10 : decode cX0_leastApart 10 = .ok (.getfield 9, 3) := by decide +kernel
theorem dX0_leastApart_13 : decode cX0_leastApart 13 = .ok (.aload_n 0, 1) := by decide +kernel
theorem dX0_leastApart_14 : decode cX0_leastApart 14 = .ok (.getfield 15, 3) := by decide +kernel
theorem dX0_leastApart_17 : decode cX0_leastApart 17 = .ok (.isub, 1) := by decide +kernel
theorem dX0_leastApart_18 : decode cX0_leastApart 18 = .ok (.invokestatic 24, 3) := by decide +kernel
theorem dX0_leastApart_21 : decode cX0_leastApart 21 = .ok (.istore_n 2, 1) := by decide +kernel
theorem dX0_leastApart_22 : decode cX0_leastApart 22 = .ok (.aload_n 0, 1) := by decide +kernel
theorem dX0_leastApart_23 : decode cX0_leastApart 23 = .ok (.getfield 18, 3) := by decide +kernel
theorem dX0_leastApart_26 : decode cX0_leastApart 26 = .ok (.aload_n 1, 1) := by decide +kernel
theorem dX0_leastApart_27 : decode cX0_leastApart 27 = .ok (.getfield 21, 3) := by decide +kernel
theorem dX0_leastApart_30 : decode cX0_leastApart 30 = .ok (.isub, 1) := by decide +kernel
theorem dX0_leastApart_31 : decode cX0_leastApart 31 = .ok (.aload_n 1, 1) := by decide +kernel
theorem dX0_leastApart_32 : decode cX0_leastApart 32 = .ok (.getfield 18, 3) := by decide +kernel
theorem dX0_leastApart_35 : decode cX0_leastApart 35 = .ok (.aload_n 0, 1) := by decide +kernel
theorem dX0_leastApart_36 : decode cX0_leastApart 36 = .ok (.getfield 21, 3) := by decide +kernel
theorem dX0_leastApart_39 : decode cX0_leastApart 39 = .ok (.isub, 1) := by decide +kernel
theorem dX0_leastApart_40 : decode cX0_leastApart 40 = .ok (.invokestatic 24, 3) := by decide +kernel
theorem dX0_leastApart_43 : decode cX0_leastApart 43 = .ok (.istore_n 3, 1) := by decide +kernel
theorem dX0_leastApart_44 : decode cX0_leastApart 44 = .ok (.iconst 0, 1) := by decide +kernel
theorem dX0_leastApart_45 : decode cX0_leastApart 45 = .ok (.iload_n 2, 1) := by decide +kernel
theorem dX0_leastApart_46 : decode cX0_leastApart 46 = .ok (.iload_n 3, 1) := by decide +kernel
theorem dX0_leastApart_47 : decode cX0_leastApart 47 = .ok (.invokestatic 24, 3) := by decide +kernel
theorem dX0_leastApart_50 : decode cX0_leastApart 50 = .ok (.invokestatic 24, 3) := by decide +kernel
theorem dX0_leastApart_53 : decode cX0_leastApart 53 = .ok (.ireturn, 1) := by decide +kernel
theorem dX0_mostApart_0 : decode cX0_mostApart 0 = .ok (.aload_n 0, 1) := by decide +kernel
theorem dX0_mostApart_1 : decode cX0_mostApart 1 = .ok (.getfield 15, 3) := by decide +kernel
theorem dX0_mostApart_4 : decode cX0_mostApart 4 = .ok (.aload_n 1, 1) := by decide +kernel
theorem dX0_mostApart_5 : decode cX0_mostApart 5 = .ok (.getfield 9, 3) := by decide +kernel
theorem dX0_mostApart_8 : decode cX0_mostApart 8 = .ok (.isub, 1) := by decide +kernel
theorem dX0_mostApart_9 : decode cX0_mostApart 9 = .ok (.aload_n 1, 1) := by decide +kernel
theorem dX0_mostApart_10 : decode cX0_mostApart 10 = .ok (.getfield 15, 3) := by decide +kernel
theorem dX0_mostApart_13 : decode cX0_mostApart 13 = .ok (.aload_n 0, 1) := by decide +kernel
theorem dX0_mostApart_14 : decode cX0_mostApart 14 = .ok (.getfield 9, 3) := by decide +kernel
theorem dX0_mostApart_17 : decode cX0_mostApart 17 = .ok (.isub, 1) := by decide +kernel
theorem dX0_mostApart_18 : decode cX0_mostApart 18 = .ok (.invokestatic 24, 3) := by decide +kernel
theorem dX0_mostApart_21 : decode cX0_mostApart 21 = .ok (.istore_n 2, 1) := by decide +kernel
theorem dX0_mostApart_22 : decode cX0_mostApart 22 = .ok (.aload_n 0, 1) := by decide +kernel
theorem dX0_mostApart_23 : decode cX0_mostApart 23 = .ok (.getfield 21, 3) := by decide +kernel
theorem dX0_mostApart_26 : decode cX0_mostApart 26 = .ok (.aload_n 1, 1) := by decide +kernel
theorem dX0_mostApart_27 : decode cX0_mostApart 27 = .ok (.getfield 18, 3) := by decide +kernel
theorem dX0_mostApart_30 : decode cX0_mostApart 30 = .ok (.isub, 1) := by decide +kernel
theorem dX0_mostApart_31 : decode cX0_mostApart 31 = .ok (.aload_n 1, 1) := by decide +kernel
theorem dX0_mostApart_32 : decode cX0_mostApart 32 = .ok (.getfield 21, 3) := by decide +kernel
theorem dX0_mostApart_35 : decode cX0_mostApart 35 = .ok (.aload_n 0, 1) := by decide +kernel
theorem dX0_mostApart_36 : decode cX0_mostApart 36 = .ok (.getfield 18, 3) := by decide +kernel
theorem dX0_mostApart_39 : decode cX0_mostApart 39 = .ok (.isub, 1) := by decide +kernel
theorem dX0_mostApart_40 : decode cX0_mostApart 40 = .ok (.invokestatic 24, 3) := by decide +kernel
theorem dX0_mostApart_43 : decode cX0_mostApart 43 = .ok (.istore_n 3, 1) := by decide +kernel
theorem dX0_mostApart_44 : decode cX0_mostApart 44 = .ok (.iload_n 2, 1) := by decide +kernel
theorem dX0_mostApart_45 : decode cX0_mostApart 45 = .ok (.iload_n 3, 1) := by decide +kernel
theorem dX0_mostApart_46 : decode cX0_mostApart 46 = .ok (.invokestatic 24, 3) := by decide +kernel
theorem dX0_mostApart_49 : decode cX0_mostApart 49 = .ok (.ireturn, 1) := by decide +kernel
theorem dX1_init_0 : decode cX1_init 0 = .ok (.aload_n 0, 1) := by decide +kernel
theorem dX1_init_1 : decode cX1_init 1 = .ok (.invokespecial 3, 3) := by decide +kernel
theorem dX1_init_4 : decode cX1_init 4 = .ok (.aload_n 0, 1) := by decide +kernel
theorem dX1_init_5 : decode cX1_init 5 = .ok (.bipush 64, 2) := by decide +kernel
theorem dX1_init_7 : decode cX1_init 7 = .ok (.newarray .long, 2) := by decide +kernel
theorem dX1_init_9 : decode cX1_init 9 = .ok (.putfield 9, 3) := by decide +kernel
theorem dX1_init_12 : decode cX1_init 12 = .ok (.return_, 1) := by decide +kernel
theorem dX1_holds_0 : decode cX1_holds 0 = .ok (.aload_n 0, 1) := by decide +kernel
theorem dX1_holds_1 : decode cX1_holds 1 = .ok (.getfield 9, 3) := by decide +kernel
theorem dX1_holds_4 : decode cX1_holds 4 = .ok (.iload_n 1, 1) := by decide +kernel
theorem dX1_holds_5 : decode cX1_holds 5 = .ok (.laload, 1) := by decide +kernel
theorem dX1_holds_6 : decode cX1_holds 6 = .ok (.iload_n 2, 1) := by decide +kernel
theorem dX1_holds_7 : decode cX1_holds 7 = .ok (.lushr, 1) := by decide +kernel
theorem dX1_holds_8 : decode cX1_holds 8 = .ok (.lconst 1, 1) := by decide +kernel
theorem dX1_holds_9 : decode cX1_holds 9 = .ok (.land, 1) := by decide +kernel
theorem dX1_holds_10 : decode cX1_holds 10 = .ok (.lconst 0, 1) := by decide +kernel
theorem dX1_holds_11 : decode cX1_holds 11 = .ok (.lcmp, 1) := by decide +kernel
theorem dX1_holds_12 : decode cX1_holds 12 = .ok (.ifCond .eq 7, 3) := by decide +kernel
theorem dX1_holds_15 : decode cX1_holds 15 = .ok (.iconst 1, 1) := by decide +kernel
theorem dX1_holds_16 : decode cX1_holds 16 = .ok (.goto 4, 3) := by decide +kernel
theorem dX1_holds_19 : decode cX1_holds 19 = .ok (.iconst 0, 1) := by decide +kernel
theorem dX1_holds_20 : decode cX1_holds 20 = .ok (.ireturn, 1) := by decide +kernel
set_option maxRecDepth 20000 in
theorem ggX1_size_J13_bitCount_95d88 : GoodIn wsX1_size wsJ13_bitCount_95d88 := goodIn_r _ [5, 6, 7, 8] (by decide +kernel) (by decide +kernel)
set_option maxRecDepth 20000 in
theorem gX1_size_J13_bitCount_95d88 : GoodIn wsX1_size (va_wsS RX1 15 yJ13_bitCount_95d88 wsJ13_bitCount_95d88) := goodIn_app (goodIn_of _ (by decide +kernel)) ggX1_size_J13_bitCount_95d88
theorem dX1_size_0 : decode cX1_size 0 = .ok (.iconst 0, 1) := by decide +kernel
theorem dX1_size_1 : decode cX1_size 1 = .ok (.istore_n 1, 1) := by decide +kernel
theorem dX1_size_2 : decode cX1_size 2 = .ok (.iconst 0, 1) := by decide +kernel
theorem dX1_size_3 : decode cX1_size 3 = .ok (.istore_n 2, 1) := by decide +kernel
theorem dX1_size_4 : decode cX1_size 4 = .ok (.iload_n 2, 1) := by decide +kernel
theorem dX1_size_5 : decode cX1_size 5 = .ok (.bipush 64, 2) := by decide +kernel
theorem dX1_size_7 : decode cX1_size 7 = .ok (.if_icmp .ge 21, 3) := by decide +kernel
theorem dX1_size_10 : decode cX1_size 10 = .ok (.iload_n 1, 1) := by decide +kernel
theorem dX1_size_11 : decode cX1_size 11 = .ok (.aload_n 0, 1) := by decide +kernel
theorem dX1_size_12 : decode cX1_size 12 = .ok (.getfield 9, 3) := by decide +kernel
theorem dX1_size_15 : decode cX1_size 15 = .ok (.iload_n 2, 1) := by decide +kernel
theorem dX1_size_16 : decode cX1_size 16 = .ok (.laload, 1) := by decide +kernel
theorem dX1_size_17 : decode cX1_size 17 = .ok (.invokestatic 15, 3) := by decide +kernel
theorem dX1_size_20 : decode cX1_size 20 = .ok (.iadd, 1) := by decide +kernel
theorem dX1_size_21 : decode cX1_size 21 = .ok (.istore_n 1, 1) := by decide +kernel
theorem dX1_size_22 : decode cX1_size 22 = .ok (.iinc 2 1, 3) := by decide +kernel
theorem dX1_size_25 : decode cX1_size 25 = .ok (.goto (-21), 3) := by decide +kernel
theorem dX1_size_28 : decode cX1_size 28 = .ok (.iload_n 1, 1) := by decide +kernel
theorem dX1_size_29 : decode cX1_size 29 = .ok (.ireturn, 1) := by decide +kernel
theorem dX1_isEmpty_0 : decode cX1_isEmpty 0 = .ok (.iconst 0, 1) := by decide +kernel
theorem dX1_isEmpty_1 : decode cX1_isEmpty 1 = .ok (.istore_n 1, 1) := by decide +kernel
theorem dX1_isEmpty_2 : decode cX1_isEmpty 2 = .ok (.iload_n 1, 1) := by decide +kernel
theorem dX1_isEmpty_3 : decode cX1_isEmpty 3 = .ok (.bipush 64, 2) := by decide +kernel
theorem dX1_isEmpty_5 : decode cX1_isEmpty 5 = .ok (.if_icmp .ge 22, 3) := by decide +kernel
theorem dX1_isEmpty_8 : decode cX1_isEmpty 8 = .ok (.aload_n 0, 1) := by decide +kernel
theorem dX1_isEmpty_9 : decode cX1_isEmpty 9 = .ok (.getfield 9, 3) := by decide +kernel
theorem dX1_isEmpty_12 : decode cX1_isEmpty 12 = .ok (.iload_n 1, 1) := by decide +kernel
theorem dX1_isEmpty_13 : decode cX1_isEmpty 13 = .ok (.laload, 1) := by decide +kernel
theorem dX1_isEmpty_14 : decode cX1_isEmpty 14 = .ok (.lconst 0, 1) := by decide +kernel
theorem dX1_isEmpty_15 : decode cX1_isEmpty 15 = .ok (.lcmp, 1) := by decide +kernel
theorem dX1_isEmpty_16 : decode cX1_isEmpty 16 = .ok (.ifCond .eq 5, 3) := by decide +kernel
theorem dX1_isEmpty_19 : decode cX1_isEmpty 19 = .ok (.iconst 0, 1) := by decide +kernel
theorem dX1_isEmpty_20 : decode cX1_isEmpty 20 = .ok (.ireturn, 1) := by decide +kernel
theorem dX1_isEmpty_21 : decode cX1_isEmpty 21 = .ok (.iinc 1 1, 3) := by decide +kernel
theorem dX1_isEmpty_24 : decode cX1_isEmpty 24 = .ok (.goto (-22), 3) := by decide +kernel
theorem dX1_isEmpty_27 : decode cX1_isEmpty 27 = .ok (.iconst 1, 1) := by decide +kernel
theorem dX1_isEmpty_28 : decode cX1_isEmpty 28 = .ok (.ireturn, 1) := by decide +kernel
set_option maxRecDepth 20000 in
theorem ggX1_meets_X0_rowBits : GoodIn wsX1_meets wsX0_rowBits := goodIn_r _ [6, 7, 8, 9, 10, 11, 12, 13] (by decide +kernel) (by decide +kernel)
set_option maxRecDepth 20000 in
theorem gX1_meets_X0_rowBits : GoodIn wsX1_meets (wsV RX1 21 RX0 yX0_rowBits wsX0_rowBits) := goodIn_app (goodIn_of _ (by decide +kernel)) ggX1_meets_X0_rowBits
theorem dX1_meets_0 : decode cX1_meets 0 = .ok (.aload_n 1, 1) := by decide +kernel
theorem dX1_meets_1 : decode cX1_meets 1 = .ok (.invokevirtual 21, 3) := by decide +kernel
theorem dX1_meets_4 : decode cX1_meets 4 = .ok (.lstore_n 2, 1) := by decide +kernel
theorem dX1_meets_5 : decode cX1_meets 5 = .ok (.aload_n 1, 1) := by decide +kernel
theorem dX1_meets_6 : decode cX1_meets 6 = .ok (.getfield 27, 3) := by decide +kernel
theorem dX1_meets_9 : decode cX1_meets 9 = .ok (.istore 4, 2) := by decide +kernel
theorem dX1_meets_11 : decode cX1_meets 11 = .ok (.iload 4, 2) := by decide +kernel
theorem dX1_meets_13 : decode cX1_meets 13 = .ok (.aload_n 1, 1) := by decide +kernel
theorem dX1_meets_14 : decode cX1_meets 14 = .ok (.getfield 31, 3) := by decide +kernel
theorem dX1_meets_17 : decode cX1_meets 17 = .ok (.if_icmp .gt 25, 3) := by decide +kernel
theorem dX1_meets_20 : decode cX1_meets 20 = .ok (.aload_n 0, 1) := by decide +kernel
theorem dX1_meets_21 : decode cX1_meets 21 = .ok (.getfield 9, 3) := by decide +kernel
theorem dX1_meets_24 : decode cX1_meets 24 = .ok (.iload 4, 2) := by decide +kernel
theorem dX1_meets_26 : decode cX1_meets 26 = .ok (.laload, 1) := by decide +kernel
theorem dX1_meets_27 : decode cX1_meets 27 = .ok (.lload_n 2, 1) := by decide +kernel
theorem dX1_meets_28 : decode cX1_meets 28 = .ok (.land, 1) := by decide +kernel
theorem dX1_meets_29 : decode cX1_meets 29 = .ok (.lconst 0, 1) := by decide +kernel
theorem dX1_meets_30 : decode cX1_meets 30 = .ok (.lcmp, 1) := by decide +kernel
theorem dX1_meets_31 : decode cX1_meets 31 = .ok (.ifCond .eq 5, 3) := by decide +kernel
theorem dX1_meets_34 : decode cX1_meets 34 = .ok (.iconst 1, 1) := by decide +kernel
theorem dX1_meets_35 : decode cX1_meets 35 = .ok (.ireturn, 1) := by decide +kernel
theorem dX1_meets_36 : decode cX1_meets 36 = .ok (.iinc 4 1, 3) := by decide +kernel
theorem dX1_meets_39 : decode cX1_meets 39 = .ok (.goto (-28), 3) := by decide +kernel
theorem dX1_meets_42 : decode cX1_meets 42 = .ok (.iconst 0, 1) := by decide +kernel
theorem dX1_meets_43 : decode cX1_meets 43 = .ok (.ireturn, 1) := by decide +kernel
set_option maxRecDepth 20000 in
theorem ggX1_covers_X0_rowBits : GoodIn wsX1_covers wsX0_rowBits := goodIn_r _ [6, 7, 8, 9, 10, 11, 12, 13] (by decide +kernel) (by decide +kernel)
set_option maxRecDepth 20000 in
theorem gX1_covers_X0_rowBits : GoodIn wsX1_covers (wsV RX1 21 RX0 yX0_rowBits wsX0_rowBits) := goodIn_app (goodIn_of _ (by decide +kernel)) ggX1_covers_X0_rowBits
theorem dX1_covers_0 : decode cX1_covers 0 = .ok (.aload_n 1, 1) := by decide +kernel
theorem dX1_covers_1 : decode cX1_covers 1 = .ok (.invokevirtual 21, 3) := by decide +kernel
theorem dX1_covers_4 : decode cX1_covers 4 = .ok (.lstore_n 2, 1) := by decide +kernel
theorem dX1_covers_5 : decode cX1_covers 5 = .ok (.aload_n 1, 1) := by decide +kernel
theorem dX1_covers_6 : decode cX1_covers 6 = .ok (.getfield 27, 3) := by decide +kernel
theorem dX1_covers_9 : decode cX1_covers 9 = .ok (.istore 4, 2) := by decide +kernel
theorem dX1_covers_11 : decode cX1_covers 11 = .ok (.iload 4, 2) := by decide +kernel
theorem dX1_covers_13 : decode cX1_covers 13 = .ok (.aload_n 1, 1) := by decide +kernel
theorem dX1_covers_14 : decode cX1_covers 14 = .ok (.getfield 31, 3) := by decide +kernel
theorem dX1_covers_17 : decode cX1_covers 17 = .ok (.if_icmp .gt 25, 3) := by decide +kernel
theorem dX1_covers_20 : decode cX1_covers 20 = .ok (.aload_n 0, 1) := by decide +kernel
theorem dX1_covers_21 : decode cX1_covers 21 = .ok (.getfield 9, 3) := by decide +kernel
theorem dX1_covers_24 : decode cX1_covers 24 = .ok (.iload 4, 2) := by decide +kernel
theorem dX1_covers_26 : decode cX1_covers 26 = .ok (.laload, 1) := by decide +kernel
theorem dX1_covers_27 : decode cX1_covers 27 = .ok (.lload_n 2, 1) := by decide +kernel
theorem dX1_covers_28 : decode cX1_covers 28 = .ok (.land, 1) := by decide +kernel
theorem dX1_covers_29 : decode cX1_covers 29 = .ok (.lload_n 2, 1) := by decide +kernel
theorem dX1_covers_30 : decode cX1_covers 30 = .ok (.lcmp, 1) := by decide +kernel
theorem dX1_covers_31 : decode cX1_covers 31 = .ok (.ifCond .eq 5, 3) := by decide +kernel
theorem dX1_covers_34 : decode cX1_covers 34 = .ok (.iconst 0, 1) := by decide +kernel
theorem dX1_covers_35 : decode cX1_covers 35 = .ok (.ireturn, 1) := by decide +kernel
theorem dX1_covers_36 : decode cX1_covers 36 = .ok (.iinc 4 1, 3) := by decide +kernel
theorem dX1_covers_39 : decode cX1_covers 39 = .ok (.goto (-28), 3) := by decide +kernel
theorem dX1_covers_42 : decode cX1_covers 42 = .ok (.iconst 1, 1) := by decide +kernel
theorem dX1_covers_43 : decode cX1_covers 43 = .ok (.ireturn, 1) := by decide +kernel
set_option maxRecDepth 20000 in
theorem ggX1_add_X0_rowBits : GoodIn wsX1_add wsX0_rowBits := goodIn_r _ [6, 7, 8, 9, 10, 11, 12, 13] (by decide +kernel) (by decide +kernel)
set_option maxRecDepth 20000 in
theorem gX1_add_X0_rowBits : GoodIn wsX1_add (wsV RX1 21 RX0 yX0_rowBits wsX0_rowBits) := goodIn_app (goodIn_of _ (by decide +kernel)) ggX1_add_X0_rowBits
theorem dX1_add_0 : decode cX1_add 0 = .ok (.aload_n 1, 1) := by decide +kernel
theorem dX1_add_1 : decode cX1_add 1 = .ok (.invokevirtual 21, 3) := by decide +kernel
theorem dX1_add_4 : decode cX1_add 4 = .ok (.lstore_n 2, 1) := by decide +kernel
theorem dX1_add_5 : decode cX1_add 5 = .ok (.aload_n 1, 1) := by decide +kernel
theorem dX1_add_6 : decode cX1_add 6 = .ok (.getfield 27, 3) := by decide +kernel
theorem dX1_add_9 : decode cX1_add 9 = .ok (.istore 4, 2) := by decide +kernel
theorem dX1_add_11 : decode cX1_add 11 = .ok (.iload 4, 2) := by decide +kernel
theorem dX1_add_13 : decode cX1_add 13 = .ok (.aload_n 1, 1) := by decide +kernel
theorem dX1_add_14 : decode cX1_add 14 = .ok (.getfield 31, 3) := by decide +kernel
theorem dX1_add_17 : decode cX1_add 17 = .ok (.if_icmp .gt 20, 3) := by decide +kernel
theorem dX1_add_20 : decode cX1_add 20 = .ok (.aload_n 0, 1) := by decide +kernel
theorem dX1_add_21 : decode cX1_add 21 = .ok (.getfield 9, 3) := by decide +kernel
theorem dX1_add_24 : decode cX1_add 24 = .ok (.iload 4, 2) := by decide +kernel
theorem dX1_add_26 : decode cX1_add 26 = .ok (.dup2, 1) := by decide +kernel
theorem dX1_add_27 : decode cX1_add 27 = .ok (.laload, 1) := by decide +kernel
theorem dX1_add_28 : decode cX1_add 28 = .ok (.lload_n 2, 1) := by decide +kernel
theorem dX1_add_29 : decode cX1_add 29 = .ok (.lor, 1) := by decide +kernel
theorem dX1_add_30 : decode cX1_add 30 = .ok (.lastore, 1) := by decide +kernel
theorem dX1_add_31 : decode cX1_add 31 = .ok (.iinc 4 1, 3) := by decide +kernel
theorem dX1_add_34 : decode cX1_add 34 = .ok (.goto (-23), 3) := by decide +kernel
theorem dX1_add_37 : decode cX1_add 37 = .ok (.return_, 1) := by decide +kernel
set_option maxRecDepth 20000 in
theorem ggX1_remove_X0_rowBits : GoodIn wsX1_remove wsX0_rowBits := goodIn_r _ [7, 8, 9, 10, 11, 12, 13, 14] (by decide +kernel) (by decide +kernel)
set_option maxRecDepth 20000 in
theorem gX1_remove_X0_rowBits : GoodIn wsX1_remove (wsV RX1 21 RX0 yX0_rowBits wsX0_rowBits) := goodIn_app (goodIn_of _ (by decide +kernel)) ggX1_remove_X0_rowBits
theorem dX1_remove_0 : decode cX1_remove 0 = .ok (.aload_n 1, 1) := by decide +kernel
theorem dX1_remove_1 : decode cX1_remove 1 = .ok (.invokevirtual 21, 3) := by decide +kernel
theorem dX1_remove_4 : decode cX1_remove 4 = .ok (.lstore_n 2, 1) := by decide +kernel
theorem dX1_remove_5 : decode cX1_remove 5 = .ok (.aload_n 1, 1) := by decide +kernel
theorem dX1_remove_6 : decode cX1_remove 6 = .ok (.getfield 27, 3) := by decide +kernel
theorem dX1_remove_9 : decode cX1_remove 9 = .ok (.istore 4, 2) := by decide +kernel
theorem dX1_remove_11 : decode cX1_remove 11 = .ok (.iload 4, 2) := by decide +kernel
theorem dX1_remove_13 : decode cX1_remove 13 = .ok (.aload_n 1, 1) := by decide +kernel
theorem dX1_remove_14 : decode cX1_remove 14 = .ok (.getfield 31, 3) := by decide +kernel
theorem dX1_remove_17 : decode cX1_remove 17 = .ok (.if_icmp .gt 24, 3) := by decide +kernel
theorem dX1_remove_20 : decode cX1_remove 20 = .ok (.aload_n 0, 1) := by decide +kernel
theorem dX1_remove_21 : decode cX1_remove 21 = .ok (.getfield 9, 3) := by decide +kernel
theorem dX1_remove_24 : decode cX1_remove 24 = .ok (.iload 4, 2) := by decide +kernel
theorem dX1_remove_26 : decode cX1_remove 26 = .ok (.dup2, 1) := by decide +kernel
theorem dX1_remove_27 : decode cX1_remove 27 = .ok (.laload, 1) := by decide +kernel
theorem dX1_remove_28 : decode cX1_remove 28 = .ok (.lload_n 2, 1) := by decide +kernel
theorem dX1_remove_29 : decode cX1_remove 29 = .ok (.ldc2_w 34, 3) := by decide +kernel
theorem dX1_remove_32 : decode cX1_remove 32 = .ok (.lxor, 1) := by decide +kernel
theorem dX1_remove_33 : decode cX1_remove 33 = .ok (.land, 1) := by decide +kernel
theorem dX1_remove_34 : decode cX1_remove 34 = .ok (.lastore, 1) := by decide +kernel
theorem dX1_remove_35 : decode cX1_remove 35 = .ok (.iinc 4 1, 3) := by decide +kernel
theorem dX1_remove_38 : decode cX1_remove 38 = .ok (.goto (-27), 3) := by decide +kernel
theorem dX1_remove_41 : decode cX1_remove 41 = .ok (.return_, 1) := by decide +kernel
set_option maxRecDepth 20000 in
theorem ggX1_keep_X0_rowBits : GoodIn wsX1_keep wsX0_rowBits := goodIn_r _ [6, 7, 8, 9, 11, 12, 13, 14] (by decide +kernel) (by decide +kernel)
set_option maxRecDepth 20000 in
theorem gX1_keep_X0_rowBits : GoodIn wsX1_keep (wsV RX1 21 RX0 yX0_rowBits wsX0_rowBits) := goodIn_app (goodIn_of _ (by decide +kernel)) ggX1_keep_X0_rowBits
theorem dX1_keep_0 : decode cX1_keep 0 = .ok (.aload_n 1, 1) := by decide +kernel
theorem dX1_keep_1 : decode cX1_keep 1 = .ok (.invokevirtual 21, 3) := by decide +kernel
theorem dX1_keep_4 : decode cX1_keep 4 = .ok (.lstore_n 2, 1) := by decide +kernel
theorem dX1_keep_5 : decode cX1_keep 5 = .ok (.iconst 0, 1) := by decide +kernel
theorem dX1_keep_6 : decode cX1_keep 6 = .ok (.istore 4, 2) := by decide +kernel
theorem dX1_keep_8 : decode cX1_keep 8 = .ok (.iload 4, 2) := by decide +kernel
theorem dX1_keep_10 : decode cX1_keep 10 = .ok (.bipush 64, 2) := by decide +kernel
theorem dX1_keep_12 : decode cX1_keep 12 = .ok (.if_icmp .ge 47, 3) := by decide +kernel
theorem dX1_keep_15 : decode cX1_keep 15 = .ok (.aload_n 0, 1) := by decide +kernel
theorem dX1_keep_16 : decode cX1_keep 16 = .ok (.getfield 9, 3) := by decide +kernel
theorem dX1_keep_19 : decode cX1_keep 19 = .ok (.iload 4, 2) := by decide +kernel
theorem dX1_keep_21 : decode cX1_keep 21 = .ok (.iload 4, 2) := by decide +kernel
theorem dX1_keep_23 : decode cX1_keep 23 = .ok (.aload_n 1, 1) := by decide +kernel
theorem dX1_keep_24 : decode cX1_keep 24 = .ok (.getfield 27, 3) := by decide +kernel
theorem dX1_keep_27 : decode cX1_keep 27 = .ok (.if_icmp .lt 12, 3) := by decide +kernel
theorem dX1_keep_30 : decode cX1_keep 30 = .ok (.iload 4, 2) := by decide +kernel
theorem dX1_keep_32 : decode cX1_keep 32 = .ok (.aload_n 1, 1) := by decide +kernel
theorem dX1_keep_33 : decode cX1_keep 33 = .ok (.getfield 31, 3) := by decide +kernel
theorem dX1_keep_36 : decode cX1_keep 36 = .ok (.if_icmp .le 7, 3) := by decide +kernel
theorem dX1_keep_39 : decode cX1_keep 39 = .ok (.lconst 0, 1) := by decide +kernel
theorem dX1_keep_40 : decode cX1_keep 40 = .ok (.goto 12, 3) := by decide +kernel
theorem dX1_keep_43 : decode cX1_keep 43 = .ok (.aload_n 0, 1) := by decide +kernel
theorem dX1_keep_44 : decode cX1_keep 44 = .ok (.getfield 9, 3) := by decide +kernel
theorem dX1_keep_47 : decode cX1_keep 47 = .ok (.iload 4, 2) := by decide +kernel
theorem dX1_keep_49 : decode cX1_keep 49 = .ok (.laload, 1) := by decide +kernel
theorem dX1_keep_50 : decode cX1_keep 50 = .ok (.lload_n 2, 1) := by decide +kernel
theorem dX1_keep_51 : decode cX1_keep 51 = .ok (.land, 1) := by decide +kernel
theorem dX1_keep_52 : decode cX1_keep 52 = .ok (.lastore, 1) := by decide +kernel
theorem dX1_keep_53 : decode cX1_keep 53 = .ok (.iinc 4 1, 3) := by decide +kernel
theorem dX1_keep_56 : decode cX1_keep 56 = .ok (.goto (-48), 3) := by decide +kernel
theorem dX1_keep_59 : decode cX1_keep 59 = .ok (.return_, 1) := by decide +kernel
set_option maxRecDepth 20000 in
theorem ggX1_setTo_X0_rowBits : GoodIn wsX1_setTo wsX0_rowBits := goodIn_r _ [6, 7, 8, 9, 11, 12, 13, 14] (by decide +kernel) (by decide +kernel)
set_option maxRecDepth 20000 in
theorem gX1_setTo_X0_rowBits : GoodIn wsX1_setTo (wsV RX1 21 RX0 yX0_rowBits wsX0_rowBits) := goodIn_app (goodIn_of _ (by decide +kernel)) ggX1_setTo_X0_rowBits
theorem dX1_setTo_0 : decode cX1_setTo 0 = .ok (.aload_n 1, 1) := by decide +kernel
theorem dX1_setTo_1 : decode cX1_setTo 1 = .ok (.invokevirtual 21, 3) := by decide +kernel
theorem dX1_setTo_4 : decode cX1_setTo 4 = .ok (.lstore_n 2, 1) := by decide +kernel
theorem dX1_setTo_5 : decode cX1_setTo 5 = .ok (.iconst 0, 1) := by decide +kernel
theorem dX1_setTo_6 : decode cX1_setTo 6 = .ok (.istore 4, 2) := by decide +kernel
theorem dX1_setTo_8 : decode cX1_setTo 8 = .ok (.iload 4, 2) := by decide +kernel
theorem dX1_setTo_10 : decode cX1_setTo 10 = .ok (.bipush 64, 2) := by decide +kernel
theorem dX1_setTo_12 : decode cX1_setTo 12 = .ok (.if_icmp .ge 39, 3) := by decide +kernel
theorem dX1_setTo_15 : decode cX1_setTo 15 = .ok (.aload_n 0, 1) := by decide +kernel
theorem dX1_setTo_16 : decode cX1_setTo 16 = .ok (.getfield 9, 3) := by decide +kernel
theorem dX1_setTo_19 : decode cX1_setTo 19 = .ok (.iload 4, 2) := by decide +kernel
theorem dX1_setTo_21 : decode cX1_setTo 21 = .ok (.iload 4, 2) := by decide +kernel
theorem dX1_setTo_23 : decode cX1_setTo 23 = .ok (.aload_n 1, 1) := by decide +kernel
theorem dX1_setTo_24 : decode cX1_setTo 24 = .ok (.getfield 27, 3) := by decide +kernel
theorem dX1_setTo_27 : decode cX1_setTo 27 = .ok (.if_icmp .lt 12, 3) := by decide +kernel
theorem dX1_setTo_30 : decode cX1_setTo 30 = .ok (.iload 4, 2) := by decide +kernel
theorem dX1_setTo_32 : decode cX1_setTo 32 = .ok (.aload_n 1, 1) := by decide +kernel
theorem dX1_setTo_33 : decode cX1_setTo 33 = .ok (.getfield 31, 3) := by decide +kernel
theorem dX1_setTo_36 : decode cX1_setTo 36 = .ok (.if_icmp .le 7, 3) := by decide +kernel
theorem dX1_setTo_39 : decode cX1_setTo 39 = .ok (.lconst 0, 1) := by decide +kernel
theorem dX1_setTo_40 : decode cX1_setTo 40 = .ok (.goto 4, 3) := by decide +kernel
theorem dX1_setTo_43 : decode cX1_setTo 43 = .ok (.lload_n 2, 1) := by decide +kernel
theorem dX1_setTo_44 : decode cX1_setTo 44 = .ok (.lastore, 1) := by decide +kernel
theorem dX1_setTo_45 : decode cX1_setTo 45 = .ok (.iinc 4 1, 3) := by decide +kernel
theorem dX1_setTo_48 : decode cX1_setTo 48 = .ok (.goto (-40), 3) := by decide +kernel
theorem dX1_setTo_51 : decode cX1_setTo 51 = .ok (.return_, 1) := by decide +kernel
theorem dX1_setToAllBut_0 : decode cX1_setToAllBut 0 = .ok (.iconst 0, 1) := by decide +kernel
theorem dX1_setToAllBut_1 : decode cX1_setToAllBut 1 = .ok (.istore_n 2, 1) := by decide +kernel
theorem dX1_setToAllBut_2 : decode cX1_setToAllBut 2 = .ok (.iload_n 2, 1) := by decide +kernel
theorem dX1_setToAllBut_3 : decode cX1_setToAllBut 3 = .ok (.bipush 64, 2) := by decide +kernel
theorem dX1_setToAllBut_5 : decode cX1_setToAllBut 5 = .ok (.if_icmp .ge 25, 3) := by decide +kernel
theorem dX1_setToAllBut_8 : decode cX1_setToAllBut 8 = .ok (.aload_n 0, 1) := by decide +kernel
theorem dX1_setToAllBut_9 : decode cX1_setToAllBut 9 = .ok (.getfield 9, 3) := by decide +kernel
theorem dX1_setToAllBut_12 : decode cX1_setToAllBut 12 = .ok (.iload_n 2, 1) := by decide +kernel
theorem dX1_setToAllBut_13 : decode cX1_setToAllBut 13 = .ok (.aload_n 1, 1) := by decide +kernel
theorem dX1_setToAllBut_14 : decode cX1_setToAllBut 14 = .ok (.getfield 9, 3) := by decide +kernel
theorem dX1_setToAllBut_17 : decode cX1_setToAllBut 17 = .ok (.iload_n 2, 1) := by decide +kernel
theorem dX1_setToAllBut_18 : decode cX1_setToAllBut 18 = .ok (.laload, 1) := by decide +kernel
theorem dX1_setToAllBut_19 : decode cX1_setToAllBut 19 = .ok (.ldc2_w 34, 3) := by decide +kernel
theorem dX1_setToAllBut_22 : decode cX1_setToAllBut 22 = .ok (.lxor, 1) := by decide +kernel
theorem dX1_setToAllBut_23 : decode cX1_setToAllBut 23 = .ok (.lastore, 1) := by decide +kernel
theorem dX1_setToAllBut_24 : decode cX1_setToAllBut 24 = .ok (.iinc 2 1, 3) := by decide +kernel
theorem dX1_setToAllBut_27 : decode cX1_setToAllBut 27 = .ok (.goto (-25), 3) := by decide +kernel
theorem dX1_setToAllBut_30 : decode cX1_setToAllBut 30 = .ok (.return_, 1) := by decide +kernel
theorem dX1_drop_0 : decode cX1_drop 0 = .ok (.iconst 0, 1) := by decide +kernel
theorem dX1_drop_1 : decode cX1_drop 1 = .ok (.istore_n 2, 1) := by decide +kernel
theorem dX1_drop_2 : decode cX1_drop 2 = .ok (.iload_n 2, 1) := by decide +kernel
theorem dX1_drop_3 : decode cX1_drop 3 = .ok (.bipush 64, 2) := by decide +kernel
theorem dX1_drop_5 : decode cX1_drop 5 = .ok (.if_icmp .ge 28, 3) := by decide +kernel
theorem dX1_drop_8 : decode cX1_drop 8 = .ok (.aload_n 0, 1) := by decide +kernel
theorem dX1_drop_9 : decode cX1_drop 9 = .ok (.getfield 9, 3) := by decide +kernel
theorem dX1_drop_12 : decode cX1_drop 12 = .ok (.iload_n 2, 1) := by decide +kernel
theorem dX1_drop_13 : decode cX1_drop 13 = .ok (.dup2, 1) := by decide +kernel
theorem dX1_drop_14 : decode cX1_drop 14 = .ok (.laload, 1) := by decide +kernel
theorem dX1_drop_15 : decode cX1_drop 15 = .ok (.aload_n 1, 1) := by decide +kernel
theorem dX1_drop_16 : decode cX1_drop 16 = .ok (.getfield 9, 3) := by decide +kernel
theorem dX1_drop_19 : decode cX1_drop 19 = .ok (.iload_n 2, 1) := by decide +kernel
theorem dX1_drop_20 : decode cX1_drop 20 = .ok (.laload, 1) := by decide +kernel
theorem dX1_drop_21 : decode cX1_drop 21 = .ok (.ldc2_w 34, 3) := by decide +kernel
theorem dX1_drop_24 : decode cX1_drop 24 = .ok (.lxor, 1) := by decide +kernel
theorem dX1_drop_25 : decode cX1_drop 25 = .ok (.land, 1) := by decide +kernel
theorem dX1_drop_26 : decode cX1_drop 26 = .ok (.lastore, 1) := by decide +kernel
theorem dX1_drop_27 : decode cX1_drop 27 = .ok (.iinc 2 1, 3) := by decide +kernel
theorem dX1_drop_30 : decode cX1_drop 30 = .ok (.goto (-28), 3) := by decide +kernel
theorem dX1_drop_33 : decode cX1_drop 33 = .ok (.return_, 1) := by decide +kernel
theorem dX1_takeWithin_0 : decode cX1_takeWithin 0 = .ok (.iconst 0, 1) := by decide +kernel
theorem dX1_takeWithin_1 : decode cX1_takeWithin 1 = .ok (.istore_n 3, 1) := by decide +kernel
theorem dX1_takeWithin_2 : decode cX1_takeWithin 2 = .ok (.iload_n 3, 1) := by decide +kernel
theorem dX1_takeWithin_3 : decode cX1_takeWithin 3 = .ok (.bipush 64, 2) := by decide +kernel
theorem dX1_takeWithin_5 : decode cX1_takeWithin 5 = .ok (.if_icmp .ge 46, 3) := by decide +kernel
theorem dX1_takeWithin_8 : decode cX1_takeWithin 8 = .ok (.aload_n 1, 1) := by decide +kernel
theorem dX1_takeWithin_9 : decode cX1_takeWithin 9 = .ok (.getfield 9, 3) := by decide +kernel
theorem dX1_takeWithin_12 : decode cX1_takeWithin 12 = .ok (.iload_n 3, 1) := by decide +kernel
theorem dX1_takeWithin_13 : decode cX1_takeWithin 13 = .ok (.laload, 1) := by decide +kernel
theorem dX1_takeWithin_14 : decode cX1_takeWithin 14 = .ok (.lstore 4, 2) := by decide +kernel
theorem dX1_takeWithin_16 : decode cX1_takeWithin 16 = .ok (.aload_n 0, 1) := by decide +kernel
theorem dX1_takeWithin_17 : decode cX1_takeWithin 17 = .ok (.getfield 9, 3) := by decide +kernel
theorem dX1_takeWithin_20 : decode cX1_takeWithin 20 = .ok (.iload_n 3, 1) := by decide +kernel
theorem dX1_takeWithin_21 : decode cX1_takeWithin 21 = .ok (.aload_n 0, 1) := by decide +kernel
theorem dX1_takeWithin_22 : decode cX1_takeWithin 22 = .ok (.getfield 9, 3) := by decide +kernel
theorem dX1_takeWithin_25 : decode cX1_takeWithin 25 = .ok (.iload_n 3, 1) := by decide +kernel
theorem dX1_takeWithin_26 : decode cX1_takeWithin 26 = .ok (.laload, 1) := by decide +kernel
theorem dX1_takeWithin_27 : decode cX1_takeWithin 27 = .ok (.lload 4, 2) := by decide +kernel
theorem dX1_takeWithin_29 : decode cX1_takeWithin 29 = .ok (.ldc2_w 34, 3) := by decide +kernel
theorem dX1_takeWithin_32 : decode cX1_takeWithin 32 = .ok (.lxor, 1) := by decide +kernel
theorem dX1_takeWithin_33 : decode cX1_takeWithin 33 = .ok (.land, 1) := by decide +kernel
theorem dX1_takeWithin_34 : decode cX1_takeWithin 34 = .ok (.aload_n 2, 1) := by decide +kernel
theorem dX1_takeWithin_35 : decode cX1_takeWithin 35 = .ok (.getfield 9, 3) := by decide +kernel
theorem dX1_takeWithin_38 : decode cX1_takeWithin 38 = .ok (.iload_n 3, 1) := by decide +kernel
theorem dX1_takeWithin_39 : decode cX1_takeWithin 39 = .ok (.laload, 1) := by decide +kernel
theorem dX1_takeWithin_40 : decode cX1_takeWithin 40 = .ok (.lload 4, 2) := by decide +kernel
theorem dX1_takeWithin_42 : decode cX1_takeWithin 42 = .ok (.land, 1) := by decide +kernel
theorem dX1_takeWithin_43 : decode cX1_takeWithin 43 = .ok (.lor, 1) := by decide +kernel
theorem dX1_takeWithin_44 : decode cX1_takeWithin 44 = .ok (.lastore, 1) := by decide +kernel
theorem dX1_takeWithin_45 : decode cX1_takeWithin 45 = .ok (.iinc 3 1, 3) := by decide +kernel
theorem dX1_takeWithin_48 : decode cX1_takeWithin 48 = .ok (.goto (-46), 3) := by decide +kernel
theorem dX1_takeWithin_51 : decode cX1_takeWithin 51 = .ok (.return_, 1) := by decide +kernel
set_option maxRecDepth 20000 in
theorem ggX1_widen_X1_spread : GoodIn wsX1_widen wsX1_spread := goodIn_r _ [9, 10, 11] (by decide +kernel) (by decide +kernel)
set_option maxRecDepth 20000 in
theorem gX1_widen_X1_spread : GoodIn wsX1_widen (wsV RX1 42 RX1 yX1_spread wsX1_spread) := goodIn_app (goodIn_of _ (by decide +kernel)) ggX1_widen_X1_spread
theorem dX1_widen_0 : decode cX1_widen 0 = .ok (.iconst 0, 1) := by decide +kernel
theorem dX1_widen_1 : decode cX1_widen 1 = .ok (.istore_n 2, 1) := by decide +kernel
theorem dX1_widen_2 : decode cX1_widen 2 = .ok (.iload_n 2, 1) := by decide +kernel
theorem dX1_widen_3 : decode cX1_widen 3 = .ok (.iload_n 1, 1) := by decide +kernel
theorem dX1_widen_4 : decode cX1_widen 4 = .ok (.if_icmp .ge 25, 3) := by decide +kernel
theorem dX1_widen_7 : decode cX1_widen 7 = .ok (.iload_n 2, 1) := by decide +kernel
theorem dX1_widen_8 : decode cX1_widen 8 = .ok (.iconst 1, 1) := by decide +kernel
theorem dX1_widen_9 : decode cX1_widen 9 = .ok (.iadd, 1) := by decide +kernel
theorem dX1_widen_10 : decode cX1_widen 10 = .ok (.iload_n 1, 1) := by decide +kernel
theorem dX1_widen_11 : decode cX1_widen 11 = .ok (.iload_n 2, 1) := by decide +kernel
theorem dX1_widen_12 : decode cX1_widen 12 = .ok (.isub, 1) := by decide +kernel
theorem dX1_widen_13 : decode cX1_widen 13 = .ok (.invokestatic 36, 3) := by decide +kernel
theorem dX1_widen_16 : decode cX1_widen 16 = .ok (.istore_n 3, 1) := by decide +kernel
theorem dX1_widen_17 : decode cX1_widen 17 = .ok (.aload_n 0, 1) := by decide +kernel
theorem dX1_widen_18 : decode cX1_widen 18 = .ok (.iload_n 3, 1) := by decide +kernel
theorem dX1_widen_19 : decode cX1_widen 19 = .ok (.invokevirtual 42, 3) := by decide +kernel
theorem dX1_widen_22 : decode cX1_widen 22 = .ok (.iload_n 2, 1) := by decide +kernel
theorem dX1_widen_23 : decode cX1_widen 23 = .ok (.iload_n 3, 1) := by decide +kernel
theorem dX1_widen_24 : decode cX1_widen 24 = .ok (.iadd, 1) := by decide +kernel
theorem dX1_widen_25 : decode cX1_widen 25 = .ok (.istore_n 2, 1) := by decide +kernel
theorem dX1_widen_26 : decode cX1_widen 26 = .ok (.goto (-24), 3) := by decide +kernel
theorem dX1_widen_29 : decode cX1_widen 29 = .ok (.return_, 1) := by decide +kernel
theorem dX1_spread_0 : decode cX1_spread 0 = .ok (.iconst 0, 1) := by decide +kernel
theorem dX1_spread_1 : decode cX1_spread 1 = .ok (.istore_n 2, 1) := by decide +kernel
theorem dX1_spread_2 : decode cX1_spread 2 = .ok (.iload_n 2, 1) := by decide +kernel
theorem dX1_spread_3 : decode cX1_spread 3 = .ok (.bipush 64, 2) := by decide +kernel
theorem dX1_spread_5 : decode cX1_spread 5 = .ok (.if_icmp .ge 35, 3) := by decide +kernel
theorem dX1_spread_8 : decode cX1_spread 8 = .ok (.aload_n 0, 1) := by decide +kernel
theorem dX1_spread_9 : decode cX1_spread 9 = .ok (.getfield 9, 3) := by decide +kernel
theorem dX1_spread_12 : decode cX1_spread 12 = .ok (.iload_n 2, 1) := by decide +kernel
theorem dX1_spread_13 : decode cX1_spread 13 = .ok (.dup2, 1) := by decide +kernel
theorem dX1_spread_14 : decode cX1_spread 14 = .ok (.laload, 1) := by decide +kernel
theorem dX1_spread_15 : decode cX1_spread 15 = .ok (.aload_n 0, 1) := by decide +kernel
theorem dX1_spread_16 : decode cX1_spread 16 = .ok (.getfield 9, 3) := by decide +kernel
theorem dX1_spread_19 : decode cX1_spread 19 = .ok (.iload_n 2, 1) := by decide +kernel
theorem dX1_spread_20 : decode cX1_spread 20 = .ok (.laload, 1) := by decide +kernel
theorem dX1_spread_21 : decode cX1_spread 21 = .ok (.iload_n 1, 1) := by decide +kernel
theorem dX1_spread_22 : decode cX1_spread 22 = .ok (.lshl, 1) := by decide +kernel
theorem dX1_spread_23 : decode cX1_spread 23 = .ok (.aload_n 0, 1) := by decide +kernel
theorem dX1_spread_24 : decode cX1_spread 24 = .ok (.getfield 9, 3) := by decide +kernel
theorem dX1_spread_27 : decode cX1_spread 27 = .ok (.iload_n 2, 1) := by decide +kernel
theorem dX1_spread_28 : decode cX1_spread 28 = .ok (.laload, 1) := by decide +kernel
theorem dX1_spread_29 : decode cX1_spread 29 = .ok (.iload_n 1, 1) := by decide +kernel
theorem dX1_spread_30 : decode cX1_spread 30 = .ok (.lushr, 1) := by decide +kernel
theorem dX1_spread_31 : decode cX1_spread 31 = .ok (.lor, 1) := by decide +kernel
theorem dX1_spread_32 : decode cX1_spread 32 = .ok (.lor, 1) := by decide +kernel
theorem dX1_spread_33 : decode cX1_spread 33 = .ok (.lastore, 1) := by decide +kernel
theorem dX1_spread_34 : decode cX1_spread 34 = .ok (.iinc 2 1, 3) := by decide +kernel
theorem dX1_spread_37 : decode cX1_spread 37 = .ok (.goto (-35), 3) := by decide +kernel
theorem dX1_spread_40 : decode cX1_spread 40 = .ok (.bipush 63, 2) := by decide +kernel
theorem dX1_spread_42 : decode cX1_spread 42 = .ok (.istore_n 2, 1) := by decide +kernel
theorem dX1_spread_43 : decode cX1_spread 43 = .ok (.iload_n 2, 1) := by decide +kernel
theorem dX1_spread_44 : decode cX1_spread 44 = .ok (.iload_n 1, 1) := by decide +kernel
theorem dX1_spread_45 : decode cX1_spread 45 = .ok (.if_icmp .lt 26, 3) := by decide +kernel
theorem dX1_spread_48 : decode cX1_spread 48 = .ok (.aload_n 0, 1) := by decide +kernel
theorem dX1_spread_49 : decode cX1_spread 49 = .ok (.getfield 9, 3) := by decide +kernel
theorem dX1_spread_52 : decode cX1_spread 52 = .ok (.iload_n 2, 1) := by decide +kernel
theorem dX1_spread_53 : decode cX1_spread 53 = .ok (.dup2, 1) := by decide +kernel
theorem dX1_spread_54 : decode cX1_spread 54 = .ok (.laload, 1) := by decide +kernel
theorem dX1_spread_55 : decode cX1_spread 55 = .ok (.aload_n 0, 1) := by decide +kernel
theorem dX1_spread_56 : decode cX1_spread 56 = .ok (.getfield 9, 3) := by decide +kernel
theorem dX1_spread_59 : decode cX1_spread 59 = .ok (.iload_n 2, 1) := by decide +kernel
theorem dX1_spread_60 : decode cX1_spread 60 = .ok (.iload_n 1, 1) := by decide +kernel
theorem dX1_spread_61 : decode cX1_spread 61 = .ok (.isub, 1) := by decide +kernel
theorem dX1_spread_62 : decode cX1_spread 62 = .ok (.laload, 1) := by decide +kernel
theorem dX1_spread_63 : decode cX1_spread 63 = .ok (.lor, 1) := by decide +kernel
theorem dX1_spread_64 : decode cX1_spread 64 = .ok (.lastore, 1) := by decide +kernel
theorem dX1_spread_65 : decode cX1_spread 65 = .ok (.iinc 2 (-1), 3) := by decide +kernel
theorem dX1_spread_68 : decode cX1_spread 68 = .ok (.goto (-25), 3) := by decide +kernel
theorem dX1_spread_71 : decode cX1_spread 71 = .ok (.iconst 0, 1) := by decide +kernel
theorem dX1_spread_72 : decode cX1_spread 72 = .ok (.istore_n 2, 1) := by decide +kernel
theorem dX1_spread_73 : decode cX1_spread 73 = .ok (.iload_n 2, 1) := by decide +kernel
theorem dX1_spread_74 : decode cX1_spread 74 = .ok (.bipush 64, 2) := by decide +kernel
theorem dX1_spread_76 : decode cX1_spread 76 = .ok (.iload_n 1, 1) := by decide +kernel
theorem dX1_spread_77 : decode cX1_spread 77 = .ok (.isub, 1) := by decide +kernel
theorem dX1_spread_78 : decode cX1_spread 78 = .ok (.if_icmp .ge 26, 3) := by decide +kernel
theorem dX1_spread_81 : decode cX1_spread 81 = .ok (.aload_n 0, 1) := by decide +kernel
theorem dX1_spread_82 : decode cX1_spread 82 = .ok (.getfield 9, 3) := by decide +kernel
theorem dX1_spread_85 : decode cX1_spread 85 = .ok (.iload_n 2, 1) := by decide +kernel
theorem dX1_spread_86 : decode cX1_spread 86 = .ok (.dup2, 1) := by decide +kernel
theorem dX1_spread_87 : decode cX1_spread 87 = .ok (.laload, 1) := by decide +kernel
theorem dX1_spread_88 : decode cX1_spread 88 = .ok (.aload_n 0, 1) := by decide +kernel
theorem dX1_spread_89 : decode cX1_spread 89 = .ok (.getfield 9, 3) := by decide +kernel
theorem dX1_spread_92 : decode cX1_spread 92 = .ok (.iload_n 2, 1) := by decide +kernel
theorem dX1_spread_93 : decode cX1_spread 93 = .ok (.iload_n 1, 1) := by decide +kernel
theorem dX1_spread_94 : decode cX1_spread 94 = .ok (.iadd, 1) := by decide +kernel
theorem dX1_spread_95 : decode cX1_spread 95 = .ok (.laload, 1) := by decide +kernel
theorem dX1_spread_96 : decode cX1_spread 96 = .ok (.lor, 1) := by decide +kernel
theorem dX1_spread_97 : decode cX1_spread 97 = .ok (.lastore, 1) := by decide +kernel
theorem dX1_spread_98 : decode cX1_spread 98 = .ok (.iinc 2 1, 3) := by decide +kernel
theorem dX1_spread_101 : decode cX1_spread 101 = .ok (.goto (-28), 3) := by decide +kernel
theorem dX1_spread_104 : decode cX1_spread 104 = .ok (.return_, 1) := by decide +kernel
set_option maxRecDepth 20000 in
theorem ggX2_init_X1_init : GoodIn wsX2_init wsX1_init := goodIn_r _ [12, 13, 2, 3, 14, 15, 19] (by decide +kernel) (by decide +kernel)
set_option maxRecDepth 20000 in
theorem gX2_init_X1_init : GoodIn wsX2_init (wsX1_init) := ggX2_init_X1_init
theorem dX2_init_0 : decode cX2_init 0 = .ok (.aload_n 0, 1) := by decide +kernel
theorem dX2_init_1 : decode cX2_init 1 = .ok (.invokespecial 3, 3) := by decide +kernel
theorem dX2_init_4 : decode cX2_init 4 = .ok (.aload_n 0, 1) := by decide +kernel
theorem dX2_init_5 : decode cX2_init 5 = .ok (.bipush 81, 2) := by decide +kernel
theorem dX2_init_7 : decode cX2_init 7 = .ok (.anewarray 9, 3) := by decide +kernel
theorem dX2_init_10 : decode cX2_init 10 = .ok (.putfield 11, 3) := by decide +kernel
theorem dX2_init_13 : decode cX2_init 13 = .ok (.iconst 0, 1) := by decide +kernel
theorem dX2_init_14 : decode cX2_init 14 = .ok (.istore_n 1, 1) := by decide +kernel
theorem dX2_init_15 : decode cX2_init 15 = .ok (.iload_n 1, 1) := by decide +kernel
theorem dX2_init_16 : decode cX2_init 16 = .ok (.bipush 80, 2) := by decide +kernel
theorem dX2_init_18 : decode cX2_init 18 = .ok (.if_icmp .gt 22, 3) := by decide +kernel
theorem dX2_init_21 : decode cX2_init 21 = .ok (.aload_n 0, 1) := by decide +kernel
theorem dX2_init_22 : decode cX2_init 22 = .ok (.getfield 11, 3) := by decide +kernel
theorem dX2_init_25 : decode cX2_init 25 = .ok (.iload_n 1, 1) := by decide +kernel
theorem dX2_init_26 : decode cX2_init 26 = .ok (.new 9, 3) := by decide +kernel
theorem dX2_init_29 : decode cX2_init 29 = .ok (.dup, 1) := by decide +kernel
theorem dX2_init_30 : decode cX2_init 30 = .ok (.invokespecial 17, 3) := by decide +kernel
theorem dX2_init_33 : decode cX2_init 33 = .ok (.aastore, 1) := by decide +kernel
theorem dX2_init_34 : decode cX2_init 34 = .ok (.iinc 1 1, 3) := by decide +kernel
theorem dX2_init_37 : decode cX2_init 37 = .ok (.goto (-22), 3) := by decide +kernel
theorem dX2_init_40 : decode cX2_init 40 = .ok (.aload_n 0, 1) := by decide +kernel
theorem dX2_init_41 : decode cX2_init 41 = .ok (.iconst 0, 1) := by decide +kernel
theorem dX2_init_42 : decode cX2_init 42 = .ok (.putfield 18, 3) := by decide +kernel
theorem dX2_init_45 : decode cX2_init 45 = .ok (.aload_n 0, 1) := by decide +kernel
theorem dX2_init_46 : decode cX2_init 46 = .ok (.iconst 0, 1) := by decide +kernel
theorem dX2_init_47 : decode cX2_init 47 = .ok (.putfield 22, 3) := by decide +kernel
theorem dX2_init_50 : decode cX2_init 50 = .ok (.return_, 1) := by decide +kernel
set_option maxRecDepth 20000 in
theorem ggX2_fewest_X2_advance : GoodIn wsX2_fewest wsX2_advance := goodIn_r _ [7, 1, 2, 8, 9, 10, 11, 12, 13, 14, 15, 16, 17, 18, 19, 20, 21, 22, 23, 24, 25, 26, 27, 28, 29, 30, 31, 32, 33, 34, 35, 36, 37, 38, 39, 40, 41, 42, 43, 44, 45, 46, 47, 48, 49, 75, 76, 77, 78, 79, 80, 81, 82, 83, 84, 85, 86, 87, 88, 89] (by decide +kernel) (by decide +kernel)
set_option maxRecDepth 20000 in
theorem gX2_fewest_X2_advance : GoodIn wsX2_fewest (wsV RX2 25 RX2 yX2_advance wsX2_advance) := goodIn_app (goodIn_of _ (by decide +kernel)) ggX2_fewest_X2_advance
set_option maxRecDepth 20000 in
theorem ggX2_fewest_X2_countTick : GoodIn wsX2_fewest wsX2_countTick := goodIn_r _ [53, 2, 1, 8, 54, 55, 56, 19, 57, 29, 58, 59, 60, 61, 62, 75, 76, 77, 85] (by decide +kernel) (by decide +kernel)
set_option maxRecDepth 20000 in
theorem gX2_fewest_X2_countTick : GoodIn wsX2_fewest (wsV RX2 29 RX2 yX2_countTick wsX2_countTick) := goodIn_app (goodIn_of _ (by decide +kernel)) ggX2_fewest_X2_countTick
set_option maxRecDepth 20000 in
theorem ggX2_fewest_X3_reachAt : GoodIn wsX2_fewest wsX3_reachAt := goodIn_r _ [45, 15, 78, 79, 80, 81, 82, 83, 84] (by decide +kernel) (by decide +kernel)
set_option maxRecDepth 20000 in
theorem gX2_fewest_X3_reachAt : GoodIn wsX2_fewest (wsV RX2 33 RX3 yX3_reachAt wsX3_reachAt) := goodIn_app (goodIn_of _ (by decide +kernel)) ggX2_fewest_X3_reachAt
set_option maxRecDepth 20000 in
theorem ggX2_fewest_X2_narrow : GoodIn wsX2_fewest wsX2_narrow := goodIn_r _ [66, 1, 2, 8, 67, 68, 69, 19, 70, 29, 71, 72, 73, 74, 34, 35, 36, 37, 38, 39, 40, 41, 75, 76, 77, 85, 86, 87, 88, 89] (by decide +kernel) (by decide +kernel)
set_option maxRecDepth 20000 in
theorem gX2_fewest_X2_narrow : GoodIn wsX2_fewest (wsV RX2 39 RX2 yX2_narrow wsX2_narrow) := goodIn_app (goodIn_of _ (by decide +kernel)) ggX2_fewest_X2_narrow
theorem dX2_fewest_0 : decode cX2_fewest 0 = .ok (.aload_n 0, 1) := by decide +kernel
theorem dX2_fewest_1 : decode cX2_fewest 1 = .ok (.iconst 0, 1) := by decide +kernel
theorem dX2_fewest_2 : decode cX2_fewest 2 = .ok (.putfield 18, 3) := by decide +kernel
theorem dX2_fewest_5 : decode cX2_fewest 5 = .ok (.aload_n 0, 1) := by decide +kernel
theorem dX2_fewest_6 : decode cX2_fewest 6 = .ok (.iconst 0, 1) := by decide +kernel
theorem dX2_fewest_7 : decode cX2_fewest 7 = .ok (.putfield 22, 3) := by decide +kernel
theorem dX2_fewest_10 : decode cX2_fewest 10 = .ok (.iload_n 3, 1) := by decide +kernel
theorem dX2_fewest_11 : decode cX2_fewest 11 = .ok (.istore 5, 2) := by decide +kernel
theorem dX2_fewest_13 : decode cX2_fewest 13 = .ok (.iload 5, 2) := by decide +kernel
theorem dX2_fewest_15 : decode cX2_fewest 15 = .ok (.iload 4, 2) := by decide +kernel
theorem dX2_fewest_17 : decode cX2_fewest 17 = .ok (.if_icmp .gt 31, 3) := by decide +kernel
theorem dX2_fewest_20 : decode cX2_fewest 20 = .ok (.aload_n 0, 1) := by decide +kernel
theorem dX2_fewest_21 : decode cX2_fewest 21 = .ok (.aload_n 1, 1) := by decide +kernel
theorem dX2_fewest_22 : decode cX2_fewest 22 = .ok (.iload 5, 2) := by decide +kernel
theorem dX2_fewest_24 : decode cX2_fewest 24 = .ok (.invokevirtual 25, 3) := by decide +kernel
theorem dX2_fewest_27 : decode cX2_fewest 27 = .ok (.aload_n 0, 1) := by decide +kernel
theorem dX2_fewest_28 : decode cX2_fewest 28 = .ok (.aload_n 2, 1) := by decide +kernel
theorem dX2_fewest_29 : decode cX2_fewest 29 = .ok (.invokevirtual 29, 3) := by decide +kernel
theorem dX2_fewest_32 : decode cX2_fewest 32 = .ok (.aload_n 0, 1) := by decide +kernel
theorem dX2_fewest_33 : decode cX2_fewest 33 = .ok (.aload_n 1, 1) := by decide +kernel
theorem dX2_fewest_34 : decode cX2_fewest 34 = .ok (.iload 5, 2) := by decide +kernel
theorem dX2_fewest_36 : decode cX2_fewest 36 = .ok (.invokevirtual 33, 3) := by decide +kernel
theorem dX2_fewest_39 : decode cX2_fewest 39 = .ok (.invokevirtual 39, 3) := by decide +kernel
theorem dX2_fewest_42 : decode cX2_fewest 42 = .ok (.iinc 5 1, 3) := by decide +kernel
theorem dX2_fewest_45 : decode cX2_fewest 45 = .ok (.goto (-32), 3) := by decide +kernel
theorem dX2_fewest_48 : decode cX2_fewest 48 = .ok (.aload_n 0, 1) := by decide +kernel
theorem dX2_fewest_49 : decode cX2_fewest 49 = .ok (.getfield 18, 3) := by decide +kernel
theorem dX2_fewest_52 : decode cX2_fewest 52 = .ok (.ireturn, 1) := by decide +kernel
set_option maxRecDepth 20000 in
theorem ggX2_advance_X3_advance : GoodIn wsX2_advance wsX3_advance := goodIn_r _ [8, 9, 10, 11, 12, 13, 14, 15, 16, 17, 18, 19, 20, 21, 22, 23, 24, 25, 26, 27, 28, 29, 30, 31, 32, 33, 34, 35, 36, 48, 49, 50, 51, 52, 53, 54, 55, 56, 57, 58, 59] (by decide +kernel) (by decide +kernel)
set_option maxRecDepth 20000 in
theorem gX2_advance_X3_advance : GoodIn wsX2_advance (wsV RX2 43 RX3 yX3_advance wsX3_advance) := goodIn_app (goodIn_of _ (by decide +kernel)) ggX2_advance_X3_advance
set_option maxRecDepth 20000 in
theorem ggX2_advance_X3_reachAt : GoodIn wsX2_advance wsX3_reachAt := goodIn_r _ [40, 10, 48, 49, 50, 51, 52, 53, 54] (by decide +kernel) (by decide +kernel)
set_option maxRecDepth 20000 in
theorem gX2_advance_X3_reachAt : GoodIn wsX2_advance (wsV RX2 33 RX3 yX3_reachAt wsX3_reachAt) := goodIn_app (goodIn_of _ (by decide +kernel)) ggX2_advance_X3_reachAt
set_option maxRecDepth 20000 in
theorem ggX2_advance_X1_setTo : GoodIn wsX2_advance wsX1_setTo := goodIn_r _ [44, 24, 29, 30, 31, 32, 33, 34, 35, 36, 55, 56, 57, 58, 59] (by decide +kernel) (by decide +kernel)
set_option maxRecDepth 20000 in
theorem gX2_advance_X1_setTo : GoodIn wsX2_advance (wsV RX2 46 RX1 yX1_setTo wsX1_setTo) := goodIn_app (goodIn_of _ (by decide +kernel)) ggX2_advance_X1_setTo
theorem dX2_advance_0 : decode cX2_advance 0 = .ok (.aload_n 0, 1) := by decide +kernel
theorem dX2_advance_1 : decode cX2_advance 1 = .ok (.getfield 18, 3) := by decide +kernel
theorem dX2_advance_4 : decode cX2_advance 4 = .ok (.istore_n 3, 1) := by decide +kernel
theorem dX2_advance_5 : decode cX2_advance 5 = .ok (.iload_n 3, 1) := by decide +kernel
theorem dX2_advance_6 : decode cX2_advance 6 = .ok (.aload_n 0, 1) := by decide +kernel
theorem dX2_advance_7 : decode cX2_advance 7 = .ok (.getfield 22, 3) := by decide +kernel
theorem dX2_advance_10 : decode cX2_advance 10 = .ok (.if_icmp .ge 20, 3) := by decide +kernel
theorem dX2_advance_13 : decode cX2_advance 13 = .ok (.aload_n 1, 1) := by decide +kernel
theorem dX2_advance_14 : decode cX2_advance 14 = .ok (.aload_n 0, 1) := by decide +kernel
theorem dX2_advance_15 : decode cX2_advance 15 = .ok (.getfield 11, 3) := by decide +kernel
theorem dX2_advance_18 : decode cX2_advance 18 = .ok (.iload_n 3, 1) := by decide +kernel
theorem dX2_advance_19 : decode cX2_advance 19 = .ok (.aaload, 1) := by decide +kernel
theorem dX2_advance_20 : decode cX2_advance 20 = .ok (.iload_n 2, 1) := by decide +kernel
theorem dX2_advance_21 : decode cX2_advance 21 = .ok (.invokevirtual 43, 3) := by decide +kernel
theorem dX2_advance_24 : decode cX2_advance 24 = .ok (.iinc 3 1, 3) := by decide +kernel
theorem dX2_advance_27 : decode cX2_advance 27 = .ok (.goto (-22), 3) := by decide +kernel
theorem dX2_advance_30 : decode cX2_advance 30 = .ok (.aload_n 0, 1) := by decide +kernel
theorem dX2_advance_31 : decode cX2_advance 31 = .ok (.getfield 11, 3) := by decide +kernel
theorem dX2_advance_34 : decode cX2_advance 34 = .ok (.aload_n 0, 1) := by decide +kernel
theorem dX2_advance_35 : decode cX2_advance 35 = .ok (.getfield 22, 3) := by decide +kernel
theorem dX2_advance_38 : decode cX2_advance 38 = .ok (.aaload, 1) := by decide +kernel
theorem dX2_advance_39 : decode cX2_advance 39 = .ok (.aload_n 1, 1) := by decide +kernel
theorem dX2_advance_40 : decode cX2_advance 40 = .ok (.iload_n 2, 1) := by decide +kernel
theorem dX2_advance_41 : decode cX2_advance 41 = .ok (.invokevirtual 33, 3) := by decide +kernel
theorem dX2_advance_44 : decode cX2_advance 44 = .ok (.invokevirtual 46, 3) := by decide +kernel
theorem dX2_advance_47 : decode cX2_advance 47 = .ok (.return_, 1) := by decide +kernel
set_option maxRecDepth 20000 in
theorem ggX2_countTick_X1_takeWithin : GoodIn wsX2_countTick wsX1_takeWithin := goodIn_r _ [8, 9, 10, 18] (by decide +kernel) (by decide +kernel)
set_option maxRecDepth 20000 in
theorem gX2_countTick_X1_takeWithin : GoodIn wsX2_countTick (wsV RX2 49 RX1 yX1_takeWithin wsX1_takeWithin) := goodIn_app (goodIn_of _ (by decide +kernel)) ggX2_countTick_X1_takeWithin
set_option maxRecDepth 20000 in
theorem ggX2_countTick_X1_drop : GoodIn wsX2_countTick wsX1_drop := goodIn_r _ [14, 9, 10, 18] (by decide +kernel) (by decide +kernel)
set_option maxRecDepth 20000 in
theorem gX2_countTick_X1_drop : GoodIn wsX2_countTick (wsV RX2 53 RX1 yX1_drop wsX1_drop) := goodIn_app (goodIn_of _ (by decide +kernel)) ggX2_countTick_X1_drop
theorem dX2_countTick_0 : decode cX2_countTick 0 = .ok (.aload_n 0, 1) := by decide +kernel
theorem dX2_countTick_1 : decode cX2_countTick 1 = .ok (.getfield 22, 3) := by decide +kernel
theorem dX2_countTick_4 : decode cX2_countTick 4 = .ok (.istore_n 2, 1) := by decide +kernel
theorem dX2_countTick_5 : decode cX2_countTick 5 = .ok (.iload_n 2, 1) := by decide +kernel
theorem dX2_countTick_6 : decode cX2_countTick 6 = .ok (.aload_n 0, 1) := by decide +kernel
theorem dX2_countTick_7 : decode cX2_countTick 7 = .ok (.getfield 18, 3) := by decide +kernel
theorem dX2_countTick_10 : decode cX2_countTick 10 = .ok (.if_icmp .le 27, 3) := by decide +kernel
theorem dX2_countTick_13 : decode cX2_countTick 13 = .ok (.aload_n 0, 1) := by decide +kernel
theorem dX2_countTick_14 : decode cX2_countTick 14 = .ok (.getfield 11, 3) := by decide +kernel
theorem dX2_countTick_17 : decode cX2_countTick 17 = .ok (.iload_n 2, 1) := by decide +kernel
theorem dX2_countTick_18 : decode cX2_countTick 18 = .ok (.aaload, 1) := by decide +kernel
theorem dX2_countTick_19 : decode cX2_countTick 19 = .ok (.aload_n 1, 1) := by decide +kernel
theorem dX2_countTick_20 : decode cX2_countTick 20 = .ok (.aload_n 0, 1) := by decide +kernel
theorem dX2_countTick_21 : decode cX2_countTick 21 = .ok (.getfield 11, 3) := by decide +kernel
theorem dX2_countTick_24 : decode cX2_countTick 24 = .ok (.iload_n 2, 1) := by decide +kernel
theorem dX2_countTick_25 : decode cX2_countTick 25 = .ok (.iconst 1, 1) := by decide +kernel
theorem dX2_countTick_26 : decode cX2_countTick 26 = .ok (.isub, 1) := by decide +kernel
theorem dX2_countTick_27 : decode cX2_countTick 27 = .ok (.aaload, 1) := by decide +kernel
theorem dX2_countTick_28 : decode cX2_countTick 28 = .ok (.invokevirtual 49, 3) := by decide +kernel
theorem dX2_countTick_31 : decode cX2_countTick 31 = .ok (.iinc 2 (-1), 3) := by decide +kernel
theorem dX2_countTick_34 : decode cX2_countTick 34 = .ok (.goto (-29), 3) := by decide +kernel
theorem dX2_countTick_37 : decode cX2_countTick 37 = .ok (.aload_n 0, 1) := by decide +kernel
theorem dX2_countTick_38 : decode cX2_countTick 38 = .ok (.getfield 11, 3) := by decide +kernel
theorem dX2_countTick_41 : decode cX2_countTick 41 = .ok (.aload_n 0, 1) := by decide +kernel
theorem dX2_countTick_42 : decode cX2_countTick 42 = .ok (.getfield 18, 3) := by decide +kernel
theorem dX2_countTick_45 : decode cX2_countTick 45 = .ok (.aaload, 1) := by decide +kernel
theorem dX2_countTick_46 : decode cX2_countTick 46 = .ok (.aload_n 1, 1) := by decide +kernel
theorem dX2_countTick_47 : decode cX2_countTick 47 = .ok (.invokevirtual 53, 3) := by decide +kernel
theorem dX2_countTick_50 : decode cX2_countTick 50 = .ok (.aload_n 0, 1) := by decide +kernel
theorem dX2_countTick_51 : decode cX2_countTick 51 = .ok (.getfield 22, 3) := by decide +kernel
theorem dX2_countTick_54 : decode cX2_countTick 54 = .ok (.bipush 80, 2) := by decide +kernel
theorem dX2_countTick_56 : decode cX2_countTick 56 = .ok (.if_icmp .ge 13, 3) := by decide +kernel
theorem dX2_countTick_59 : decode cX2_countTick 59 = .ok (.aload_n 0, 1) := by decide +kernel
theorem dX2_countTick_60 : decode cX2_countTick 60 = .ok (.dup, 1) := by decide +kernel
theorem dX2_countTick_61 : decode cX2_countTick 61 = .ok (.getfield 22, 3) := by decide +kernel
theorem dX2_countTick_64 : decode cX2_countTick 64 = .ok (.iconst 1, 1) := by decide +kernel
theorem dX2_countTick_65 : decode cX2_countTick 65 = .ok (.iadd, 1) := by decide +kernel
theorem dX2_countTick_66 : decode cX2_countTick 66 = .ok (.putfield 22, 3) := by decide +kernel
theorem dX2_countTick_69 : decode cX2_countTick 69 = .ok (.return_, 1) := by decide +kernel
set_option maxRecDepth 20000 in
theorem ggX2_narrow_X1_isEmpty : GoodIn wsX2_narrow wsX1_isEmpty := goodIn_r _ [8, 9, 25] (by decide +kernel) (by decide +kernel)
set_option maxRecDepth 20000 in
theorem gX2_narrow_X1_isEmpty : GoodIn wsX2_narrow (wsV RX2 56 RX1 yX1_isEmpty wsX1_isEmpty) := goodIn_app (goodIn_of _ (by decide +kernel)) ggX2_narrow_X1_isEmpty
set_option maxRecDepth 20000 in
theorem ggX2_narrow_X1_covers : GoodIn wsX2_narrow wsX1_covers := goodIn_r _ [13, 9, 14, 15, 16, 17, 18, 19, 20, 21, 26, 27, 28, 29, 25] (by decide +kernel) (by decide +kernel)
set_option maxRecDepth 20000 in
theorem gX2_narrow_X1_covers : GoodIn wsX2_narrow (wsV RX2 60 RX1 yX1_covers wsX1_covers) := goodIn_app (goodIn_of _ (by decide +kernel)) ggX2_narrow_X1_covers
theorem dX2_narrow_0 : decode cX2_narrow 0 = .ok (.aload_n 0, 1) := by decide +kernel
theorem dX2_narrow_1 : decode cX2_narrow 1 = .ok (.getfield 18, 3) := by decide +kernel
theorem dX2_narrow_4 : decode cX2_narrow 4 = .ok (.aload_n 0, 1) := by decide +kernel
theorem dX2_narrow_5 : decode cX2_narrow 5 = .ok (.getfield 22, 3) := by decide +kernel
theorem dX2_narrow_8 : decode cX2_narrow 8 = .ok (.if_icmp .ge 31, 3) := by decide +kernel
theorem dX2_narrow_11 : decode cX2_narrow 11 = .ok (.aload_n 0, 1) := by decide +kernel
theorem dX2_narrow_12 : decode cX2_narrow 12 = .ok (.getfield 11, 3) := by decide +kernel
theorem dX2_narrow_15 : decode cX2_narrow 15 = .ok (.aload_n 0, 1) := by decide +kernel
theorem dX2_narrow_16 : decode cX2_narrow 16 = .ok (.getfield 18, 3) := by decide +kernel
theorem dX2_narrow_19 : decode cX2_narrow 19 = .ok (.aaload, 1) := by decide +kernel
theorem dX2_narrow_20 : decode cX2_narrow 20 = .ok (.invokevirtual 56, 3) := by decide +kernel
theorem dX2_narrow_23 : decode cX2_narrow 23 = .ok (.ifCond .eq 16, 3) := by decide +kernel
theorem dX2_narrow_26 : decode cX2_narrow 26 = .ok (.aload_n 0, 1) := by decide +kernel
theorem dX2_narrow_27 : decode cX2_narrow 27 = .ok (.dup, 1) := by decide +kernel
theorem dX2_narrow_28 : decode cX2_narrow 28 = .ok (.getfield 18, 3) := by decide +kernel
theorem dX2_narrow_31 : decode cX2_narrow 31 = .ok (.iconst 1, 1) := by decide +kernel
theorem dX2_narrow_32 : decode cX2_narrow 32 = .ok (.iadd, 1) := by decide +kernel
theorem dX2_narrow_33 : decode cX2_narrow 33 = .ok (.putfield 18, 3) := by decide +kernel
theorem dX2_narrow_36 : decode cX2_narrow 36 = .ok (.goto (-36), 3) := by decide +kernel
theorem dX2_narrow_39 : decode cX2_narrow 39 = .ok (.aload_n 0, 1) := by decide +kernel
theorem dX2_narrow_40 : decode cX2_narrow 40 = .ok (.getfield 22, 3) := by decide +kernel
theorem dX2_narrow_43 : decode cX2_narrow 43 = .ok (.aload_n 0, 1) := by decide +kernel
theorem dX2_narrow_44 : decode cX2_narrow 44 = .ok (.getfield 18, 3) := by decide +kernel
theorem dX2_narrow_47 : decode cX2_narrow 47 = .ok (.if_icmp .le 34, 3) := by decide +kernel
theorem dX2_narrow_50 : decode cX2_narrow 50 = .ok (.aload_n 0, 1) := by decide +kernel
theorem dX2_narrow_51 : decode cX2_narrow 51 = .ok (.getfield 11, 3) := by decide +kernel
theorem dX2_narrow_54 : decode cX2_narrow 54 = .ok (.aload_n 0, 1) := by decide +kernel
theorem dX2_narrow_55 : decode cX2_narrow 55 = .ok (.getfield 22, 3) := by decide +kernel
theorem dX2_narrow_58 : decode cX2_narrow 58 = .ok (.iconst 1, 1) := by decide +kernel
theorem dX2_narrow_59 : decode cX2_narrow 59 = .ok (.isub, 1) := by decide +kernel
theorem dX2_narrow_60 : decode cX2_narrow 60 = .ok (.aaload, 1) := by decide +kernel
theorem dX2_narrow_61 : decode cX2_narrow 61 = .ok (.aload_n 1, 1) := by decide +kernel
theorem dX2_narrow_62 : decode cX2_narrow 62 = .ok (.invokevirtual 60, 3) := by decide +kernel
theorem dX2_narrow_65 : decode cX2_narrow 65 = .ok (.ifCond .eq 16, 3) := by decide +kernel
theorem dX2_narrow_68 : decode cX2_narrow 68 = .ok (.aload_n 0, 1) := by decide +kernel
theorem dX2_narrow_69 : decode cX2_narrow 69 = .ok (.dup, 1) := by decide +kernel
theorem dX2_narrow_70 : decode cX2_narrow 70 = .ok (.getfield 22, 3) := by decide +kernel
theorem dX2_narrow_73 : decode cX2_narrow 73 = .ok (.iconst 1, 1) := by decide +kernel
theorem dX2_narrow_74 : decode cX2_narrow 74 = .ok (.isub, 1) := by decide +kernel
theorem dX2_narrow_75 : decode cX2_narrow 75 = .ok (.putfield 22, 3) := by decide +kernel
theorem dX2_narrow_78 : decode cX2_narrow 78 = .ok (.goto (-39), 3) := by decide +kernel
theorem dX2_narrow_81 : decode cX2_narrow 81 = .ok (.return_, 1) := by decide +kernel
set_option maxRecDepth 20000 in
theorem ggX3_init_X0_init : GoodIn wsX3_init wsX0_init := goodIn_r _ [17, 18, 2, 3, 19, 20, 21, 22, 30, 31, 32, 33] (by decide +kernel) (by decide +kernel)
set_option maxRecDepth 20000 in
theorem gX3_init_X0_init : GoodIn wsX3_init (wsX0_init) := ggX3_init_X0_init
theorem dX3_init_0 : decode cX3_init 0 = .ok (.aload_n 0, 1) := by decide +kernel
theorem dX3_init_1 : decode cX3_init 1 = .ok (.invokespecial 3, 3) := by decide +kernel
theorem dX3_init_4 : decode cX3_init 4 = .ok (.aload_n 0, 1) := by decide +kernel
theorem dX3_init_5 : decode cX3_init 5 = .ok (.iload_n 1, 1) := by decide +kernel
theorem dX3_init_6 : decode cX3_init 6 = .ok (.putfield 9, 3) := by decide +kernel
theorem dX3_init_9 : decode cX3_init 9 = .ok (.aload_n 0, 1) := by decide +kernel
theorem dX3_init_10 : decode cX3_init 10 = .ok (.bipush 12, 2) := by decide +kernel
theorem dX3_init_12 : decode cX3_init 12 = .ok (.newarray .int, 2) := by decide +kernel
theorem dX3_init_14 : decode cX3_init 14 = .ok (.putfield 15, 3) := by decide +kernel
theorem dX3_init_17 : decode cX3_init 17 = .ok (.aload_n 0, 1) := by decide +kernel
theorem dX3_init_18 : decode cX3_init 18 = .ok (.bipush 12, 2) := by decide +kernel
theorem dX3_init_20 : decode cX3_init 20 = .ok (.newarray .int, 2) := by decide +kernel
theorem dX3_init_22 : decode cX3_init 22 = .ok (.putfield 19, 3) := by decide +kernel
theorem dX3_init_25 : decode cX3_init 25 = .ok (.aload_n 0, 1) := by decide +kernel
theorem dX3_init_26 : decode cX3_init 26 = .ok (.bipush 12, 2) := by decide +kernel
theorem dX3_init_28 : decode cX3_init 28 = .ok (.newarray .int, 2) := by decide +kernel
theorem dX3_init_30 : decode cX3_init 30 = .ok (.putfield 22, 3) := by decide +kernel
theorem dX3_init_33 : decode cX3_init 33 = .ok (.aload_n 0, 1) := by decide +kernel
theorem dX3_init_34 : decode cX3_init 34 = .ok (.bipush 80, 2) := by decide +kernel
theorem dX3_init_36 : decode cX3_init 36 = .ok (.anewarray 25, 3) := by decide +kernel
theorem dX3_init_39 : decode cX3_init 39 = .ok (.putfield 27, 3) := by decide +kernel
theorem dX3_init_42 : decode cX3_init 42 = .ok (.iconst 0, 1) := by decide +kernel
theorem dX3_init_43 : decode cX3_init 43 = .ok (.istore_n 2, 1) := by decide +kernel
theorem dX3_init_44 : decode cX3_init 44 = .ok (.iload_n 2, 1) := by decide +kernel
theorem dX3_init_45 : decode cX3_init 45 = .ok (.bipush 80, 2) := by decide +kernel
theorem dX3_init_47 : decode cX3_init 47 = .ok (.if_icmp .ge 28, 3) := by decide +kernel
theorem dX3_init_50 : decode cX3_init 50 = .ok (.aload_n 0, 1) := by decide +kernel
theorem dX3_init_51 : decode cX3_init 51 = .ok (.getfield 27, 3) := by decide +kernel
theorem dX3_init_54 : decode cX3_init 54 = .ok (.iload_n 2, 1) := by decide +kernel
theorem dX3_init_55 : decode cX3_init 55 = .ok (.new 25, 3) := by decide +kernel
theorem dX3_init_58 : decode cX3_init 58 = .ok (.dup, 1) := by decide +kernel
theorem dX3_init_59 : decode cX3_init 59 = .ok (.iconst 0, 1) := by decide +kernel
theorem dX3_init_60 : decode cX3_init 60 = .ok (.bipush 63, 2) := by decide +kernel
theorem dX3_init_62 : decode cX3_init 62 = .ok (.iconst 0, 1) := by decide +kernel
theorem dX3_init_63 : decode cX3_init 63 = .ok (.bipush 63, 2) := by decide +kernel
theorem dX3_init_65 : decode cX3_init 65 = .ok (.invokespecial 31, 3) := by decide +kernel
theorem dX3_init_68 : decode cX3_init 68 = .ok (.aastore, 1) := by decide +kernel
theorem dX3_init_69 : decode cX3_init 69 = .ok (.iinc 2 1, 3) := by decide +kernel
theorem dX3_init_72 : decode cX3_init 72 = .ok (.goto (-28), 3) := by decide +kernel
theorem dX3_init_75 : decode cX3_init 75 = .ok (.aload_n 0, 1) := by decide +kernel
theorem dX3_init_76 : decode cX3_init 76 = .ok (.iconst 0, 1) := by decide +kernel
theorem dX3_init_77 : decode cX3_init 77 = .ok (.putfield 34, 3) := by decide +kernel
theorem dX3_init_80 : decode cX3_init 80 = .ok (.aload_n 0, 1) := by decide +kernel
theorem dX3_init_81 : decode cX3_init 81 = .ok (.iconst 0, 1) := by decide +kernel
theorem dX3_init_82 : decode cX3_init 82 = .ok (.putfield 37, 3) := by decide +kernel
theorem dX3_init_85 : decode cX3_init 85 = .ok (.return_, 1) := by decide +kernel
theorem dX3_sights_0 : decode cX3_sights 0 = .ok (.aload_n 0, 1) := by decide +kernel
theorem dX3_sights_1 : decode cX3_sights 1 = .ok (.getfield 34, 3) := by decide +kernel
theorem dX3_sights_4 : decode cX3_sights 4 = .ok (.ireturn, 1) := by decide +kernel
theorem dX3_leftOut_0 : decode cX3_leftOut 0 = .ok (.aload_n 0, 1) := by decide +kernel
theorem dX3_leftOut_1 : decode cX3_leftOut 1 = .ok (.getfield 37, 3) := by decide +kernel
theorem dX3_leftOut_4 : decode cX3_leftOut 4 = .ok (.ireturn, 1) := by decide +kernel
theorem dX3_reachAt_0 : decode cX3_reachAt 0 = .ok (.aload_n 0, 1) := by decide +kernel
theorem dX3_reachAt_1 : decode cX3_reachAt 1 = .ok (.getfield 27, 3) := by decide +kernel
theorem dX3_reachAt_4 : decode cX3_reachAt 4 = .ok (.iload_n 1, 1) := by decide +kernel
theorem dX3_reachAt_5 : decode cX3_reachAt 5 = .ok (.aaload, 1) := by decide +kernel
theorem dX3_reachAt_6 : decode cX3_reachAt 6 = .ok (.areturn, 1) := by decide +kernel
set_option maxRecDepth 20000 in
theorem ggX3_takeSight_X3_settle : GoodIn wsX3_takeSight wsX3_settle := goodIn_r _ [10, 11, 1, 2, 3, 4, 12, 13, 14, 15, 16, 17, 18, 19, 20, 21, 22, 23, 24, 25, 26, 27, 28, 29, 30, 31, 32, 33, 34, 35, 36, 37, 38, 39, 40, 41, 50, 51, 52, 53, 54, 55, 56, 57, 58, 59, 60] (by decide +kernel) (by decide +kernel)
set_option maxRecDepth 20000 in
theorem gX3_takeSight_X3_settle : GoodIn wsX3_takeSight (wsV RX3 40 RX3 yX3_settle wsX3_settle) := goodIn_app (goodIn_of _ (by decide +kernel)) ggX3_takeSight_X3_settle
set_option maxRecDepth 20000 in
theorem ggX3_takeSight_X3_canMove : GoodIn wsX3_takeSight wsX3_canMove := goodIn_r _ [45, 11, 46, 47, 48, 16, 49, 18, 19, 20, 21, 50, 51, 52, 53, 54, 55, 56, 57, 58, 59, 60] (by decide +kernel) (by decide +kernel)
set_option maxRecDepth 20000 in
theorem gX3_takeSight_X3_canMove : GoodIn wsX3_takeSight (wsV RX3 43 RX3 yX3_canMove wsX3_canMove) := goodIn_app (goodIn_of _ (by decide +kernel)) ggX3_takeSight_X3_canMove
theorem dX3_takeSight_0 : decode cX3_takeSight 0 = .ok (.aload_n 0, 1) := by decide +kernel
theorem dX3_takeSight_1 : decode cX3_takeSight 1 = .ok (.getfield 34, 3) := by decide +kernel
theorem dX3_takeSight_4 : decode cX3_takeSight 4 = .ok (.bipush 12, 2) := by decide +kernel
theorem dX3_takeSight_6 : decode cX3_takeSight 6 = .ok (.if_icmp .lt 5, 3) := by decide +kernel
theorem dX3_takeSight_9 : decode cX3_takeSight 9 = .ok (.iconst 0, 1) := by decide +kernel
theorem dX3_takeSight_10 : decode cX3_takeSight 10 = .ok (.ireturn, 1) := by decide +kernel
theorem dX3_takeSight_11 : decode cX3_takeSight 11 = .ok (.aload_n 0, 1) := by decide +kernel
theorem dX3_takeSight_12 : decode cX3_takeSight 12 = .ok (.getfield 15, 3) := by decide +kernel
theorem dX3_takeSight_15 : decode cX3_takeSight 15 = .ok (.aload_n 0, 1) := by decide +kernel
theorem dX3_takeSight_16 : decode cX3_takeSight 16 = .ok (.getfield 34, 3) := by decide +kernel
theorem dX3_takeSight_19 : decode cX3_takeSight 19 = .ok (.iload_n 1, 1) := by decide +kernel
theorem dX3_takeSight_20 : decode cX3_takeSight 20 = .ok (.iastore, 1) := by decide +kernel
theorem dX3_takeSight_21 : decode cX3_takeSight 21 = .ok (.aload_n 0, 1) := by decide +kernel
theorem dX3_takeSight_22 : decode cX3_takeSight 22 = .ok (.getfield 19, 3) := by decide +kernel
theorem dX3_takeSight_25 : decode cX3_takeSight 25 = .ok (.aload_n 0, 1) := by decide +kernel
theorem dX3_takeSight_26 : decode cX3_takeSight 26 = .ok (.getfield 34, 3) := by decide +kernel
theorem dX3_takeSight_29 : decode cX3_takeSight 29 = .ok (.iload_n 2, 1) := by decide +kernel
theorem dX3_takeSight_30 : decode cX3_takeSight 30 = .ok (.iastore, 1) := by decide +kernel
theorem dX3_takeSight_31 : decode cX3_takeSight 31 = .ok (.aload_n 0, 1) := by decide +kernel
theorem dX3_takeSight_32 : decode cX3_takeSight 32 = .ok (.getfield 22, 3) := by decide +kernel
theorem dX3_takeSight_35 : decode cX3_takeSight 35 = .ok (.aload_n 0, 1) := by decide +kernel
theorem dX3_takeSight_36 : decode cX3_takeSight 36 = .ok (.getfield 34, 3) := by decide +kernel
theorem dX3_takeSight_39 : decode cX3_takeSight 39 = .ok (.iload_n 3, 1) := by decide +kernel
theorem dX3_takeSight_40 : decode cX3_takeSight 40 = .ok (.iastore, 1) := by decide +kernel
theorem dX3_takeSight_41 : decode cX3_takeSight 41 = .ok (.aload_n 0, 1) := by decide +kernel
theorem dX3_takeSight_42 : decode cX3_takeSight 42 = .ok (.dup, 1) := by decide +kernel
theorem dX3_takeSight_43 : decode cX3_takeSight 43 = .ok (.getfield 34, 3) := by decide +kernel
theorem dX3_takeSight_46 : decode cX3_takeSight 46 = .ok (.iconst 1, 1) := by decide +kernel
theorem dX3_takeSight_47 : decode cX3_takeSight 47 = .ok (.iadd, 1) := by decide +kernel
theorem dX3_takeSight_48 : decode cX3_takeSight 48 = .ok (.putfield 34, 3) := by decide +kernel
theorem dX3_takeSight_51 : decode cX3_takeSight 51 = .ok (.aload_n 0, 1) := by decide +kernel
theorem dX3_takeSight_52 : decode cX3_takeSight 52 = .ok (.invokevirtual 40, 3) := by decide +kernel
theorem dX3_takeSight_55 : decode cX3_takeSight 55 = .ok (.aload_n 0, 1) := by decide +kernel
theorem dX3_takeSight_56 : decode cX3_takeSight 56 = .ok (.invokevirtual 43, 3) := by decide +kernel
theorem dX3_takeSight_59 : decode cX3_takeSight 59 = .ok (.ifCond .ne 29, 3) := by decide +kernel
theorem dX3_takeSight_62 : decode cX3_takeSight 62 = .ok (.aload_n 0, 1) := by decide +kernel
theorem dX3_takeSight_63 : decode cX3_takeSight 63 = .ok (.dup, 1) := by decide +kernel
theorem dX3_takeSight_64 : decode cX3_takeSight 64 = .ok (.getfield 34, 3) := by decide +kernel
theorem dX3_takeSight_67 : decode cX3_takeSight 67 = .ok (.iconst 1, 1) := by decide +kernel
theorem dX3_takeSight_68 : decode cX3_takeSight 68 = .ok (.isub, 1) := by decide +kernel
theorem dX3_takeSight_69 : decode cX3_takeSight 69 = .ok (.putfield 34, 3) := by decide +kernel
theorem dX3_takeSight_72 : decode cX3_takeSight 72 = .ok (.aload_n 0, 1) := by decide +kernel
theorem dX3_takeSight_73 : decode cX3_takeSight 73 = .ok (.dup, 1) := by decide +kernel
theorem dX3_takeSight_74 : decode cX3_takeSight 74 = .ok (.getfield 37, 3) := by decide +kernel
theorem dX3_takeSight_77 : decode cX3_takeSight 77 = .ok (.iconst 1, 1) := by decide +kernel
theorem dX3_takeSight_78 : decode cX3_takeSight 78 = .ok (.iadd, 1) := by decide +kernel
theorem dX3_takeSight_79 : decode cX3_takeSight 79 = .ok (.putfield 37, 3) := by decide +kernel
theorem dX3_takeSight_82 : decode cX3_takeSight 82 = .ok (.aload_n 0, 1) := by decide +kernel
theorem dX3_takeSight_83 : decode cX3_takeSight 83 = .ok (.invokevirtual 40, 3) := by decide +kernel
theorem dX3_takeSight_86 : decode cX3_takeSight 86 = .ok (.iconst 0, 1) := by decide +kernel
theorem dX3_takeSight_87 : decode cX3_takeSight 87 = .ok (.ireturn, 1) := by decide +kernel
theorem dX3_takeSight_88 : decode cX3_takeSight 88 = .ok (.iconst 1, 1) := by decide +kernel
theorem dX3_takeSight_89 : decode cX3_takeSight 89 = .ok (.ireturn, 1) := by decide +kernel
set_option maxRecDepth 20000 in
theorem ggX3_dropSight_X3_settle : GoodIn wsX3_dropSight wsX3_settle := goodIn_r _ [6, 7, 1, 8, 9, 10, 11, 12, 13, 14, 15, 16, 17, 18, 19, 20, 21, 22, 23, 24, 25, 26, 27, 28, 29, 30, 31, 32, 33, 34, 35, 36, 37, 38, 39, 40, 41, 42, 43, 44, 45, 46, 47, 48, 49, 50, 51] (by decide +kernel) (by decide +kernel)
set_option maxRecDepth 20000 in
theorem gX3_dropSight_X3_settle : GoodIn wsX3_dropSight (wsV RX3 40 RX3 yX3_settle wsX3_settle) := goodIn_app (goodIn_of _ (by decide +kernel)) ggX3_dropSight_X3_settle
theorem dX3_dropSight_0 : decode cX3_dropSight 0 = .ok (.aload_n 0, 1) := by decide +kernel
theorem dX3_dropSight_1 : decode cX3_dropSight 1 = .ok (.getfield 34, 3) := by decide +kernel
theorem dX3_dropSight_4 : decode cX3_dropSight 4 = .ok (.ifCond .gt 5, 3) := by decide +kernel
theorem dX3_dropSight_7 : decode cX3_dropSight 7 = .ok (.iconst 0, 1) := by decide +kernel
theorem dX3_dropSight_8 : decode cX3_dropSight 8 = .ok (.ireturn, 1) := by decide +kernel
theorem dX3_dropSight_9 : decode cX3_dropSight 9 = .ok (.aload_n 0, 1) := by decide +kernel
theorem dX3_dropSight_10 : decode cX3_dropSight 10 = .ok (.dup, 1) := by decide +kernel
theorem dX3_dropSight_11 : decode cX3_dropSight 11 = .ok (.getfield 34, 3) := by decide +kernel
theorem dX3_dropSight_14 : decode cX3_dropSight 14 = .ok (.iconst 1, 1) := by decide +kernel
theorem dX3_dropSight_15 : decode cX3_dropSight 15 = .ok (.isub, 1) := by decide +kernel
theorem dX3_dropSight_16 : decode cX3_dropSight 16 = .ok (.putfield 34, 3) := by decide +kernel
theorem dX3_dropSight_19 : decode cX3_dropSight 19 = .ok (.aload_n 0, 1) := by decide +kernel
theorem dX3_dropSight_20 : decode cX3_dropSight 20 = .ok (.invokevirtual 40, 3) := by decide +kernel
theorem dX3_dropSight_23 : decode cX3_dropSight 23 = .ok (.iconst 1, 1) := by decide +kernel
theorem dX3_dropSight_24 : decode cX3_dropSight 24 = .ok (.ireturn, 1) := by decide +kernel
set_option maxRecDepth 20000 in
theorem ggX3_advance_X1_widen : GoodIn wsX3_advance wsX1_widen := goodIn_r _ [7, 8, 9, 10, 11, 12, 13, 14, 6, 15, 16, 36] (by decide +kernel) (by decide +kernel)
set_option maxRecDepth 20000 in
theorem gX3_advance_X1_widen : GoodIn wsX3_advance (wsV RX3 47 RX1 yX1_widen wsX1_widen) := goodIn_app (goodIn_of _ (by decide +kernel)) ggX3_advance_X1_widen
set_option maxRecDepth 20000 in
theorem ggX3_advance_X1_keep : GoodIn wsX3_advance wsX1_keep := goodIn_r _ [20, 16, 21, 22, 23, 24, 25, 26, 27, 28, 36, 37, 38, 39, 40] (by decide +kernel) (by decide +kernel)
set_option maxRecDepth 20000 in
theorem gX3_advance_X1_keep : GoodIn wsX3_advance (wsV RX3 53 RX1 yX1_keep wsX1_keep) := goodIn_app (goodIn_of _ (by decide +kernel)) ggX3_advance_X1_keep
theorem dX3_advance_0 : decode cX3_advance 0 = .ok (.aload_n 1, 1) := by decide +kernel
theorem dX3_advance_1 : decode cX3_advance 1 = .ok (.aload_n 0, 1) := by decide +kernel
theorem dX3_advance_2 : decode cX3_advance 2 = .ok (.getfield 9, 3) := by decide +kernel
theorem dX3_advance_5 : decode cX3_advance 5 = .ok (.invokevirtual 47, 3) := by decide +kernel
theorem dX3_advance_8 : decode cX3_advance 8 = .ok (.aload_n 1, 1) := by decide +kernel
theorem dX3_advance_9 : decode cX3_advance 9 = .ok (.aload_n 0, 1) := by decide +kernel
theorem dX3_advance_10 : decode cX3_advance 10 = .ok (.getfield 27, 3) := by decide +kernel
theorem dX3_advance_13 : decode cX3_advance 13 = .ok (.iload_n 2, 1) := by decide +kernel
theorem dX3_advance_14 : decode cX3_advance 14 = .ok (.aaload, 1) := by decide +kernel
theorem dX3_advance_15 : decode cX3_advance 15 = .ok (.invokevirtual 53, 3) := by decide +kernel
theorem dX3_advance_18 : decode cX3_advance 18 = .ok (.return_, 1) := by decide +kernel
set_option maxRecDepth 20000 in
theorem ggX3_canMove_X0_isEmpty : GoodIn wsX3_canMove wsX0_isEmpty := goodIn_r _ [6, 7, 8, 9, 10, 18, 19, 20, 21] (by decide +kernel) (by decide +kernel)
set_option maxRecDepth 20000 in
theorem gX3_canMove_X0_isEmpty : GoodIn wsX3_canMove (wsV RX3 57 RX0 yX0_isEmpty wsX0_isEmpty) := goodIn_app (goodIn_of _ (by decide +kernel)) ggX3_canMove_X0_isEmpty
theorem dX3_canMove_0 : decode cX3_canMove 0 = .ok (.iconst 0, 1) := by decide +kernel
theorem dX3_canMove_1 : decode cX3_canMove 1 = .ok (.istore_n 1, 1) := by decide +kernel
theorem dX3_canMove_2 : decode cX3_canMove 2 = .ok (.iload_n 1, 1) := by decide +kernel
theorem dX3_canMove_3 : decode cX3_canMove 3 = .ok (.bipush 80, 2) := by decide +kernel
theorem dX3_canMove_5 : decode cX3_canMove 5 = .ok (.if_icmp .ge 23, 3) := by decide +kernel
theorem dX3_canMove_8 : decode cX3_canMove 8 = .ok (.aload_n 0, 1) := by decide +kernel
theorem dX3_canMove_9 : decode cX3_canMove 9 = .ok (.getfield 27, 3) := by decide +kernel
theorem dX3_canMove_12 : decode cX3_canMove 12 = .ok (.iload_n 1, 1) := by decide +kernel
theorem dX3_canMove_13 : decode cX3_canMove 13 = .ok (.aaload, 1) := by decide +kernel
theorem dX3_canMove_14 : decode cX3_canMove 14 = .ok (.invokevirtual 57, 3) := by decide +kernel
theorem dX3_canMove_17 : decode cX3_canMove 17 = .ok (.ifCond .eq 5, 3) := by decide +kernel
theorem dX3_canMove_20 : decode cX3_canMove 20 = .ok (.iconst 0, 1) := by decide +kernel
theorem dX3_canMove_21 : decode cX3_canMove 21 = .ok (.ireturn, 1) := by decide +kernel
theorem dX3_canMove_22 : decode cX3_canMove 22 = .ok (.iinc 1 1, 3) := by decide +kernel
theorem dX3_canMove_25 : decode cX3_canMove 25 = .ok (.goto (-23), 3) := by decide +kernel
theorem dX3_canMove_28 : decode cX3_canMove 28 = .ok (.iconst 1, 1) := by decide +kernel
theorem dX3_canMove_29 : decode cX3_canMove 29 = .ok (.ireturn, 1) := by decide +kernel
set_option maxRecDepth 20000 in
theorem ggX3_settle_X0_setToField : GoodIn wsX3_settle wsX0_setToField := goodIn_r _ [11, 12, 13, 14, 15, 43, 44, 45, 46] (by decide +kernel) (by decide +kernel)
set_option maxRecDepth 20000 in
theorem gX3_settle_X0_setToField : GoodIn wsX3_settle (wsV RX3 60 RX0 yX0_setToField wsX0_setToField) := goodIn_app (goodIn_of _ (by decide +kernel)) ggX3_settle_X0_setToField
set_option maxRecDepth 20000 in
theorem ggX3_settle_X4_xOf : GoodIn wsX3_settle wsX4_xOf := goodIn_r _ [18] (by decide +kernel) (by decide +kernel)
set_option maxRecDepth 20000 in
theorem gX3_settle_X4_xOf_n63 : GoodIn wsX3_settle (wsX4_xOf) := ggX3_settle_X4_xOf
set_option maxRecDepth 20000 in
theorem ggX3_settle_X4_yOf : GoodIn wsX3_settle wsX4_yOf := goodIn_r _ [20] (by decide +kernel) (by decide +kernel)
set_option maxRecDepth 20000 in
theorem gX3_settle_X4_yOf_n67 : GoodIn wsX3_settle (wsX4_yOf) := ggX3_settle_X4_yOf
set_option maxRecDepth 20000 in
theorem ggX3_settle_X0_keepAround : GoodIn wsX3_settle wsX0_keepAround := goodIn_r _ [24, 12, 25, 26, 27, 28, 13, 29, 30, 31, 14, 15, 43, 44, 45, 46] (by decide +kernel) (by decide +kernel)
set_option maxRecDepth 20000 in
theorem gX3_settle_X0_keepAround : GoodIn wsX3_settle (wsV RX3 70 RX0 yX0_keepAround wsX0_keepAround) := goodIn_app (goodIn_of _ (by decide +kernel)) ggX3_settle_X0_keepAround
set_option maxRecDepth 20000 in
theorem ggX3_settle_X0_keepNear : GoodIn wsX3_settle wsX0_keepNear := goodIn_r _ [35, 12, 25, 26, 27, 28, 13, 29, 30, 31, 14, 15, 43, 44, 45, 46] (by decide +kernel) (by decide +kernel)
set_option maxRecDepth 20000 in
theorem gX3_settle_X0_keepNear : GoodIn wsX3_settle (wsV RX3 74 RX0 yX0_keepNear wsX0_keepNear) := goodIn_app (goodIn_of _ (by decide +kernel)) ggX3_settle_X0_keepNear
theorem dX3_settle_0 : decode cX3_settle 0 = .ok (.iconst 0, 1) := by decide +kernel
theorem dX3_settle_1 : decode cX3_settle 1 = .ok (.istore_n 1, 1) := by decide +kernel
theorem dX3_settle_2 : decode cX3_settle 2 = .ok (.iload_n 1, 1) := by decide +kernel
theorem dX3_settle_3 : decode cX3_settle 3 = .ok (.bipush 80, 2) := by decide +kernel
theorem dX3_settle_5 : decode cX3_settle 5 = .ok (.if_icmp .ge 18, 3) := by decide +kernel
theorem dX3_settle_8 : decode cX3_settle 8 = .ok (.aload_n 0, 1) := by decide +kernel
theorem dX3_settle_9 : decode cX3_settle 9 = .ok (.getfield 27, 3) := by decide +kernel
theorem dX3_settle_12 : decode cX3_settle 12 = .ok (.iload_n 1, 1) := by decide +kernel
theorem dX3_settle_13 : decode cX3_settle 13 = .ok (.aaload, 1) := by decide +kernel
theorem dX3_settle_14 : decode cX3_settle 14 = .ok (.invokevirtual 60, 3) := by decide +kernel
theorem dX3_settle_17 : decode cX3_settle 17 = .ok (.iinc 1 1, 3) := by decide +kernel
theorem dX3_settle_20 : decode cX3_settle 20 = .ok (.goto (-18), 3) := by decide +kernel
theorem dX3_settle_23 : decode cX3_settle 23 = .ok (.iconst 0, 1) := by decide +kernel
theorem dX3_settle_24 : decode cX3_settle 24 = .ok (.istore_n 1, 1) := by decide +kernel
theorem dX3_settle_25 : decode cX3_settle 25 = .ok (.iload_n 1, 1) := by decide +kernel
theorem dX3_settle_26 : decode cX3_settle 26 = .ok (.aload_n 0, 1) := by decide +kernel
theorem dX3_settle_27 : decode cX3_settle 27 = .ok (.getfield 34, 3) := by decide +kernel
theorem dX3_settle_30 : decode cX3_settle 30 = .ok (.if_icmp .ge 47, 3) := by decide +kernel
theorem dX3_settle_33 : decode cX3_settle 33 = .ok (.aload_n 0, 1) := by decide +kernel
theorem dX3_settle_34 : decode cX3_settle 34 = .ok (.getfield 27, 3) := by decide +kernel
theorem dX3_settle_37 : decode cX3_settle 37 = .ok (.aload_n 0, 1) := by decide +kernel
theorem dX3_settle_38 : decode cX3_settle 38 = .ok (.getfield 15, 3) := by decide +kernel
theorem dX3_settle_41 : decode cX3_settle 41 = .ok (.iload_n 1, 1) := by decide +kernel
theorem dX3_settle_42 : decode cX3_settle 42 = .ok (.iaload, 1) := by decide +kernel
theorem dX3_settle_43 : decode cX3_settle 43 = .ok (.aaload, 1) := by decide +kernel
theorem dX3_settle_44 : decode cX3_settle 44 = .ok (.aload_n 0, 1) := by decide +kernel
theorem dX3_settle_45 : decode cX3_settle 45 = .ok (.getfield 19, 3) := by decide +kernel
theorem dX3_settle_48 : decode cX3_settle 48 = .ok (.iload_n 1, 1) := by decide +kernel
theorem dX3_settle_49 : decode cX3_settle 49 = .ok (.iaload, 1) := by decide +kernel
theorem dX3_settle_50 : decode cX3_settle 50 = .ok (.invokestatic 63, 3) := by decide +kernel
theorem dX3_settle_53 : decode cX3_settle 53 = .ok (.aload_n 0, 1) := by decide +kernel
theorem dX3_settle_54 : decode cX3_settle 54 = .ok (.getfield 19, 3) := by decide +kernel
theorem dX3_settle_57 : decode cX3_settle 57 = .ok (.iload_n 1, 1) := by decide +kernel
theorem dX3_settle_58 : decode cX3_settle 58 = .ok (.iaload, 1) := by decide +kernel
theorem dX3_settle_59 : decode cX3_settle 59 = .ok (.invokestatic 67, 3) := by decide +kernel
theorem dX3_settle_62 : decode cX3_settle 62 = .ok (.aload_n 0, 1) := by decide +kernel
theorem dX3_settle_63 : decode cX3_settle 63 = .ok (.getfield 22, 3) := by decide +kernel
theorem dX3_settle_66 : decode cX3_settle 66 = .ok (.iload_n 1, 1) := by decide +kernel
theorem dX3_settle_67 : decode cX3_settle 67 = .ok (.iaload, 1) := by decide +kernel
theorem dX3_settle_68 : decode cX3_settle 68 = .ok (.invokevirtual 70, 3) := by decide +kernel
theorem dX3_settle_71 : decode cX3_settle 71 = .ok (.iinc 1 1, 3) := by decide +kernel
theorem dX3_settle_74 : decode cX3_settle 74 = .ok (.goto (-49), 3) := by decide +kernel
theorem dX3_settle_77 : decode cX3_settle 77 = .ok (.iconst 1, 1) := by decide +kernel
theorem dX3_settle_78 : decode cX3_settle 78 = .ok (.istore_n 1, 1) := by decide +kernel
theorem dX3_settle_79 : decode cX3_settle 79 = .ok (.iload_n 1, 1) := by decide +kernel
theorem dX3_settle_80 : decode cX3_settle 80 = .ok (.bipush 80, 2) := by decide +kernel
theorem dX3_settle_82 : decode cX3_settle 82 = .ok (.if_icmp .ge 30, 3) := by decide +kernel
theorem dX3_settle_85 : decode cX3_settle 85 = .ok (.aload_n 0, 1) := by decide +kernel
theorem dX3_settle_86 : decode cX3_settle 86 = .ok (.getfield 27, 3) := by decide +kernel
theorem dX3_settle_89 : decode cX3_settle 89 = .ok (.iload_n 1, 1) := by decide +kernel
theorem dX3_settle_90 : decode cX3_settle 90 = .ok (.aaload, 1) := by decide +kernel
theorem dX3_settle_91 : decode cX3_settle 91 = .ok (.aload_n 0, 1) := by decide +kernel
theorem dX3_settle_92 : decode cX3_settle 92 = .ok (.getfield 27, 3) := by decide +kernel
theorem dX3_settle_95 : decode cX3_settle 95 = .ok (.iload_n 1, 1) := by decide +kernel
theorem dX3_settle_96 : decode cX3_settle 96 = .ok (.iconst 1, 1) := by decide +kernel
theorem dX3_settle_97 : decode cX3_settle 97 = .ok (.isub, 1) := by decide +kernel
theorem dX3_settle_98 : decode cX3_settle 98 = .ok (.aaload, 1) := by decide +kernel
theorem dX3_settle_99 : decode cX3_settle 99 = .ok (.aload_n 0, 1) := by decide +kernel
theorem dX3_settle_100 : decode cX3_settle 100 = .ok (.getfield 9, 3) := by decide +kernel
theorem dX3_settle_103 : decode cX3_settle 103 = .ok (.invokevirtual 74, 3) := by decide +kernel
theorem dX3_settle_106 : decode cX3_settle 106 = .ok (.iinc 1 1, 3) := by decide +kernel
theorem dX3_settle_109 : decode cX3_settle 109 = .ok (.goto (-30), 3) := by decide +kernel
theorem dX3_settle_112 : decode cX3_settle 112 = .ok (.bipush 78, 2) := by decide +kernel
theorem dX3_settle_114 : decode cX3_settle 114 = .ok (.istore_n 1, 1) := by decide +kernel
theorem dX3_settle_115 : decode cX3_settle 115 = .ok (.iload_n 1, 1) := by decide +kernel
theorem dX3_settle_116 : decode cX3_settle 116 = .ok (.ifCond .lt 30, 3) := by decide +kernel
theorem dX3_settle_119 : decode cX3_settle 119 = .ok (.aload_n 0, 1) := by decide +kernel
theorem dX3_settle_120 : decode cX3_settle 120 = .ok (.getfield 27, 3) := by decide +kernel
theorem dX3_settle_123 : decode cX3_settle 123 = .ok (.iload_n 1, 1) := by decide +kernel
theorem dX3_settle_124 : decode cX3_settle 124 = .ok (.aaload, 1) := by decide +kernel
theorem dX3_settle_125 : decode cX3_settle 125 = .ok (.aload_n 0, 1) := by decide +kernel
theorem dX3_settle_126 : decode cX3_settle 126 = .ok (.getfield 27, 3) := by decide +kernel
theorem dX3_settle_129 : decode cX3_settle 129 = .ok (.iload_n 1, 1) := by decide +kernel
theorem dX3_settle_130 : decode cX3_settle 130 = .ok (.iconst 1, 1) := by decide +kernel
theorem dX3_settle_131 : decode cX3_settle 131 = .ok (.iadd, 1) := by decide +kernel
theorem dX3_settle_132 : decode cX3_settle 132 = .ok (.aaload, 1) := by decide +kernel
theorem dX3_settle_133 : decode cX3_settle 133 = .ok (.aload_n 0, 1) := by decide +kernel
theorem dX3_settle_134 : decode cX3_settle 134 = .ok (.getfield 9, 3) := by decide +kernel
theorem dX3_settle_137 : decode cX3_settle 137 = .ok (.invokevirtual 74, 3) := by decide +kernel
theorem dX3_settle_140 : decode cX3_settle 140 = .ok (.iinc 1 (-1), 3) := by decide +kernel
theorem dX3_settle_143 : decode cX3_settle 143 = .ok (.goto (-28), 3) := by decide +kernel
theorem dX3_settle_146 : decode cX3_settle 146 = .ok (.return_, 1) := by decide +kernel
set_option maxRecDepth 20000 in
theorem ggX4_init_X1_init : GoodIn wsX4_init wsX1_init := goodIn_r _ [19, 20, 2, 3, 21, 22, 38] (by decide +kernel) (by decide +kernel)
set_option maxRecDepth 20000 in
theorem gX4_init_X1_init : GoodIn wsX4_init (wsX1_init) := ggX4_init_X1_init
set_option maxRecDepth 20000 in
theorem ggX4_init_X2_init : GoodIn wsX4_init wsX2_init := goodIn_r _ [25, 26, 2, 3, 27, 28, 8, 9, 29, 30, 31, 18, 19, 20, 21, 22, 39, 40, 41, 38] (by decide +kernel) (by decide +kernel)
set_option maxRecDepth 20000 in
theorem gX4_init_X2_init : GoodIn wsX4_init (wsX2_init) := ggX4_init_X2_init
theorem dX4_init_0 : decode cX4_init 0 = .ok (.aload_n 0, 1) := by decide +kernel
theorem dX4_init_1 : decode cX4_init 1 = .ok (.invokespecial 3, 3) := by decide +kernel
theorem dX4_init_4 : decode cX4_init 4 = .ok (.aload_n 0, 1) := by decide +kernel
theorem dX4_init_5 : decode cX4_init 5 = .ok (.bipush 6, 2) := by decide +kernel
theorem dX4_init_7 : decode cX4_init 7 = .ok (.anewarray 9, 3) := by decide +kernel
theorem dX4_init_10 : decode cX4_init 10 = .ok (.putfield 11, 3) := by decide +kernel
theorem dX4_init_13 : decode cX4_init 13 = .ok (.aload_n 0, 1) := by decide +kernel
theorem dX4_init_14 : decode cX4_init 14 = .ok (.iconst 4, 1) := by decide +kernel
theorem dX4_init_15 : decode cX4_init 15 = .ok (.anewarray 15, 3) := by decide +kernel
theorem dX4_init_18 : decode cX4_init 18 = .ok (.putfield 17, 3) := by decide +kernel
theorem dX4_init_21 : decode cX4_init 21 = .ok (.aload_n 0, 1) := by decide +kernel
theorem dX4_init_22 : decode cX4_init 22 = .ok (.new 15, 3) := by decide +kernel
theorem dX4_init_25 : decode cX4_init 25 = .ok (.dup, 1) := by decide +kernel
theorem dX4_init_26 : decode cX4_init 26 = .ok (.invokespecial 21, 3) := by decide +kernel
theorem dX4_init_29 : decode cX4_init 29 = .ok (.putfield 22, 3) := by decide +kernel
theorem dX4_init_32 : decode cX4_init 32 = .ok (.aload_n 0, 1) := by decide +kernel
theorem dX4_init_33 : decode cX4_init 33 = .ok (.new 26, 3) := by decide +kernel
theorem dX4_init_36 : decode cX4_init 36 = .ok (.dup, 1) := by decide +kernel
theorem dX4_init_37 : decode cX4_init 37 = .ok (.invokespecial 28, 3) := by decide +kernel
theorem dX4_init_40 : decode cX4_init 40 = .ok (.putfield 29, 3) := by decide +kernel
theorem dX4_init_43 : decode cX4_init 43 = .ok (.aload_n 0, 1) := by decide +kernel
theorem dX4_init_44 : decode cX4_init 44 = .ok (.iconst 0, 1) := by decide +kernel
theorem dX4_init_45 : decode cX4_init 45 = .ok (.putfield 33, 3) := by decide +kernel
theorem dX4_init_48 : decode cX4_init 48 = .ok (.aload_n 0, 1) := by decide +kernel
theorem dX4_init_49 : decode cX4_init 49 = .ok (.iconst 0, 1) := by decide +kernel
theorem dX4_init_50 : decode cX4_init 50 = .ok (.putfield 37, 3) := by decide +kernel
theorem dX4_init_53 : decode cX4_init 53 = .ok (.return_, 1) := by decide +kernel
set_option maxRecDepth 20000 in
theorem ggX4_thing_X3_init : GoodIn wsX4_thing wsX3_init := goodIn_r _ [8, 9, 10, 11, 12, 13, 14, 15, 16, 17, 18, 19, 20, 21, 22, 23, 24, 25, 26, 27, 28, 29, 30, 37, 38, 39, 40, 41, 42, 43, 44, 45, 46, 47] (by decide +kernel) (by decide +kernel)
set_option maxRecDepth 20000 in
theorem gX4_thing_X3_init : GoodIn wsX4_thing (wsX3_init) := ggX4_thing_X3_init
theorem dX4_thing_0 : decode cX4_thing 0 = .ok (.iload_n 1, 1) := by decide +kernel
theorem dX4_thing_1 : decode cX4_thing 1 = .ok (.ifCond .lt 18, 3) := by decide +kernel
theorem dX4_thing_4 : decode cX4_thing 4 = .ok (.iload_n 1, 1) := by decide +kernel
theorem dX4_thing_5 : decode cX4_thing 5 = .ok (.bipush 7, 2) := by decide +kernel
theorem dX4_thing_7 : decode cX4_thing 7 = .ok (.if_icmp .gt 12, 3) := by decide +kernel
theorem dX4_thing_10 : decode cX4_thing 10 = .ok (.aload_n 0, 1) := by decide +kernel
theorem dX4_thing_11 : decode cX4_thing 11 = .ok (.getfield 33, 3) := by decide +kernel
theorem dX4_thing_14 : decode cX4_thing 14 = .ok (.bipush 6, 2) := by decide +kernel
theorem dX4_thing_16 : decode cX4_thing 16 = .ok (.if_icmp .lt 5, 3) := by decide +kernel
theorem dX4_thing_19 : decode cX4_thing 19 = .ok (.iconst (-1), 1) := by decide +kernel
theorem dX4_thing_20 : decode cX4_thing 20 = .ok (.ireturn, 1) := by decide +kernel
theorem dX4_thing_21 : decode cX4_thing 21 = .ok (.aload_n 0, 1) := by decide +kernel
theorem dX4_thing_22 : decode cX4_thing 22 = .ok (.getfield 11, 3) := by decide +kernel
theorem dX4_thing_25 : decode cX4_thing 25 = .ok (.aload_n 0, 1) := by decide +kernel
theorem dX4_thing_26 : decode cX4_thing 26 = .ok (.getfield 33, 3) := by decide +kernel
theorem dX4_thing_29 : decode cX4_thing 29 = .ok (.new 9, 3) := by decide +kernel
theorem dX4_thing_32 : decode cX4_thing 32 = .ok (.dup, 1) := by decide +kernel
theorem dX4_thing_33 : decode cX4_thing 33 = .ok (.iload_n 1, 1) := by decide +kernel
theorem dX4_thing_34 : decode cX4_thing 34 = .ok (.invokespecial 40, 3) := by decide +kernel
theorem dX4_thing_37 : decode cX4_thing 37 = .ok (.aastore, 1) := by decide +kernel
theorem dX4_thing_38 : decode cX4_thing 38 = .ok (.aload_n 0, 1) := by decide +kernel
theorem dX4_thing_39 : decode cX4_thing 39 = .ok (.dup, 1) := by decide +kernel
theorem dX4_thing_40 : decode cX4_thing 40 = .ok (.getfield 33, 3) := by decide +kernel
theorem dX4_thing_43 : decode cX4_thing 43 = .ok (.iconst 1, 1) := by decide +kernel
theorem dX4_thing_44 : decode cX4_thing 44 = .ok (.iadd, 1) := by decide +kernel
theorem dX4_thing_45 : decode cX4_thing 45 = .ok (.putfield 33, 3) := by decide +kernel
theorem dX4_thing_48 : decode cX4_thing 48 = .ok (.aload_n 0, 1) := by decide +kernel
theorem dX4_thing_49 : decode cX4_thing 49 = .ok (.getfield 33, 3) := by decide +kernel
theorem dX4_thing_52 : decode cX4_thing 52 = .ok (.iconst 1, 1) := by decide +kernel
theorem dX4_thing_53 : decode cX4_thing 53 = .ok (.isub, 1) := by decide +kernel
theorem dX4_thing_54 : decode cX4_thing 54 = .ok (.ireturn, 1) := by decide +kernel
set_option maxRecDepth 20000 in
theorem ggX4_see_X4_thingOf : GoodIn wsX4_see wsX4_thingOf := goodIn_r _ [5, 6, 7, 70, 71, 72, 73, 74, 75] (by decide +kernel) (by decide +kernel)
set_option maxRecDepth 20000 in
theorem gX4_see_X4_thingOf : GoodIn wsX4_see (wsV RX4 43 RX4 yX4_thingOf wsX4_thingOf) := goodIn_app (goodIn_of _ (by decide +kernel)) ggX4_see_X4_thingOf
set_option maxRecDepth 20000 in
theorem ggX4_see_X4_isTick : GoodIn wsX4_see wsX4_isTick := goodIn_r _ [10] (by decide +kernel) (by decide +kernel)
set_option maxRecDepth 20000 in
theorem gX4_see_X4_isTick : GoodIn wsX4_see (va_wsS RX4 47 yX4_isTick wsX4_isTick) := goodIn_app (goodIn_of _ (by decide +kernel)) ggX4_see_X4_isTick
set_option maxRecDepth 20000 in
theorem ggX4_see_X4_isPlace : GoodIn wsX4_see wsX4_isPlace := goodIn_r _ [13] (by decide +kernel) (by decide +kernel)
set_option maxRecDepth 20000 in
theorem gX4_see_X4_isPlace : GoodIn wsX4_see (va_wsS RX4 51 yX4_isPlace wsX4_isPlace) := goodIn_app (goodIn_of _ (by decide +kernel)) ggX4_see_X4_isPlace
set_option maxRecDepth 20000 in
theorem ggX4_see_X3_takeSight : GoodIn wsX4_see wsX3_takeSight := goodIn_r _ [18, 19, 20, 21, 22, 23, 24, 25, 26, 17, 27, 28, 29, 30, 31, 32, 33, 34, 35, 36, 37, 38, 39, 4, 40, 41, 42, 43, 44, 45, 46, 47, 48, 49, 50, 51, 52, 53, 54, 55, 56, 57, 58, 59, 60, 61, 62, 63, 64, 65, 76, 77, 78, 79, 80, 81, 82, 83, 84, 85, 86] (by decide +kernel) (by decide +kernel)
set_option maxRecDepth 20000 in
theorem gX4_see_X3_takeSight : GoodIn wsX4_see (wsV RX4 54 RX3 yX3_takeSight wsX3_takeSight) := goodIn_app (goodIn_of _ (by decide +kernel)) ggX4_see_X3_takeSight
set_option maxRecDepth 20000 in
theorem ggX4_see_X3_sights : GoodIn wsX4_see wsX3_sights := goodIn_r _ [69, 19, 76, 77, 78, 79, 80, 81, 82] (by decide +kernel) (by decide +kernel)
set_option maxRecDepth 20000 in
theorem gX4_see_X3_sights : GoodIn wsX4_see (wsV RX4 58 RX3 yX3_sights wsX3_sights) := goodIn_app (goodIn_of _ (by decide +kernel)) ggX4_see_X3_sights
theorem dX4_see_0 : decode cX4_see 0 = .ok (.aload_n 0, 1) := by decide +kernel
theorem dX4_see_1 : decode cX4_see 1 = .ok (.iload_n 1, 1) := by decide +kernel
theorem dX4_see_2 : decode cX4_see 2 = .ok (.invokevirtual 43, 3) := by decide +kernel
theorem dX4_see_5 : decode cX4_see 5 = .ok (.astore 5, 2) := by decide +kernel
theorem dX4_see_7 : decode cX4_see 7 = .ok (.aload 5, 2) := by decide +kernel
theorem dX4_see_9 : decode cX4_see 9 = .ok (.ifnull 29, 3) := by decide +kernel
theorem dX4_see_12 : decode cX4_see 12 = .ok (.iload_n 2, 1) := by decide +kernel
theorem dX4_see_13 : decode cX4_see 13 = .ok (.invokestatic 47, 3) := by decide +kernel
theorem dX4_see_16 : decode cX4_see 16 = .ok (.ifCond .eq 22, 3) := by decide +kernel
theorem dX4_see_19 : decode cX4_see 19 = .ok (.iload_n 3, 1) := by decide +kernel
theorem dX4_see_20 : decode cX4_see 20 = .ok (.invokestatic 51, 3) := by decide +kernel
theorem dX4_see_23 : decode cX4_see 23 = .ok (.ifCond .eq 15, 3) := by decide +kernel
theorem dX4_see_26 : decode cX4_see 26 = .ok (.iload 4, 2) := by decide +kernel
theorem dX4_see_28 : decode cX4_see 28 = .ok (.ifCond .lt 10, 3) := by decide +kernel
theorem dX4_see_31 : decode cX4_see 31 = .ok (.iload 4, 2) := by decide +kernel
theorem dX4_see_33 : decode cX4_see 33 = .ok (.bipush 64, 2) := by decide +kernel
theorem dX4_see_35 : decode cX4_see 35 = .ok (.if_icmp .lt 5, 3) := by decide +kernel
theorem dX4_see_38 : decode cX4_see 38 = .ok (.iconst (-1), 1) := by decide +kernel
theorem dX4_see_39 : decode cX4_see 39 = .ok (.ireturn, 1) := by decide +kernel
theorem dX4_see_40 : decode cX4_see 40 = .ok (.aload 5, 2) := by decide +kernel
theorem dX4_see_42 : decode cX4_see 42 = .ok (.iload_n 2, 1) := by decide +kernel
theorem dX4_see_43 : decode cX4_see 43 = .ok (.iload_n 3, 1) := by decide +kernel
theorem dX4_see_44 : decode cX4_see 44 = .ok (.iload 4, 2) := by decide +kernel
theorem dX4_see_46 : decode cX4_see 46 = .ok (.invokevirtual 54, 3) := by decide +kernel
theorem dX4_see_49 : decode cX4_see 49 = .ok (.ifCond .eq 11, 3) := by decide +kernel
theorem dX4_see_52 : decode cX4_see 52 = .ok (.aload 5, 2) := by decide +kernel
theorem dX4_see_54 : decode cX4_see 54 = .ok (.invokevirtual 58, 3) := by decide +kernel
theorem dX4_see_57 : decode cX4_see 57 = .ok (.goto 4, 3) := by decide +kernel
theorem dX4_see_60 : decode cX4_see 60 = .ok (.iconst (-1), 1) := by decide +kernel
theorem dX4_see_61 : decode cX4_see 61 = .ok (.ireturn, 1) := by decide +kernel
set_option maxRecDepth 20000 in
theorem ggX4_back_X4_thingOf : GoodIn wsX4_back wsX4_thingOf := goodIn_r _ [5, 6, 7, 51, 52, 53, 54, 55, 56] (by decide +kernel) (by decide +kernel)
set_option maxRecDepth 20000 in
theorem gX4_back_X4_thingOf : GoodIn wsX4_back (wsV RX4 43 RX4 yX4_thingOf wsX4_thingOf) := goodIn_app (goodIn_of _ (by decide +kernel)) ggX4_back_X4_thingOf
set_option maxRecDepth 20000 in
theorem ggX4_back_X3_dropSight : GoodIn wsX4_back wsX3_dropSight := goodIn_r _ [12, 13, 14, 15, 16, 11, 17, 18, 19, 20, 21, 22, 23, 24, 25, 26, 27, 28, 29, 30, 31, 32, 4, 33, 34, 35, 36, 37, 38, 39, 40, 41, 42, 43, 44, 45, 46, 47, 48, 49, 50, 57, 58, 59, 60, 61, 62, 63, 64, 65, 66, 67] (by decide +kernel) (by decide +kernel)
set_option maxRecDepth 20000 in
theorem gX4_back_X3_dropSight : GoodIn wsX4_back (wsV RX4 62 RX3 yX3_dropSight wsX3_dropSight) := goodIn_app (goodIn_of _ (by decide +kernel)) ggX4_back_X3_dropSight
theorem dX4_back_0 : decode cX4_back 0 = .ok (.aload_n 0, 1) := by decide +kernel
theorem dX4_back_1 : decode cX4_back 1 = .ok (.iload_n 1, 1) := by decide +kernel
theorem dX4_back_2 : decode cX4_back 2 = .ok (.invokevirtual 43, 3) := by decide +kernel
theorem dX4_back_5 : decode cX4_back 5 = .ok (.astore_n 2, 1) := by decide +kernel
theorem dX4_back_6 : decode cX4_back 6 = .ok (.aload_n 2, 1) := by decide +kernel
theorem dX4_back_7 : decode cX4_back 7 = .ok (.ifnull 14, 3) := by decide +kernel
theorem dX4_back_10 : decode cX4_back 10 = .ok (.aload_n 2, 1) := by decide +kernel
theorem dX4_back_11 : decode cX4_back 11 = .ok (.invokevirtual 62, 3) := by decide +kernel
theorem dX4_back_14 : decode cX4_back 14 = .ok (.ifCond .eq 7, 3) := by decide +kernel
theorem dX4_back_17 : decode cX4_back 17 = .ok (.iconst 1, 1) := by decide +kernel
theorem dX4_back_18 : decode cX4_back 18 = .ok (.goto 4, 3) := by decide +kernel
theorem dX4_back_21 : decode cX4_back 21 = .ok (.iconst 0, 1) := by decide +kernel
theorem dX4_back_22 : decode cX4_back 22 = .ok (.ireturn, 1) := by decide +kernel
set_option maxRecDepth 20000 in
theorem ggX4_jumps_X4_thingOf : GoodIn wsX4_jumps wsX4_thingOf := goodIn_r _ [5, 6, 7, 14, 15, 16, 17, 18, 19] (by decide +kernel) (by decide +kernel)
set_option maxRecDepth 20000 in
theorem gX4_jumps_X4_thingOf : GoodIn wsX4_jumps (wsV RX4 43 RX4 yX4_thingOf wsX4_thingOf) := goodIn_app (goodIn_of _ (by decide +kernel)) ggX4_jumps_X4_thingOf
set_option maxRecDepth 20000 in
theorem ggX4_jumps_X3_leftOut : GoodIn wsX4_jumps wsX3_leftOut := goodIn_r _ [12, 13, 20, 21, 22, 23, 24, 25, 26] (by decide +kernel) (by decide +kernel)
set_option maxRecDepth 20000 in
theorem gX4_jumps_X3_leftOut : GoodIn wsX4_jumps (wsV RX4 66 RX3 yX3_leftOut wsX3_leftOut) := goodIn_app (goodIn_of _ (by decide +kernel)) ggX4_jumps_X3_leftOut
