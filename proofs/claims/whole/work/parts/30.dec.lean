theorem dX0_init_0 : decode cX0_init 0 = .ok (.aload_n 0, 1) := by decide +kernel
theorem dX0_init_1 : decode cX0_init 1 = .ok (.invokespecial 3, 3) := by decide +kernel
theorem dX0_init_4 : decode cX0_init 4 = .ok (.aload_n 0, 1) := by decide +kernel
theorem dX0_init_5 : decode cX0_init 5 = .ok (.bipush 32, 2) := by decide +kernel
theorem dX0_init_7 : decode cX0_init 7 = .ok (.anewarray 9, 3) := by decide +kernel
theorem dX0_init_10 : decode cX0_init 10 = .ok (.putfield 11, 3) := by decide +kernel
theorem dX0_init_13 : decode cX0_init 13 = .ok (.return_, 1) := by decide +kernel
theorem dX0_make_0 : decode cX0_make 0 = .ok (.aload_n 0, 1) := by decide +kernel
theorem dX0_make_1 : decode cX0_make 1 = .ok (.getfield 17, 3) := by decide +kernel
theorem dX0_make_4 : decode cX0_make 4 = .ok (.bipush 32, 2) := by decide +kernel
theorem dX0_make_6 : decode cX0_make 6 = .ok (.if_icmp .ge 23, 3) := by decide +kernel
theorem dX0_make_9 : decode cX0_make 9 = .ok (.iload_n 2, 1) := by decide +kernel
theorem dX0_make_10 : decode cX0_make 10 = .ok (.iconst 1, 1) := by decide +kernel
theorem dX0_make_11 : decode cX0_make 11 = .ok (.if_icmp .lt 18, 3) := by decide +kernel
theorem dX0_make_14 : decode cX0_make 14 = .ok (.iload_n 2, 1) := by decide +kernel
theorem dX0_make_15 : decode cX0_make 15 = .ok (.sipush 256, 3) := by decide +kernel
theorem dX0_make_18 : decode cX0_make 18 = .ok (.if_icmp .gt 11, 3) := by decide +kernel
theorem dX0_make_21 : decode cX0_make 21 = .ok (.aload_n 0, 1) := by decide +kernel
theorem dX0_make_22 : decode cX0_make 22 = .ok (.iload_n 1, 1) := by decide +kernel
theorem dX0_make_23 : decode cX0_make 23 = .ok (.invokevirtual 21, 3) := by decide +kernel
theorem dX0_make_26 : decode cX0_make 26 = .ok (.ifnull 5, 3) := by decide +kernel
theorem dX0_make_29 : decode cX0_make 29 = .ok (.iconst (-1), 1) := by decide +kernel
theorem dX0_make_30 : decode cX0_make 30 = .ok (.ireturn, 1) := by decide +kernel
theorem dX0_make_31 : decode cX0_make 31 = .ok (.aload_n 0, 1) := by decide +kernel
theorem dX0_make_32 : decode cX0_make 32 = .ok (.getfield 11, 3) := by decide +kernel
theorem dX0_make_35 : decode cX0_make 35 = .ok (.aload_n 0, 1) := by decide +kernel
theorem dX0_make_36 : decode cX0_make 36 = .ok (.getfield 17, 3) := by decide +kernel
theorem dX0_make_39 : decode cX0_make 39 = .ok (.new 9, 3) := by decide +kernel
theorem dX0_make_42 : decode cX0_make 42 = .ok (.dup, 1) := by decide +kernel
theorem dX0_make_43 : decode cX0_make 43 = .ok (.aload_n 0, 1) := by decide +kernel
theorem dX0_make_44 : decode cX0_make 44 = .ok (.getfield 17, 3) := by decide +kernel
theorem dX0_make_47 : decode cX0_make 47 = .ok (.iload_n 1, 1) := by decide +kernel
theorem dX0_make_48 : decode cX0_make 48 = .ok (.iload_n 2, 1) := by decide +kernel
theorem dX0_make_49 : decode cX0_make 49 = .ok (.newarray .int, 2) := by decide +kernel
theorem dX0_make_51 : decode cX0_make 51 = .ok (.new 25, 3) := by decide +kernel
theorem dX0_make_54 : decode cX0_make 54 = .ok (.dup, 1) := by decide +kernel
theorem dX0_make_55 : decode cX0_make 55 = .ok (.invokespecial 27, 3) := by decide +kernel
theorem dX0_make_58 : decode cX0_make 58 = .ok (.invokespecial 28, 3) := by decide +kernel
theorem dX0_make_61 : decode cX0_make 61 = .ok (.aastore, 1) := by decide +kernel
theorem dX0_make_62 : decode cX0_make 62 = .ok (.aload_n 0, 1) := by decide +kernel
theorem dX0_make_63 : decode cX0_make 63 = .ok (.dup, 1) := by decide +kernel
theorem dX0_make_64 : decode cX0_make 64 = .ok (.getfield 17, 3) := by decide +kernel
theorem dX0_make_67 : decode cX0_make 67 = .ok (.iconst 1, 1) := by decide +kernel
theorem dX0_make_68 : decode cX0_make 68 = .ok (.iadd, 1) := by decide +kernel
theorem dX0_make_69 : decode cX0_make 69 = .ok (.putfield 17, 3) := by decide +kernel
theorem dX0_make_72 : decode cX0_make 72 = .ok (.aload_n 0, 1) := by decide +kernel
theorem dX0_make_73 : decode cX0_make 73 = .ok (.getfield 17, 3) := by decide +kernel
theorem dX0_make_76 : decode cX0_make 76 = .ok (.iconst 1, 1) := by decide +kernel
theorem dX0_make_77 : decode cX0_make 77 = .ok (.isub, 1) := by decide +kernel
theorem dX0_make_78 : decode cX0_make 78 = .ok (.ireturn, 1) := by decide +kernel
theorem dX0_numbered_0 : decode cX0_numbered 0 = .ok (.iload_n 1, 1) := by decide +kernel
theorem dX0_numbered_1 : decode cX0_numbered 1 = .ok (.aload_n 0, 1) := by decide +kernel
theorem dX0_numbered_2 : decode cX0_numbered 2 = .ok (.getfield 17, 3) := by decide +kernel
theorem dX0_numbered_5 : decode cX0_numbered 5 = .ok (.invokestatic 31, 3) := by decide +kernel
theorem dX0_numbered_8 : decode cX0_numbered 8 = .ok (.ifCond .eq 12, 3) := by decide +kernel
theorem dX0_numbered_11 : decode cX0_numbered 11 = .ok (.aload_n 0, 1) := by decide +kernel
theorem dX0_numbered_12 : decode cX0_numbered 12 = .ok (.getfield 11, 3) := by decide +kernel
theorem dX0_numbered_15 : decode cX0_numbered 15 = .ok (.iload_n 1, 1) := by decide +kernel
theorem dX0_numbered_16 : decode cX0_numbered 16 = .ok (.aaload, 1) := by decide +kernel
theorem dX0_numbered_17 : decode cX0_numbered 17 = .ok (.goto 4, 3) := by decide +kernel
theorem dX0_numbered_20 : decode cX0_numbered 20 = .ok (.aconst_null, 1) := by decide +kernel
theorem dX0_numbered_21 : decode cX0_numbered 21 = .ok (.areturn, 1) := by decide +kernel
theorem dX0_named_0 : decode cX0_named 0 = .ok (.iconst 0, 1) := by decide +kernel
theorem dX0_named_1 : decode cX0_named 1 = .ok (.istore_n 2, 1) := by decide +kernel
theorem dX0_named_2 : decode cX0_named 2 = .ok (.iload_n 2, 1) := by decide +kernel
theorem dX0_named_3 : decode cX0_named 3 = .ok (.aload_n 0, 1) := by decide +kernel
theorem dX0_named_4 : decode cX0_named 4 = .ok (.getfield 17, 3) := by decide +kernel
theorem dX0_named_7 : decode cX0_named 7 = .ok (.if_icmp .ge 29, 3) := by decide +kernel
theorem dX0_named_10 : decode cX0_named 10 = .ok (.aload_n 0, 1) := by decide +kernel
theorem dX0_named_11 : decode cX0_named 11 = .ok (.getfield 11, 3) := by decide +kernel
theorem dX0_named_14 : decode cX0_named 14 = .ok (.iload_n 2, 1) := by decide +kernel
theorem dX0_named_15 : decode cX0_named 15 = .ok (.aaload, 1) := by decide +kernel
theorem dX0_named_16 : decode cX0_named 16 = .ok (.getfield 35, 3) := by decide +kernel
theorem dX0_named_19 : decode cX0_named 19 = .ok (.iload_n 1, 1) := by decide +kernel
theorem dX0_named_20 : decode cX0_named 20 = .ok (.if_icmp .ne 10, 3) := by decide +kernel
theorem dX0_named_23 : decode cX0_named 23 = .ok (.aload_n 0, 1) := by decide +kernel
theorem dX0_named_24 : decode cX0_named 24 = .ok (.getfield 11, 3) := by decide +kernel
theorem dX0_named_27 : decode cX0_named 27 = .ok (.iload_n 2, 1) := by decide +kernel
theorem dX0_named_28 : decode cX0_named 28 = .ok (.aaload, 1) := by decide +kernel
theorem dX0_named_29 : decode cX0_named 29 = .ok (.areturn, 1) := by decide +kernel
theorem dX0_named_30 : decode cX0_named 30 = .ok (.iinc 2 1, 3) := by decide +kernel
theorem dX0_named_33 : decode cX0_named 33 = .ok (.goto (-31), 3) := by decide +kernel
theorem dX0_named_36 : decode cX0_named 36 = .ok (.aconst_null, 1) := by decide +kernel
theorem dX0_named_37 : decode cX0_named 37 = .ok (.areturn, 1) := by decide +kernel
theorem dX1_init_0 : decode cX1_init 0 = .ok (.aload_n 0, 1) := by decide +kernel
theorem dX1_init_1 : decode cX1_init 1 = .ok (.invokespecial 3, 3) := by decide +kernel
theorem dX1_init_4 : decode cX1_init 4 = .ok (.aload_n 0, 1) := by decide +kernel
theorem dX1_init_5 : decode cX1_init 5 = .ok (.bipush 16, 2) := by decide +kernel
theorem dX1_init_7 : decode cX1_init 7 = .ok (.newarray .int, 2) := by decide +kernel
theorem dX1_init_9 : decode cX1_init 9 = .ok (.putfield 9, 3) := by decide +kernel
theorem dX1_init_12 : decode cX1_init 12 = .ok (.aload_n 0, 1) := by decide +kernel
theorem dX1_init_13 : decode cX1_init 13 = .ok (.bipush 16, 2) := by decide +kernel
theorem dX1_init_15 : decode cX1_init 15 = .ok (.newarray .int, 2) := by decide +kernel
theorem dX1_init_17 : decode cX1_init 17 = .ok (.putfield 15, 3) := by decide +kernel
theorem dX1_init_20 : decode cX1_init 20 = .ok (.aload_n 0, 1) := by decide +kernel
theorem dX1_init_21 : decode cX1_init 21 = .ok (.bipush 16, 2) := by decide +kernel
theorem dX1_init_23 : decode cX1_init 23 = .ok (.newarray .boolean, 2) := by decide +kernel
theorem dX1_init_25 : decode cX1_init 25 = .ok (.putfield 18, 3) := by decide +kernel
theorem dX1_init_28 : decode cX1_init 28 = .ok (.aload_n 0, 1) := by decide +kernel
theorem dX1_init_29 : decode cX1_init 29 = .ok (.bipush 16, 2) := by decide +kernel
theorem dX1_init_31 : decode cX1_init 31 = .ok (.newarray .int, 2) := by decide +kernel
theorem dX1_init_33 : decode cX1_init 33 = .ok (.putfield 22, 3) := by decide +kernel
theorem dX1_init_36 : decode cX1_init 36 = .ok (.aload_n 0, 1) := by decide +kernel
theorem dX1_init_37 : decode cX1_init 37 = .ok (.bipush 16, 2) := by decide +kernel
theorem dX1_init_39 : decode cX1_init 39 = .ok (.newarray .int, 2) := by decide +kernel
theorem dX1_init_41 : decode cX1_init 41 = .ok (.putfield 25, 3) := by decide +kernel
theorem dX1_init_44 : decode cX1_init 44 = .ok (.return_, 1) := by decide +kernel
theorem dX1_addDefinition_0 : decode cX1_addDefinition 0 = .ok (.aload_n 0, 1) := by decide +kernel
theorem dX1_addDefinition_1 : decode cX1_addDefinition 1 = .ok (.getfield 28, 3) := by decide +kernel
theorem dX1_addDefinition_4 : decode cX1_addDefinition 4 = .ok (.bipush 16, 2) := by decide +kernel
theorem dX1_addDefinition_6 : decode cX1_addDefinition 6 = .ok (.if_icmp .ge 12, 3) := by decide +kernel
theorem dX1_addDefinition_9 : decode cX1_addDefinition 9 = .ok (.aload_n 0, 1) := by decide +kernel
theorem dX1_addDefinition_10 : decode cX1_addDefinition 10 = .ok (.iload_n 1, 1) := by decide +kernel
theorem dX1_addDefinition_11 : decode cX1_addDefinition 11 = .ok (.invokevirtual 32, 3) := by decide +kernel
theorem dX1_addDefinition_14 : decode cX1_addDefinition 14 = .ok (.iconst (-1), 1) := by decide +kernel
theorem dX1_addDefinition_15 : decode cX1_addDefinition 15 = .ok (.if_icmp .eq 5, 3) := by decide +kernel
theorem dX1_addDefinition_18 : decode cX1_addDefinition 18 = .ok (.iconst 0, 1) := by decide +kernel
theorem dX1_addDefinition_19 : decode cX1_addDefinition 19 = .ok (.ireturn, 1) := by decide +kernel
theorem dX1_addDefinition_20 : decode cX1_addDefinition 20 = .ok (.aload_n 0, 1) := by decide +kernel
theorem dX1_addDefinition_21 : decode cX1_addDefinition 21 = .ok (.getfield 9, 3) := by decide +kernel
theorem dX1_addDefinition_24 : decode cX1_addDefinition 24 = .ok (.aload_n 0, 1) := by decide +kernel
theorem dX1_addDefinition_25 : decode cX1_addDefinition 25 = .ok (.getfield 28, 3) := by decide +kernel
theorem dX1_addDefinition_28 : decode cX1_addDefinition 28 = .ok (.iload_n 1, 1) := by decide +kernel
theorem dX1_addDefinition_29 : decode cX1_addDefinition 29 = .ok (.iastore, 1) := by decide +kernel
theorem dX1_addDefinition_30 : decode cX1_addDefinition 30 = .ok (.aload_n 0, 1) := by decide +kernel
theorem dX1_addDefinition_31 : decode cX1_addDefinition 31 = .ok (.getfield 15, 3) := by decide +kernel
theorem dX1_addDefinition_34 : decode cX1_addDefinition 34 = .ok (.aload_n 0, 1) := by decide +kernel
theorem dX1_addDefinition_35 : decode cX1_addDefinition 35 = .ok (.getfield 28, 3) := by decide +kernel
theorem dX1_addDefinition_38 : decode cX1_addDefinition 38 = .ok (.iload_n 2, 1) := by decide +kernel
theorem dX1_addDefinition_39 : decode cX1_addDefinition 39 = .ok (.iastore, 1) := by decide +kernel
theorem dX1_addDefinition_40 : decode cX1_addDefinition 40 = .ok (.aload_n 0, 1) := by decide +kernel
theorem dX1_addDefinition_41 : decode cX1_addDefinition 41 = .ok (.dup, 1) := by decide +kernel
theorem dX1_addDefinition_42 : decode cX1_addDefinition 42 = .ok (.getfield 28, 3) := by decide +kernel
theorem dX1_addDefinition_45 : decode cX1_addDefinition 45 = .ok (.iconst 1, 1) := by decide +kernel
theorem dX1_addDefinition_46 : decode cX1_addDefinition 46 = .ok (.iadd, 1) := by decide +kernel
theorem dX1_addDefinition_47 : decode cX1_addDefinition 47 = .ok (.putfield 28, 3) := by decide +kernel
theorem dX1_addDefinition_50 : decode cX1_addDefinition 50 = .ok (.iconst 1, 1) := by decide +kernel
theorem dX1_addDefinition_51 : decode cX1_addDefinition 51 = .ok (.ireturn, 1) := by decide +kernel
theorem dX1_wordOf_0 : decode cX1_wordOf 0 = .ok (.iconst 0, 1) := by decide +kernel
theorem dX1_wordOf_1 : decode cX1_wordOf 1 = .ok (.istore_n 2, 1) := by decide +kernel
theorem dX1_wordOf_2 : decode cX1_wordOf 2 = .ok (.iload_n 2, 1) := by decide +kernel
theorem dX1_wordOf_3 : decode cX1_wordOf 3 = .ok (.aload_n 0, 1) := by decide +kernel
theorem dX1_wordOf_4 : decode cX1_wordOf 4 = .ok (.getfield 28, 3) := by decide +kernel
theorem dX1_wordOf_7 : decode cX1_wordOf 7 = .ok (.if_icmp .ge 26, 3) := by decide +kernel
theorem dX1_wordOf_10 : decode cX1_wordOf 10 = .ok (.aload_n 0, 1) := by decide +kernel
theorem dX1_wordOf_11 : decode cX1_wordOf 11 = .ok (.getfield 9, 3) := by decide +kernel
theorem dX1_wordOf_14 : decode cX1_wordOf 14 = .ok (.iload_n 2, 1) := by decide +kernel
theorem dX1_wordOf_15 : decode cX1_wordOf 15 = .ok (.iaload, 1) := by decide +kernel
theorem dX1_wordOf_16 : decode cX1_wordOf 16 = .ok (.iload_n 1, 1) := by decide +kernel
theorem dX1_wordOf_17 : decode cX1_wordOf 17 = .ok (.if_icmp .ne 10, 3) := by decide +kernel
theorem dX1_wordOf_20 : decode cX1_wordOf 20 = .ok (.aload_n 0, 1) := by decide +kernel
theorem dX1_wordOf_21 : decode cX1_wordOf 21 = .ok (.getfield 15, 3) := by decide +kernel
theorem dX1_wordOf_24 : decode cX1_wordOf 24 = .ok (.iload_n 2, 1) := by decide +kernel
theorem dX1_wordOf_25 : decode cX1_wordOf 25 = .ok (.iaload, 1) := by decide +kernel
theorem dX1_wordOf_26 : decode cX1_wordOf 26 = .ok (.ireturn, 1) := by decide +kernel
theorem dX1_wordOf_27 : decode cX1_wordOf 27 = .ok (.iinc 2 1, 3) := by decide +kernel
theorem dX1_wordOf_30 : decode cX1_wordOf 30 = .ok (.goto (-28), 3) := by decide +kernel
theorem dX1_wordOf_33 : decode cX1_wordOf 33 = .ok (.iconst (-1), 1) := by decide +kernel
theorem dX1_wordOf_34 : decode cX1_wordOf 34 = .ok (.ireturn, 1) := by decide +kernel
theorem dX1_setLink_0 : decode cX1_setLink 0 = .ok (.iload_n 1, 1) := by decide +kernel
theorem dX1_setLink_1 : decode cX1_setLink 1 = .ok (.bipush 16, 2) := by decide +kernel
theorem dX1_setLink_3 : decode cX1_setLink 3 = .ok (.invokestatic 36, 3) := by decide +kernel
theorem dX1_setLink_6 : decode cX1_setLink 6 = .ok (.ifCond .ne 5, 3) := by decide +kernel
theorem dX1_setLink_9 : decode cX1_setLink 9 = .ok (.iconst 0, 1) := by decide +kernel
theorem dX1_setLink_10 : decode cX1_setLink 10 = .ok (.ireturn, 1) := by decide +kernel
theorem dX1_setLink_11 : decode cX1_setLink 11 = .ok (.aload_n 0, 1) := by decide +kernel
theorem dX1_setLink_12 : decode cX1_setLink 12 = .ok (.getfield 18, 3) := by decide +kernel
theorem dX1_setLink_15 : decode cX1_setLink 15 = .ok (.iload_n 1, 1) := by decide +kernel
theorem dX1_setLink_16 : decode cX1_setLink 16 = .ok (.iconst 1, 1) := by decide +kernel
theorem dX1_setLink_17 : decode cX1_setLink 17 = .ok (.bastore, 1) := by decide +kernel
theorem dX1_setLink_18 : decode cX1_setLink 18 = .ok (.aload_n 0, 1) := by decide +kernel
theorem dX1_setLink_19 : decode cX1_setLink 19 = .ok (.getfield 22, 3) := by decide +kernel
theorem dX1_setLink_22 : decode cX1_setLink 22 = .ok (.iload_n 1, 1) := by decide +kernel
theorem dX1_setLink_23 : decode cX1_setLink 23 = .ok (.iload_n 2, 1) := by decide +kernel
theorem dX1_setLink_24 : decode cX1_setLink 24 = .ok (.iastore, 1) := by decide +kernel
theorem dX1_setLink_25 : decode cX1_setLink 25 = .ok (.aload_n 0, 1) := by decide +kernel
theorem dX1_setLink_26 : decode cX1_setLink 26 = .ok (.getfield 25, 3) := by decide +kernel
theorem dX1_setLink_29 : decode cX1_setLink 29 = .ok (.iload_n 1, 1) := by decide +kernel
theorem dX1_setLink_30 : decode cX1_setLink 30 = .ok (.iload_n 3, 1) := by decide +kernel
theorem dX1_setLink_31 : decode cX1_setLink 31 = .ok (.iastore, 1) := by decide +kernel
theorem dX1_setLink_32 : decode cX1_setLink 32 = .ok (.iconst 1, 1) := by decide +kernel
theorem dX1_setLink_33 : decode cX1_setLink 33 = .ok (.ireturn, 1) := by decide +kernel
theorem dX1_hasLink_0 : decode cX1_hasLink 0 = .ok (.iload_n 1, 1) := by decide +kernel
theorem dX1_hasLink_1 : decode cX1_hasLink 1 = .ok (.bipush 16, 2) := by decide +kernel
theorem dX1_hasLink_3 : decode cX1_hasLink 3 = .ok (.invokestatic 36, 3) := by decide +kernel
theorem dX1_hasLink_6 : decode cX1_hasLink 6 = .ok (.ifCond .eq 16, 3) := by decide +kernel
theorem dX1_hasLink_9 : decode cX1_hasLink 9 = .ok (.aload_n 0, 1) := by decide +kernel
theorem dX1_hasLink_10 : decode cX1_hasLink 10 = .ok (.getfield 18, 3) := by decide +kernel
theorem dX1_hasLink_13 : decode cX1_hasLink 13 = .ok (.iload_n 1, 1) := by decide +kernel
theorem dX1_hasLink_14 : decode cX1_hasLink 14 = .ok (.baload, 1) := by decide +kernel
theorem dX1_hasLink_15 : decode cX1_hasLink 15 = .ok (.ifCond .eq 7, 3) := by decide +kernel
theorem dX1_hasLink_18 : decode cX1_hasLink 18 = .ok (.iconst 1, 1) := by decide +kernel
theorem dX1_hasLink_19 : decode cX1_hasLink 19 = .ok (.goto 4, 3) := by decide +kernel
theorem dX1_hasLink_22 : decode cX1_hasLink 22 = .ok (.iconst 0, 1) := by decide +kernel
theorem dX1_hasLink_23 : decode cX1_hasLink 23 = .ok (.ireturn, 1) := by decide +kernel
theorem dX2_init_0 : decode cX2_init 0 = .ok (.aload_n 0, 1) := by decide +kernel
theorem dX2_init_1 : decode cX2_init 1 = .ok (.invokespecial 3, 3) := by decide +kernel
theorem dX2_init_4 : decode cX2_init 4 = .ok (.return_, 1) := by decide +kernel
theorem dX2_decode_0 : decode cX2_decode 0 = .ok (.aload_n 0, 1) := by decide +kernel
theorem dX2_decode_1 : decode cX2_decode 1 = .ok (.iload_n 1, 1) := by decide +kernel
theorem dX2_decode_2 : decode cX2_decode 2 = .ok (.bipush 27, 2) := by decide +kernel
theorem dX2_decode_4 : decode cX2_decode 4 = .ok (.iushr, 1) := by decide +kernel
theorem dX2_decode_5 : decode cX2_decode 5 = .ok (.putfield 9, 3) := by decide +kernel
theorem dX2_decode_8 : decode cX2_decode 8 = .ok (.aload_n 0, 1) := by decide +kernel
theorem dX2_decode_9 : decode cX2_decode 9 = .ok (.iload_n 1, 1) := by decide +kernel
theorem dX2_decode_10 : decode cX2_decode 10 = .ok (.bipush 26, 2) := by decide +kernel
theorem dX2_decode_12 : decode cX2_decode 12 = .ok (.iushr, 1) := by decide +kernel
theorem dX2_decode_13 : decode cX2_decode 13 = .ok (.iconst 1, 1) := by decide +kernel
theorem dX2_decode_14 : decode cX2_decode 14 = .ok (.iand, 1) := by decide +kernel
theorem dX2_decode_15 : decode cX2_decode 15 = .ok (.ifCond .eq 7, 3) := by decide +kernel
theorem dX2_decode_18 : decode cX2_decode 18 = .ok (.iconst 1, 1) := by decide +kernel
theorem dX2_decode_19 : decode cX2_decode 19 = .ok (.goto 4, 3) := by decide +kernel
theorem dX2_decode_22 : decode cX2_decode 22 = .ok (.iconst 0, 1) := by decide +kernel
theorem dX2_decode_23 : decode cX2_decode 23 = .ok (.putfield 15, 3) := by decide +kernel
theorem dX2_decode_26 : decode cX2_decode 26 = .ok (.aload_n 0, 1) := by decide +kernel
theorem dX2_decode_27 : decode cX2_decode 27 = .ok (.iload_n 1, 1) := by decide +kernel
theorem dX2_decode_28 : decode cX2_decode 28 = .ok (.bipush 24, 2) := by decide +kernel
theorem dX2_decode_30 : decode cX2_decode 30 = .ok (.iushr, 1) := by decide +kernel
theorem dX2_decode_31 : decode cX2_decode 31 = .ok (.iconst 3, 1) := by decide +kernel
theorem dX2_decode_32 : decode cX2_decode 32 = .ok (.iand, 1) := by decide +kernel
theorem dX2_decode_33 : decode cX2_decode 33 = .ok (.putfield 19, 3) := by decide +kernel
theorem dX2_decode_36 : decode cX2_decode 36 = .ok (.aload_n 0, 1) := by decide +kernel
theorem dX2_decode_37 : decode cX2_decode 37 = .ok (.iload_n 1, 1) := by decide +kernel
theorem dX2_decode_38 : decode cX2_decode 38 = .ok (.bipush 21, 2) := by decide +kernel
theorem dX2_decode_40 : decode cX2_decode 40 = .ok (.iushr, 1) := by decide +kernel
theorem dX2_decode_41 : decode cX2_decode 41 = .ok (.bipush 7, 2) := by decide +kernel
theorem dX2_decode_43 : decode cX2_decode 43 = .ok (.iand, 1) := by decide +kernel
theorem dX2_decode_44 : decode cX2_decode 44 = .ok (.putfield 22, 3) := by decide +kernel
theorem dX2_decode_47 : decode cX2_decode 47 = .ok (.aload_n 0, 1) := by decide +kernel
theorem dX2_decode_48 : decode cX2_decode 48 = .ok (.iload_n 1, 1) := by decide +kernel
theorem dX2_decode_49 : decode cX2_decode 49 = .ok (.bipush 19, 2) := by decide +kernel
theorem dX2_decode_51 : decode cX2_decode 51 = .ok (.iushr, 1) := by decide +kernel
theorem dX2_decode_52 : decode cX2_decode 52 = .ok (.iconst 3, 1) := by decide +kernel
theorem dX2_decode_53 : decode cX2_decode 53 = .ok (.iand, 1) := by decide +kernel
theorem dX2_decode_54 : decode cX2_decode 54 = .ok (.putfield 25, 3) := by decide +kernel
theorem dX2_decode_57 : decode cX2_decode 57 = .ok (.aload_n 0, 1) := by decide +kernel
theorem dX2_decode_58 : decode cX2_decode 58 = .ok (.iload_n 1, 1) := by decide +kernel
theorem dX2_decode_59 : decode cX2_decode 59 = .ok (.bipush 16, 2) := by decide +kernel
theorem dX2_decode_61 : decode cX2_decode 61 = .ok (.iushr, 1) := by decide +kernel
theorem dX2_decode_62 : decode cX2_decode 62 = .ok (.bipush 7, 2) := by decide +kernel
theorem dX2_decode_64 : decode cX2_decode 64 = .ok (.iand, 1) := by decide +kernel
theorem dX2_decode_65 : decode cX2_decode 65 = .ok (.putfield 28, 3) := by decide +kernel
theorem dX2_decode_68 : decode cX2_decode 68 = .ok (.aload_n 0, 1) := by decide +kernel
theorem dX2_decode_69 : decode cX2_decode 69 = .ok (.iload_n 1, 1) := by decide +kernel
theorem dX2_decode_70 : decode cX2_decode 70 = .ok (.bipush 16, 2) := by decide +kernel
theorem dX2_decode_72 : decode cX2_decode 72 = .ok (.ishl, 1) := by decide +kernel
theorem dX2_decode_73 : decode cX2_decode 73 = .ok (.bipush 16, 2) := by decide +kernel
theorem dX2_decode_75 : decode cX2_decode 75 = .ok (.ishr, 1) := by decide +kernel
theorem dX2_decode_76 : decode cX2_decode 76 = .ok (.putfield 31, 3) := by decide +kernel
theorem dX2_decode_79 : decode cX2_decode 79 = .ok (.return_, 1) := by decide +kernel
theorem dX2_hasAddress_0 : decode cX2_hasAddress 0 = .ok (.aload_n 0, 1) := by decide +kernel
theorem dX2_hasAddress_1 : decode cX2_hasAddress 1 = .ok (.getfield 9, 3) := by decide +kernel
theorem dX2_hasAddress_4 : decode cX2_hasAddress 4 = .ok (.ifCond .eq 25, 3) := by decide +kernel
theorem dX2_hasAddress_7 : decode cX2_hasAddress 7 = .ok (.aload_n 0, 1) := by decide +kernel
theorem dX2_hasAddress_8 : decode cX2_hasAddress 8 = .ok (.getfield 9, 3) := by decide +kernel
theorem dX2_hasAddress_11 : decode cX2_hasAddress 11 = .ok (.bipush 24, 2) := by decide +kernel
theorem dX2_hasAddress_13 : decode cX2_hasAddress 13 = .ok (.if_icmp .eq 16, 3) := by decide +kernel
theorem dX2_hasAddress_16 : decode cX2_hasAddress 16 = .ok (.aload_n 0, 1) := by decide +kernel
theorem dX2_hasAddress_17 : decode cX2_hasAddress 17 = .ok (.getfield 9, 3) := by decide +kernel
theorem dX2_hasAddress_20 : decode cX2_hasAddress 20 = .ok (.bipush 25, 2) := by decide +kernel
theorem dX2_hasAddress_22 : decode cX2_hasAddress 22 = .ok (.if_icmp .eq 7, 3) := by decide +kernel
theorem dX2_hasAddress_25 : decode cX2_hasAddress 25 = .ok (.iconst 1, 1) := by decide +kernel
theorem dX2_hasAddress_26 : decode cX2_hasAddress 26 = .ok (.goto 4, 3) := by decide +kernel
theorem dX2_hasAddress_29 : decode cX2_hasAddress 29 = .ok (.iconst 0, 1) := by decide +kernel
theorem dX2_hasAddress_30 : decode cX2_hasAddress 30 = .ok (.ireturn, 1) := by decide +kernel
theorem dX2_isLawful_0 : decode cX2_isLawful 0 = .ok (.aload_n 0, 1) := by decide +kernel
theorem dX2_isLawful_1 : decode cX2_isLawful 1 = .ok (.getfield 9, 3) := by decide +kernel
theorem dX2_isLawful_4 : decode cX2_isLawful 4 = .ok (.bipush 25, 2) := by decide +kernel
theorem dX2_isLawful_6 : decode cX2_isLawful 6 = .ok (.if_icmp .le 5, 3) := by decide +kernel
theorem dX2_isLawful_9 : decode cX2_isLawful 9 = .ok (.iconst 0, 1) := by decide +kernel
theorem dX2_isLawful_10 : decode cX2_isLawful 10 = .ok (.ireturn, 1) := by decide +kernel
theorem dX2_isLawful_11 : decode cX2_isLawful 11 = .ok (.aload_n 0, 1) := by decide +kernel
theorem dX2_isLawful_12 : decode cX2_isLawful 12 = .ok (.invokevirtual 34, 3) := by decide +kernel
theorem dX2_isLawful_15 : decode cX2_isLawful 15 = .ok (.ifCond .ne 5, 3) := by decide +kernel
theorem dX2_isLawful_18 : decode cX2_isLawful 18 = .ok (.iconst 1, 1) := by decide +kernel
theorem dX2_isLawful_19 : decode cX2_isLawful 19 = .ok (.ireturn, 1) := by decide +kernel
theorem dX2_isLawful_20 : decode cX2_isLawful 20 = .ok (.aload_n 0, 1) := by decide +kernel
theorem dX2_isLawful_21 : decode cX2_isLawful 21 = .ok (.getfield 19, 3) := by decide +kernel
theorem dX2_isLawful_24 : decode cX2_isLawful 24 = .ok (.iconst 3, 1) := by decide +kernel
theorem dX2_isLawful_25 : decode cX2_isLawful 25 = .ok (.if_icmp .ne 19, 3) := by decide +kernel
theorem dX2_isLawful_28 : decode cX2_isLawful 28 = .ok (.aload_n 0, 1) := by decide +kernel
theorem dX2_isLawful_29 : decode cX2_isLawful 29 = .ok (.getfield 15, 3) := by decide +kernel
theorem dX2_isLawful_32 : decode cX2_isLawful 32 = .ok (.ifCond .ne 10, 3) := by decide +kernel
theorem dX2_isLawful_35 : decode cX2_isLawful 35 = .ok (.aload_n 0, 1) := by decide +kernel
theorem dX2_isLawful_36 : decode cX2_isLawful 36 = .ok (.invokevirtual 38, 3) := by decide +kernel
theorem dX2_isLawful_39 : decode cX2_isLawful 39 = .ok (.ifCond .ne 5, 3) := by decide +kernel
theorem dX2_isLawful_42 : decode cX2_isLawful 42 = .ok (.iconst 0, 1) := by decide +kernel
theorem dX2_isLawful_43 : decode cX2_isLawful 43 = .ok (.ireturn, 1) := by decide +kernel
theorem dX2_isLawful_44 : decode cX2_isLawful 44 = .ok (.aload_n 0, 1) := by decide +kernel
theorem dX2_isLawful_45 : decode cX2_isLawful 45 = .ok (.invokevirtual 41, 3) := by decide +kernel
theorem dX2_isLawful_48 : decode cX2_isLawful 48 = .ok (.ifCond .eq 19, 3) := by decide +kernel
theorem dX2_isLawful_51 : decode cX2_isLawful 51 = .ok (.aload_n 0, 1) := by decide +kernel
theorem dX2_isLawful_52 : decode cX2_isLawful 52 = .ok (.getfield 28, 3) := by decide +kernel
theorem dX2_isLawful_55 : decode cX2_isLawful 55 = .ok (.iconst 1, 1) := by decide +kernel
theorem dX2_isLawful_56 : decode cX2_isLawful 56 = .ok (.if_icmp .lt 15, 3) := by decide +kernel
theorem dX2_isLawful_59 : decode cX2_isLawful 59 = .ok (.aload_n 0, 1) := by decide +kernel
theorem dX2_isLawful_60 : decode cX2_isLawful 60 = .ok (.getfield 28, 3) := by decide +kernel
theorem dX2_isLawful_63 : decode cX2_isLawful 63 = .ok (.iconst 3, 1) := by decide +kernel
theorem dX2_isLawful_64 : decode cX2_isLawful 64 = .ok (.if_icmp .gt 7, 3) := by decide +kernel
theorem dX2_isLawful_67 : decode cX2_isLawful 67 = .ok (.iconst 1, 1) := by decide +kernel
theorem dX2_isLawful_68 : decode cX2_isLawful 68 = .ok (.goto 4, 3) := by decide +kernel
theorem dX2_isLawful_71 : decode cX2_isLawful 71 = .ok (.iconst 0, 1) := by decide +kernel
theorem dX2_isLawful_72 : decode cX2_isLawful 72 = .ok (.ireturn, 1) := by decide +kernel
theorem dX2_takesImmediate_0 : decode cX2_takesImmediate 0 = .ok (.aload_n 0, 1) := by decide +kernel
theorem dX2_takesImmediate_1 : decode cX2_takesImmediate 1 = .ok (.getfield 9, 3) := by decide +kernel
theorem dX2_takesImmediate_4 : decode cX2_takesImmediate 4 = .ok (.tableswitch 86 1 17 #[84, 86, 84, 84, 84, 84, 84, 84, 84, 86, 86, 86, 86, 86, 84, 86, 84], 84) := by decide +kernel
theorem dX2_takesImmediate_88 : decode cX2_takesImmediate 88 = .ok (.iconst 1, 1) := by decide +kernel
theorem dX2_takesImmediate_89 : decode cX2_takesImmediate 89 = .ok (.ireturn, 1) := by decide +kernel
theorem dX2_takesImmediate_90 : decode cX2_takesImmediate 90 = .ok (.iconst 0, 1) := by decide +kernel
theorem dX2_takesImmediate_91 : decode cX2_takesImmediate 91 = .ok (.ireturn, 1) := by decide +kernel
theorem dX2_namesIndex_0 : decode cX2_namesIndex 0 = .ok (.aload_n 0, 1) := by decide +kernel
theorem dX2_namesIndex_1 : decode cX2_namesIndex 1 = .ok (.getfield 9, 3) := by decide +kernel
theorem dX2_namesIndex_4 : decode cX2_namesIndex 4 = .ok (.bipush 15, 2) := by decide +kernel
theorem dX2_namesIndex_6 : decode cX2_namesIndex 6 = .ok (.if_icmp .eq 21, 3) := by decide +kernel
theorem dX2_namesIndex_9 : decode cX2_namesIndex 9 = .ok (.aload_n 0, 1) := by decide +kernel
theorem dX2_namesIndex_10 : decode cX2_namesIndex 10 = .ok (.getfield 9, 3) := by decide +kernel
theorem dX2_namesIndex_13 : decode cX2_namesIndex 13 = .ok (.bipush 16, 2) := by decide +kernel
theorem dX2_namesIndex_15 : decode cX2_namesIndex 15 = .ok (.if_icmp .eq 12, 3) := by decide +kernel
theorem dX2_namesIndex_18 : decode cX2_namesIndex 18 = .ok (.aload_n 0, 1) := by decide +kernel
theorem dX2_namesIndex_19 : decode cX2_namesIndex 19 = .ok (.getfield 9, 3) := by decide +kernel
theorem dX2_namesIndex_22 : decode cX2_namesIndex 22 = .ok (.bipush 17, 2) := by decide +kernel
theorem dX2_namesIndex_24 : decode cX2_namesIndex 24 = .ok (.if_icmp .ne 7, 3) := by decide +kernel
theorem dX2_namesIndex_27 : decode cX2_namesIndex 27 = .ok (.iconst 1, 1) := by decide +kernel
theorem dX2_namesIndex_28 : decode cX2_namesIndex 28 = .ok (.goto 4, 3) := by decide +kernel
theorem dX2_namesIndex_31 : decode cX2_namesIndex 31 = .ok (.iconst 0, 1) := by decide +kernel
theorem dX2_namesIndex_32 : decode cX2_namesIndex 32 = .ok (.ireturn, 1) := by decide +kernel
theorem dX3_init_0 : decode cX3_init 0 = .ok (.aload_n 0, 1) := by decide +kernel
theorem dX3_init_1 : decode cX3_init 1 = .ok (.invokespecial 3, 3) := by decide +kernel
theorem dX3_init_4 : decode cX3_init 4 = .ok (.return_, 1) := by decide +kernel
theorem dX3_set_0 : decode cX3_set 0 = .ok (.aload_n 0, 1) := by decide +kernel
theorem dX3_set_1 : decode cX3_set 1 = .ok (.iload_n 1, 1) := by decide +kernel
theorem dX3_set_2 : decode cX3_set 2 = .ok (.putfield 9, 3) := by decide +kernel
theorem dX3_set_5 : decode cX3_set 5 = .ok (.aload_n 0, 1) := by decide +kernel
theorem dX3_set_6 : decode cX3_set 6 = .ok (.iload_n 2, 1) := by decide +kernel
theorem dX3_set_7 : decode cX3_set 7 = .ok (.putfield 15, 3) := by decide +kernel
theorem dX3_set_10 : decode cX3_set 10 = .ok (.aload_n 0, 1) := by decide +kernel
theorem dX3_set_11 : decode cX3_set 11 = .ok (.iload_n 3, 1) := by decide +kernel
theorem dX3_set_12 : decode cX3_set 12 = .ok (.putfield 18, 3) := by decide +kernel
theorem dX3_set_15 : decode cX3_set 15 = .ok (.return_, 1) := by decide +kernel
theorem dX3_copy_0 : decode cX3_copy 0 = .ok (.aload_n 0, 1) := by decide +kernel
theorem dX3_copy_1 : decode cX3_copy 1 = .ok (.aload_n 1, 1) := by decide +kernel
theorem dX3_copy_2 : decode cX3_copy 2 = .ok (.getfield 9, 3) := by decide +kernel
theorem dX3_copy_5 : decode cX3_copy 5 = .ok (.aload_n 1, 1) := by decide +kernel
theorem dX3_copy_6 : decode cX3_copy 6 = .ok (.getfield 15, 3) := by decide +kernel
theorem dX3_copy_9 : decode cX3_copy 9 = .ok (.aload_n 1, 1) := by decide +kernel
theorem dX3_copy_10 : decode cX3_copy 10 = .ok (.getfield 18, 3) := by decide +kernel
theorem dX3_copy_13 : decode cX3_copy 13 = .ok (.invokevirtual 21, 3) := by decide +kernel
theorem dX3_copy_16 : decode cX3_copy 16 = .ok (.return_, 1) := by decide +kernel
theorem dX3_unpack_0 : decode cX3_unpack 0 = .ok (.aload_n 0, 1) := by decide +kernel
theorem dX3_unpack_1 : decode cX3_unpack 1 = .ok (.iload_n 1, 1) := by decide +kernel
theorem dX3_unpack_2 : decode cX3_unpack 2 = .ok (.iload_n 2, 1) := by decide +kernel
theorem dX3_unpack_3 : decode cX3_unpack 3 = .ok (.bipush 16, 2) := by decide +kernel
theorem dX3_unpack_5 : decode cX3_unpack 5 = .ok (.iushr, 1) := by decide +kernel
theorem dX3_unpack_6 : decode cX3_unpack 6 = .ok (.sipush 4095, 3) := by decide +kernel
theorem dX3_unpack_9 : decode cX3_unpack 9 = .ok (.iand, 1) := by decide +kernel
theorem dX3_unpack_10 : decode cX3_unpack 10 = .ok (.iload_n 2, 1) := by decide +kernel
theorem dX3_unpack_11 : decode cX3_unpack 11 = .ok (.ldc 25, 2) := by decide +kernel
theorem dX3_unpack_13 : decode cX3_unpack 13 = .ok (.iand, 1) := by decide +kernel
theorem dX3_unpack_14 : decode cX3_unpack 14 = .ok (.invokevirtual 21, 3) := by decide +kernel
theorem dX3_unpack_17 : decode cX3_unpack 17 = .ok (.return_, 1) := by decide +kernel
theorem dX3_pack_0 : decode cX3_pack 0 = .ok (.aload_n 0, 1) := by decide +kernel
theorem dX3_pack_1 : decode cX3_pack 1 = .ok (.getfield 9, 3) := by decide +kernel
theorem dX3_pack_4 : decode cX3_pack 4 = .ok (.bipush 28, 2) := by decide +kernel
theorem dX3_pack_6 : decode cX3_pack 6 = .ok (.ishl, 1) := by decide +kernel
theorem dX3_pack_7 : decode cX3_pack 7 = .ok (.aload_n 0, 1) := by decide +kernel
theorem dX3_pack_8 : decode cX3_pack 8 = .ok (.getfield 15, 3) := by decide +kernel
theorem dX3_pack_11 : decode cX3_pack 11 = .ok (.bipush 16, 2) := by decide +kernel
theorem dX3_pack_13 : decode cX3_pack 13 = .ok (.ishl, 1) := by decide +kernel
theorem dX3_pack_14 : decode cX3_pack 14 = .ok (.ior, 1) := by decide +kernel
theorem dX3_pack_15 : decode cX3_pack 15 = .ok (.aload_n 0, 1) := by decide +kernel
theorem dX3_pack_16 : decode cX3_pack 16 = .ok (.getfield 18, 3) := by decide +kernel
theorem dX3_pack_19 : decode cX3_pack 19 = .ok (.ior, 1) := by decide +kernel
theorem dX3_pack_20 : decode cX3_pack 20 = .ok (.ireturn, 1) := by decide +kernel
theorem dX3_ringOf_0 : decode cX3_ringOf 0 = .ok (.iload_n 0, 1) := by decide +kernel
theorem dX3_ringOf_1 : decode cX3_ringOf 1 = .ok (.bipush 28, 2) := by decide +kernel
theorem dX3_ringOf_3 : decode cX3_ringOf 3 = .ok (.iushr, 1) := by decide +kernel
theorem dX3_ringOf_4 : decode cX3_ringOf 4 = .ok (.bipush 7, 2) := by decide +kernel
theorem dX3_ringOf_6 : decode cX3_ringOf 6 = .ok (.iand, 1) := by decide +kernel
theorem dX3_ringOf_7 : decode cX3_ringOf 7 = .ok (.ireturn, 1) := by decide +kernel
theorem dX4_init_0 : decode cX4_init 0 = .ok (.aload_n 0, 1) := by decide +kernel
theorem dX4_init_1 : decode cX4_init 1 = .ok (.invokespecial 3, 3) := by decide +kernel
theorem dX4_init_4 : decode cX4_init 4 = .ok (.aload_n 0, 1) := by decide +kernel
theorem dX4_init_5 : decode cX4_init 5 = .ok (.new 9, 3) := by decide +kernel
theorem dX4_init_8 : decode cX4_init 8 = .ok (.dup, 1) := by decide +kernel
theorem dX4_init_9 : decode cX4_init 9 = .ok (.invokespecial 11, 3) := by decide +kernel
theorem dX4_init_12 : decode cX4_init 12 = .ok (.putfield 12, 3) := by decide +kernel
theorem dX4_init_15 : decode cX4_init 15 = .ok (.aload_n 0, 1) := by decide +kernel
theorem dX4_init_16 : decode cX4_init 16 = .ok (.new 9, 3) := by decide +kernel
theorem dX4_init_19 : decode cX4_init 19 = .ok (.dup, 1) := by decide +kernel
theorem dX4_init_20 : decode cX4_init 20 = .ok (.invokespecial 11, 3) := by decide +kernel
theorem dX4_init_23 : decode cX4_init 23 = .ok (.putfield 18, 3) := by decide +kernel
theorem dX4_init_26 : decode cX4_init 26 = .ok (.aload_n 0, 1) := by decide +kernel
theorem dX4_init_27 : decode cX4_init 27 = .ok (.bipush 40, 2) := by decide +kernel
theorem dX4_init_29 : decode cX4_init 29 = .ok (.anewarray 21, 3) := by decide +kernel
theorem dX4_init_32 : decode cX4_init 32 = .ok (.putfield 23, 3) := by decide +kernel
theorem dX4_init_35 : decode cX4_init 35 = .ok (.aload_n 0, 1) := by decide +kernel
theorem dX4_init_36 : decode cX4_init 36 = .ok (.sipush 512, 3) := by decide +kernel
theorem dX4_init_39 : decode cX4_init 39 = .ok (.newarray .int, 2) := by decide +kernel
theorem dX4_init_41 : decode cX4_init 41 = .ok (.putfield 27, 3) := by decide +kernel
theorem dX4_init_44 : decode cX4_init 44 = .ok (.aload_n 0, 1) := by decide +kernel
theorem dX4_init_45 : decode cX4_init 45 = .ok (.sipush 512, 3) := by decide +kernel
theorem dX4_init_48 : decode cX4_init 48 = .ok (.newarray .int, 2) := by decide +kernel
theorem dX4_init_50 : decode cX4_init 50 = .ok (.putfield 31, 3) := by decide +kernel
theorem dX4_init_53 : decode cX4_init 53 = .ok (.aload_n 0, 1) := by decide +kernel
theorem dX4_init_54 : decode cX4_init 54 = .ok (.new 34, 3) := by decide +kernel
theorem dX4_init_57 : decode cX4_init 57 = .ok (.dup, 1) := by decide +kernel
theorem dX4_init_58 : decode cX4_init 58 = .ok (.invokespecial 36, 3) := by decide +kernel
theorem dX4_init_61 : decode cX4_init 61 = .ok (.putfield 37, 3) := by decide +kernel
theorem dX4_init_64 : decode cX4_init 64 = .ok (.aload_n 0, 1) := by decide +kernel
theorem dX4_init_65 : decode cX4_init 65 = .ok (.new 34, 3) := by decide +kernel
theorem dX4_init_68 : decode cX4_init 68 = .ok (.dup, 1) := by decide +kernel
theorem dX4_init_69 : decode cX4_init 69 = .ok (.invokespecial 36, 3) := by decide +kernel
theorem dX4_init_72 : decode cX4_init 72 = .ok (.putfield 41, 3) := by decide +kernel
theorem dX4_init_75 : decode cX4_init 75 = .ok (.aload_n 0, 1) := by decide +kernel
theorem dX4_init_76 : decode cX4_init 76 = .ok (.iload_n 1, 1) := by decide +kernel
theorem dX4_init_77 : decode cX4_init 77 = .ok (.putfield 44, 3) := by decide +kernel
theorem dX4_init_80 : decode cX4_init 80 = .ok (.new 48, 3) := by decide +kernel
theorem dX4_init_83 : decode cX4_init 83 = .ok (.dup, 1) := by decide +kernel
theorem dX4_init_84 : decode cX4_init 84 = .ok (.invokespecial 50, 3) := by decide +kernel
theorem dX4_init_87 : decode cX4_init 87 = .ok (.astore_n 2, 1) := by decide +kernel
theorem dX4_init_88 : decode cX4_init 88 = .ok (.iconst 0, 1) := by decide +kernel
theorem dX4_init_89 : decode cX4_init 89 = .ok (.istore_n 3, 1) := by decide +kernel
theorem dX4_init_90 : decode cX4_init 90 = .ok (.iload_n 3, 1) := by decide +kernel
theorem dX4_init_91 : decode cX4_init 91 = .ok (.bipush 8, 2) := by decide +kernel
theorem dX4_init_93 : decode cX4_init 93 = .ok (.if_icmp .ge 52, 3) := by decide +kernel
theorem dX4_init_96 : decode cX4_init 96 = .ok (.new 21, 3) := by decide +kernel
theorem dX4_init_99 : decode cX4_init 99 = .ok (.dup, 1) := by decide +kernel
theorem dX4_init_100 : decode cX4_init 100 = .ok (.bipush (-2), 2) := by decide +kernel
theorem dX4_init_102 : decode cX4_init 102 = .ok (.iconst 0, 1) := by decide +kernel
theorem dX4_init_103 : decode cX4_init 103 = .ok (.bipush 64, 2) := by decide +kernel
theorem dX4_init_105 : decode cX4_init 105 = .ok (.newarray .int, 2) := by decide +kernel
theorem dX4_init_107 : decode cX4_init 107 = .ok (.aload_n 2, 1) := by decide +kernel
theorem dX4_init_108 : decode cX4_init 108 = .ok (.invokespecial 51, 3) := by decide +kernel
theorem dX4_init_111 : decode cX4_init 111 = .ok (.astore 4, 2) := by decide +kernel
theorem dX4_init_113 : decode cX4_init 113 = .ok (.aload 4, 2) := by decide +kernel
theorem dX4_init_115 : decode cX4_init 115 = .ok (.iload_n 3, 1) := by decide +kernel
theorem dX4_init_116 : decode cX4_init 116 = .ok (.iload_n 3, 1) := by decide +kernel
theorem dX4_init_117 : decode cX4_init 117 = .ok (.iload_n 3, 1) := by decide +kernel
theorem dX4_init_118 : decode cX4_init 118 = .ok (.iconst 0, 1) := by decide +kernel
theorem dX4_init_119 : decode cX4_init 119 = .ok (.invokevirtual 54, 3) := by decide +kernel
theorem dX4_init_122 : decode cX4_init 122 = .ok (.pop, 1) := by decide +kernel
theorem dX4_init_123 : decode cX4_init 123 = .ok (.aload 4, 2) := by decide +kernel
theorem dX4_init_125 : decode cX4_init 125 = .ok (.iload_n 1, 1) := by decide +kernel
theorem dX4_init_126 : decode cX4_init 126 = .ok (.iconst 3, 1) := by decide +kernel
theorem dX4_init_127 : decode cX4_init 127 = .ok (.invokevirtual 58, 3) := by decide +kernel
theorem dX4_init_130 : decode cX4_init 130 = .ok (.pop, 1) := by decide +kernel
theorem dX4_init_131 : decode cX4_init 131 = .ok (.aload_n 0, 1) := by decide +kernel
theorem dX4_init_132 : decode cX4_init 132 = .ok (.getfield 23, 3) := by decide +kernel
theorem dX4_init_135 : decode cX4_init 135 = .ok (.iload_n 3, 1) := by decide +kernel
theorem dX4_init_136 : decode cX4_init 136 = .ok (.aload 4, 2) := by decide +kernel
theorem dX4_init_138 : decode cX4_init 138 = .ok (.aastore, 1) := by decide +kernel
theorem dX4_init_139 : decode cX4_init 139 = .ok (.iinc 3 1, 3) := by decide +kernel
theorem dX4_init_142 : decode cX4_init 142 = .ok (.goto (-52), 3) := by decide +kernel
theorem dX4_init_145 : decode cX4_init 145 = .ok (.return_, 1) := by decide +kernel
theorem dX4_begin_0 : decode cX4_begin 0 = .ok (.iconst 0, 1) := by decide +kernel
theorem dX4_begin_1 : decode cX4_begin 1 = .ok (.istore 4, 2) := by decide +kernel
theorem dX4_begin_3 : decode cX4_begin 3 = .ok (.iload 4, 2) := by decide +kernel
theorem dX4_begin_5 : decode cX4_begin 5 = .ok (.bipush 8, 2) := by decide +kernel
theorem dX4_begin_7 : decode cX4_begin 7 = .ok (.if_icmp .ge 23, 3) := by decide +kernel
theorem dX4_begin_10 : decode cX4_begin 10 = .ok (.aload_n 0, 1) := by decide +kernel
theorem dX4_begin_11 : decode cX4_begin 11 = .ok (.getfield 23, 3) := by decide +kernel
theorem dX4_begin_14 : decode cX4_begin 14 = .ok (.iload 4, 2) := by decide +kernel
theorem dX4_begin_16 : decode cX4_begin 16 = .ok (.aaload, 1) := by decide +kernel
theorem dX4_begin_17 : decode cX4_begin 17 = .ok (.getfield 62, 3) := by decide +kernel
theorem dX4_begin_20 : decode cX4_begin 20 = .ok (.iconst 0, 1) := by decide +kernel
theorem dX4_begin_21 : decode cX4_begin 21 = .ok (.invokestatic 65, 3) := by decide +kernel
theorem dX4_begin_24 : decode cX4_begin 24 = .ok (.iinc 4 1, 3) := by decide +kernel
theorem dX4_begin_27 : decode cX4_begin 27 = .ok (.goto (-24), 3) := by decide +kernel
theorem dX4_begin_30 : decode cX4_begin 30 = .ok (.aload_n 0, 1) := by decide +kernel
theorem dX4_begin_31 : decode cX4_begin 31 = .ok (.bipush 8, 2) := by decide +kernel
theorem dX4_begin_33 : decode cX4_begin 33 = .ok (.putfield 71, 3) := by decide +kernel
theorem dX4_begin_36 : decode cX4_begin 36 = .ok (.aload_n 0, 1) := by decide +kernel
theorem dX4_begin_37 : decode cX4_begin 37 = .ok (.getfield 27, 3) := by decide +kernel
theorem dX4_begin_40 : decode cX4_begin 40 = .ok (.iconst (-1), 1) := by decide +kernel
theorem dX4_begin_41 : decode cX4_begin 41 = .ok (.invokestatic 65, 3) := by decide +kernel
theorem dX4_begin_44 : decode cX4_begin 44 = .ok (.aload_n 0, 1) := by decide +kernel
theorem dX4_begin_45 : decode cX4_begin 45 = .ok (.getfield 12, 3) := by decide +kernel
theorem dX4_begin_48 : decode cX4_begin 48 = .ok (.iload_n 3, 1) := by decide +kernel
theorem dX4_begin_49 : decode cX4_begin 49 = .ok (.aload_n 0, 1) := by decide +kernel
theorem dX4_begin_50 : decode cX4_begin 50 = .ok (.aload_n 1, 1) := by decide +kernel
theorem dX4_begin_51 : decode cX4_begin 51 = .ok (.invokevirtual 74, 3) := by decide +kernel
theorem dX4_begin_54 : decode cX4_begin 54 = .ok (.iload_n 2, 1) := by decide +kernel
theorem dX4_begin_55 : decode cX4_begin 55 = .ok (.invokevirtual 78, 3) := by decide +kernel
theorem dX4_begin_58 : decode cX4_begin 58 = .ok (.aload_n 0, 1) := by decide +kernel
theorem dX4_begin_59 : decode cX4_begin 59 = .ok (.getfield 41, 3) := by decide +kernel
theorem dX4_begin_62 : decode cX4_begin 62 = .ok (.iconst 0, 1) := by decide +kernel
theorem dX4_begin_63 : decode cX4_begin 63 = .ok (.iconst 0, 1) := by decide +kernel
theorem dX4_begin_64 : decode cX4_begin 64 = .ok (.iconst 0, 1) := by decide +kernel
theorem dX4_begin_65 : decode cX4_begin 65 = .ok (.invokevirtual 82, 3) := by decide +kernel
theorem dX4_begin_68 : decode cX4_begin 68 = .ok (.aload_n 0, 1) := by decide +kernel
theorem dX4_begin_69 : decode cX4_begin 69 = .ok (.iconst 1, 1) := by decide +kernel
theorem dX4_begin_70 : decode cX4_begin 70 = .ok (.putfield 85, 3) := by decide +kernel
theorem dX4_begin_73 : decode cX4_begin 73 = .ok (.aload_n 0, 1) := by decide +kernel
theorem dX4_begin_74 : decode cX4_begin 74 = .ok (.iconst 0, 1) := by decide +kernel
theorem dX4_begin_75 : decode cX4_begin 75 = .ok (.putfield 88, 3) := by decide +kernel
theorem dX4_begin_78 : decode cX4_begin 78 = .ok (.aload_n 0, 1) := by decide +kernel
theorem dX4_begin_79 : decode cX4_begin 79 = .ok (.iconst 0, 1) := by decide +kernel
theorem dX4_begin_80 : decode cX4_begin 80 = .ok (.putfield 92, 3) := by decide +kernel
theorem dX4_begin_83 : decode cX4_begin 83 = .ok (.aload_n 0, 1) := by decide +kernel
theorem dX4_begin_84 : decode cX4_begin 84 = .ok (.iconst 0, 1) := by decide +kernel
theorem dX4_begin_85 : decode cX4_begin 85 = .ok (.putfield 95, 3) := by decide +kernel
theorem dX4_begin_88 : decode cX4_begin 88 = .ok (.aload_n 0, 1) := by decide +kernel
theorem dX4_begin_89 : decode cX4_begin 89 = .ok (.iconst 0, 1) := by decide +kernel
theorem dX4_begin_90 : decode cX4_begin 90 = .ok (.putfield 98, 3) := by decide +kernel
theorem dX4_begin_93 : decode cX4_begin 93 = .ok (.aload_n 0, 1) := by decide +kernel
theorem dX4_begin_94 : decode cX4_begin 94 = .ok (.iconst 0, 1) := by decide +kernel
theorem dX4_begin_95 : decode cX4_begin 95 = .ok (.putfield 101, 3) := by decide +kernel
theorem dX4_begin_98 : decode cX4_begin 98 = .ok (.aload_n 0, 1) := by decide +kernel
theorem dX4_begin_99 : decode cX4_begin 99 = .ok (.iconst 0, 1) := by decide +kernel
theorem dX4_begin_100 : decode cX4_begin 100 = .ok (.putfield 104, 3) := by decide +kernel
theorem dX4_begin_103 : decode cX4_begin 103 = .ok (.aload_n 0, 1) := by decide +kernel
theorem dX4_begin_104 : decode cX4_begin 104 = .ok (.iconst 0, 1) := by decide +kernel
theorem dX4_begin_105 : decode cX4_begin 105 = .ok (.putfield 107, 3) := by decide +kernel
theorem dX4_begin_108 : decode cX4_begin 108 = .ok (.return_, 1) := by decide +kernel
theorem dX4_learn_0 : decode cX4_learn 0 = .ok (.bipush 8, 2) := by decide +kernel
theorem dX4_learn_2 : decode cX4_learn 2 = .ok (.istore_n 2, 1) := by decide +kernel
theorem dX4_learn_3 : decode cX4_learn 3 = .ok (.iload_n 2, 1) := by decide +kernel
theorem dX4_learn_4 : decode cX4_learn 4 = .ok (.aload_n 0, 1) := by decide +kernel
theorem dX4_learn_5 : decode cX4_learn 5 = .ok (.getfield 71, 3) := by decide +kernel
theorem dX4_learn_8 : decode cX4_learn 8 = .ok (.if_icmp .ge 21, 3) := by decide +kernel
theorem dX4_learn_11 : decode cX4_learn 11 = .ok (.aload_n 0, 1) := by decide +kernel
theorem dX4_learn_12 : decode cX4_learn 12 = .ok (.getfield 23, 3) := by decide +kernel
theorem dX4_learn_15 : decode cX4_learn 15 = .ok (.iload_n 2, 1) := by decide +kernel
theorem dX4_learn_16 : decode cX4_learn 16 = .ok (.aaload, 1) := by decide +kernel
theorem dX4_learn_17 : decode cX4_learn 17 = .ok (.aload_n 1, 1) := by decide +kernel
theorem dX4_learn_18 : decode cX4_learn 18 = .ok (.if_acmp .ne 5, 3) := by decide +kernel
theorem dX4_learn_21 : decode cX4_learn 21 = .ok (.iload_n 2, 1) := by decide +kernel
theorem dX4_learn_22 : decode cX4_learn 22 = .ok (.ireturn, 1) := by decide +kernel
theorem dX4_learn_23 : decode cX4_learn 23 = .ok (.iinc 2 1, 3) := by decide +kernel
theorem dX4_learn_26 : decode cX4_learn 26 = .ok (.goto (-23), 3) := by decide +kernel
theorem dX4_learn_29 : decode cX4_learn 29 = .ok (.aload_n 0, 1) := by decide +kernel
theorem dX4_learn_30 : decode cX4_learn 30 = .ok (.getfield 71, 3) := by decide +kernel
theorem dX4_learn_33 : decode cX4_learn 33 = .ok (.aload_n 0, 1) := by decide +kernel
theorem dX4_learn_34 : decode cX4_learn 34 = .ok (.getfield 23, 3) := by decide +kernel
theorem dX4_learn_37 : decode cX4_learn 37 = .ok (.arraylength, 1) := by decide +kernel
theorem dX4_learn_38 : decode cX4_learn 38 = .ok (.if_icmp .lt 5, 3) := by decide +kernel
theorem dX4_learn_41 : decode cX4_learn 41 = .ok (.iconst (-1), 1) := by decide +kernel
theorem dX4_learn_42 : decode cX4_learn 42 = .ok (.ireturn, 1) := by decide +kernel
theorem dX4_learn_43 : decode cX4_learn 43 = .ok (.aload_n 0, 1) := by decide +kernel
theorem dX4_learn_44 : decode cX4_learn 44 = .ok (.getfield 23, 3) := by decide +kernel
theorem dX4_learn_47 : decode cX4_learn 47 = .ok (.aload_n 0, 1) := by decide +kernel
theorem dX4_learn_48 : decode cX4_learn 48 = .ok (.getfield 71, 3) := by decide +kernel
theorem dX4_learn_51 : decode cX4_learn 51 = .ok (.aload_n 1, 1) := by decide +kernel
theorem dX4_learn_52 : decode cX4_learn 52 = .ok (.aastore, 1) := by decide +kernel
theorem dX4_learn_53 : decode cX4_learn 53 = .ok (.aload_n 0, 1) := by decide +kernel
theorem dX4_learn_54 : decode cX4_learn 54 = .ok (.dup, 1) := by decide +kernel
theorem dX4_learn_55 : decode cX4_learn 55 = .ok (.getfield 71, 3) := by decide +kernel
theorem dX4_learn_58 : decode cX4_learn 58 = .ok (.iconst 1, 1) := by decide +kernel
theorem dX4_learn_59 : decode cX4_learn 59 = .ok (.iadd, 1) := by decide +kernel
theorem dX4_learn_60 : decode cX4_learn 60 = .ok (.putfield 71, 3) := by decide +kernel
theorem dX4_learn_63 : decode cX4_learn 63 = .ok (.aload_n 0, 1) := by decide +kernel
theorem dX4_learn_64 : decode cX4_learn 64 = .ok (.getfield 71, 3) := by decide +kernel
theorem dX4_learn_67 : decode cX4_learn 67 = .ok (.iconst 1, 1) := by decide +kernel
theorem dX4_learn_68 : decode cX4_learn 68 = .ok (.isub, 1) := by decide +kernel
theorem dX4_learn_69 : decode cX4_learn 69 = .ok (.ireturn, 1) := by decide +kernel
theorem dX4_segmentAt_0 : decode cX4_segmentAt 0 = .ok (.iload_n 1, 1) := by decide +kernel
theorem dX4_segmentAt_1 : decode cX4_segmentAt 1 = .ok (.aload_n 0, 1) := by decide +kernel
theorem dX4_segmentAt_2 : decode cX4_segmentAt 2 = .ok (.getfield 71, 3) := by decide +kernel
theorem dX4_segmentAt_5 : decode cX4_segmentAt 5 = .ok (.invokestatic 110, 3) := by decide +kernel
theorem dX4_segmentAt_8 : decode cX4_segmentAt 8 = .ok (.ifCond .eq 12, 3) := by decide +kernel
theorem dX4_segmentAt_11 : decode cX4_segmentAt 11 = .ok (.aload_n 0, 1) := by decide +kernel
theorem dX4_segmentAt_12 : decode cX4_segmentAt 12 = .ok (.getfield 23, 3) := by decide +kernel
theorem dX4_segmentAt_15 : decode cX4_segmentAt 15 = .ok (.iload_n 1, 1) := by decide +kernel
theorem dX4_segmentAt_16 : decode cX4_segmentAt 16 = .ok (.aaload, 1) := by decide +kernel
theorem dX4_segmentAt_17 : decode cX4_segmentAt 17 = .ok (.goto 4, 3) := by decide +kernel
theorem dX4_segmentAt_20 : decode cX4_segmentAt 20 = .ok (.aconst_null, 1) := by decide +kernel
theorem dX4_segmentAt_21 : decode cX4_segmentAt 21 = .ok (.areturn, 1) := by decide +kernel
theorem dX4_setHandler_0 : decode cX4_setHandler 0 = .ok (.aload_n 0, 1) := by decide +kernel
theorem dX4_setHandler_1 : decode cX4_setHandler 1 = .ok (.iconst 1, 1) := by decide +kernel
theorem dX4_setHandler_2 : decode cX4_setHandler 2 = .ok (.putfield 88, 3) := by decide +kernel
theorem dX4_setHandler_5 : decode cX4_setHandler 5 = .ok (.aload_n 0, 1) := by decide +kernel
theorem dX4_setHandler_6 : decode cX4_setHandler 6 = .ok (.getfield 37, 3) := by decide +kernel
theorem dX4_setHandler_9 : decode cX4_setHandler 9 = .ok (.iconst 0, 1) := by decide +kernel
theorem dX4_setHandler_10 : decode cX4_setHandler 10 = .ok (.aload_n 0, 1) := by decide +kernel
theorem dX4_setHandler_11 : decode cX4_setHandler 11 = .ok (.aload_n 1, 1) := by decide +kernel
theorem dX4_setHandler_12 : decode cX4_setHandler 12 = .ok (.invokevirtual 74, 3) := by decide +kernel
theorem dX4_setHandler_15 : decode cX4_setHandler 15 = .ok (.iload_n 2, 1) := by decide +kernel
theorem dX4_setHandler_16 : decode cX4_setHandler 16 = .ok (.invokevirtual 82, 3) := by decide +kernel
theorem dX4_setHandler_19 : decode cX4_setHandler 19 = .ok (.aload_n 0, 1) := by decide +kernel
theorem dX4_setHandler_20 : decode cX4_setHandler 20 = .ok (.getfield 37, 3) := by decide +kernel
theorem dX4_setHandler_23 : decode cX4_setHandler 23 = .ok (.getfield 113, 3) := by decide +kernel
theorem dX4_setHandler_26 : decode cX4_setHandler 26 = .ok (.ireturn, 1) := by decide +kernel
theorem dX4_takeFault_0 : decode cX4_takeFault 0 = .ok (.aload_n 0, 1) := by decide +kernel
theorem dX4_takeFault_1 : decode cX4_takeFault 1 = .ok (.dup, 1) := by decide +kernel
theorem dX4_takeFault_2 : decode cX4_takeFault 2 = .ok (.getfield 101, 3) := by decide +kernel
theorem dX4_takeFault_5 : decode cX4_takeFault 5 = .ok (.iconst 1, 1) := by decide +kernel
theorem dX4_takeFault_6 : decode cX4_takeFault 6 = .ok (.iadd, 1) := by decide +kernel
theorem dX4_takeFault_7 : decode cX4_takeFault 7 = .ok (.putfield 101, 3) := by decide +kernel
theorem dX4_takeFault_10 : decode cX4_takeFault 10 = .ok (.aload_n 0, 1) := by decide +kernel
theorem dX4_takeFault_11 : decode cX4_takeFault 11 = .ok (.iload_n 1, 1) := by decide +kernel
theorem dX4_takeFault_12 : decode cX4_takeFault 12 = .ok (.putfield 95, 3) := by decide +kernel
theorem dX4_takeFault_15 : decode cX4_takeFault 15 = .ok (.aload_n 0, 1) := by decide +kernel
theorem dX4_takeFault_16 : decode cX4_takeFault 16 = .ok (.getfield 41, 3) := by decide +kernel
theorem dX4_takeFault_19 : decode cX4_takeFault 19 = .ok (.aload_n 2, 1) := by decide +kernel
theorem dX4_takeFault_20 : decode cX4_takeFault 20 = .ok (.invokevirtual 116, 3) := by decide +kernel
theorem dX4_takeFault_23 : decode cX4_takeFault 23 = .ok (.aload_n 0, 1) := by decide +kernel
theorem dX4_takeFault_24 : decode cX4_takeFault 24 = .ok (.getfield 88, 3) := by decide +kernel
theorem dX4_takeFault_27 : decode cX4_takeFault 27 = .ok (.ifCond .ne 11, 3) := by decide +kernel
theorem dX4_takeFault_30 : decode cX4_takeFault 30 = .ok (.aload_n 0, 1) := by decide +kernel
theorem dX4_takeFault_31 : decode cX4_takeFault 31 = .ok (.iconst 3, 1) := by decide +kernel
theorem dX4_takeFault_32 : decode cX4_takeFault 32 = .ok (.putfield 85, 3) := by decide +kernel
theorem dX4_takeFault_35 : decode cX4_takeFault 35 = .ok (.goto 83, 3) := by decide +kernel
theorem dX4_takeFault_38 : decode cX4_takeFault 38 = .ok (.aload_n 0, 1) := by decide +kernel
theorem dX4_takeFault_39 : decode cX4_takeFault 39 = .ok (.getfield 92, 3) := by decide +kernel
theorem dX4_takeFault_42 : decode cX4_takeFault 42 = .ok (.ifCond .eq 11, 3) := by decide +kernel
theorem dX4_takeFault_45 : decode cX4_takeFault 45 = .ok (.aload_n 0, 1) := by decide +kernel
theorem dX4_takeFault_46 : decode cX4_takeFault 46 = .ok (.iconst 4, 1) := by decide +kernel
theorem dX4_takeFault_47 : decode cX4_takeFault 47 = .ok (.putfield 85, 3) := by decide +kernel
theorem dX4_takeFault_50 : decode cX4_takeFault 50 = .ok (.goto 68, 3) := by decide +kernel
theorem dX4_takeFault_53 : decode cX4_takeFault 53 = .ok (.aload_n 0, 1) := by decide +kernel
theorem dX4_takeFault_54 : decode cX4_takeFault 54 = .ok (.getfield 18, 3) := by decide +kernel
theorem dX4_takeFault_57 : decode cX4_takeFault 57 = .ok (.aload_n 0, 1) := by decide +kernel
theorem dX4_takeFault_58 : decode cX4_takeFault 58 = .ok (.getfield 12, 3) := by decide +kernel
theorem dX4_takeFault_61 : decode cX4_takeFault 61 = .ok (.invokevirtual 120, 3) := by decide +kernel
theorem dX4_takeFault_64 : decode cX4_takeFault 64 = .ok (.aload_n 0, 1) := by decide +kernel
theorem dX4_takeFault_65 : decode cX4_takeFault 65 = .ok (.iconst 1, 1) := by decide +kernel
theorem dX4_takeFault_66 : decode cX4_takeFault 66 = .ok (.putfield 92, 3) := by decide +kernel
theorem dX4_takeFault_69 : decode cX4_takeFault 69 = .ok (.aload_n 0, 1) := by decide +kernel
theorem dX4_takeFault_70 : decode cX4_takeFault 70 = .ok (.getfield 12, 3) := by decide +kernel
theorem dX4_takeFault_73 : decode cX4_takeFault 73 = .ok (.getfield 123, 3) := by decide +kernel
theorem dX4_takeFault_76 : decode cX4_takeFault 76 = .ok (.aload_n 0, 1) := by decide +kernel
theorem dX4_takeFault_77 : decode cX4_takeFault 77 = .ok (.getfield 37, 3) := by decide +kernel
theorem dX4_takeFault_80 : decode cX4_takeFault 80 = .ok (.invokevirtual 116, 3) := by decide +kernel
theorem dX4_takeFault_83 : decode cX4_takeFault 83 = .ok (.aload_n 0, 1) := by decide +kernel
theorem dX4_takeFault_84 : decode cX4_takeFault 84 = .ok (.getfield 12, 3) := by decide +kernel
theorem dX4_takeFault_87 : decode cX4_takeFault 87 = .ok (.iload_n 1, 1) := by decide +kernel
theorem dX4_takeFault_88 : decode cX4_takeFault 88 = .ok (.putfield 126, 3) := by decide +kernel
theorem dX4_takeFault_91 : decode cX4_takeFault 91 = .ok (.aload_n 0, 1) := by decide +kernel
theorem dX4_takeFault_92 : decode cX4_takeFault 92 = .ok (.getfield 12, 3) := by decide +kernel
theorem dX4_takeFault_95 : decode cX4_takeFault 95 = .ok (.getfield 129, 3) := by decide +kernel
theorem dX4_takeFault_98 : decode cX4_takeFault 98 = .ok (.iconst 1, 1) := by decide +kernel
theorem dX4_takeFault_99 : decode cX4_takeFault 99 = .ok (.aaload, 1) := by decide +kernel
theorem dX4_takeFault_100 : decode cX4_takeFault 100 = .ok (.aload_n 2, 1) := by decide +kernel
theorem dX4_takeFault_101 : decode cX4_takeFault 101 = .ok (.getfield 133, 3) := by decide +kernel
theorem dX4_takeFault_104 : decode cX4_takeFault 104 = .ok (.aload_n 2, 1) := by decide +kernel
theorem dX4_takeFault_105 : decode cX4_takeFault 105 = .ok (.getfield 113, 3) := by decide +kernel
theorem dX4_takeFault_108 : decode cX4_takeFault 108 = .ok (.aload_n 2, 1) := by decide +kernel
theorem dX4_takeFault_109 : decode cX4_takeFault 109 = .ok (.getfield 136, 3) := by decide +kernel
theorem dX4_takeFault_112 : decode cX4_takeFault 112 = .ok (.ldc 139, 2) := by decide +kernel
theorem dX4_takeFault_114 : decode cX4_takeFault 114 = .ok (.iand, 1) := by decide +kernel
theorem dX4_takeFault_115 : decode cX4_takeFault 115 = .ok (.invokevirtual 82, 3) := by decide +kernel
theorem dX4_takeFault_118 : decode cX4_takeFault 118 = .ok (.return_, 1) := by decide +kernel
theorem dX4_bringBack_0 : decode cX4_bringBack 0 = .ok (.aload_n 0, 1) := by decide +kernel
theorem dX4_bringBack_1 : decode cX4_bringBack 1 = .ok (.getfield 12, 3) := by decide +kernel
theorem dX4_bringBack_4 : decode cX4_bringBack 4 = .ok (.aload_n 0, 1) := by decide +kernel
theorem dX4_bringBack_5 : decode cX4_bringBack 5 = .ok (.getfield 18, 3) := by decide +kernel
theorem dX4_bringBack_8 : decode cX4_bringBack 8 = .ok (.invokevirtual 120, 3) := by decide +kernel
theorem dX4_bringBack_11 : decode cX4_bringBack 11 = .ok (.aload_n 0, 1) := by decide +kernel
theorem dX4_bringBack_12 : decode cX4_bringBack 12 = .ok (.iconst 0, 1) := by decide +kernel
theorem dX4_bringBack_13 : decode cX4_bringBack 13 = .ok (.putfield 92, 3) := by decide +kernel
theorem dX4_bringBack_16 : decode cX4_bringBack 16 = .ok (.return_, 1) := by decide +kernel
theorem dX4_report_0 : decode cX4_report 0 = .ok (.iload_n 1, 1) := by decide +kernel
theorem dX4_report_1 : decode cX4_report 1 = .ok (.tableswitch 224 0 18 #[91, 96, 107, 118, 129, 137, 137, 137, 149, 157, 162, 170, 178, 186, 191, 196, 209, 214, 219], 91) := by decide +kernel
theorem dX4_report_92 : decode cX4_report 92 = .ok (.aload_n 0, 1) := by decide +kernel
theorem dX4_report_93 : decode cX4_report 93 = .ok (.getfield 85, 3) := by decide +kernel
theorem dX4_report_96 : decode cX4_report 96 = .ok (.ireturn, 1) := by decide +kernel
theorem dX4_report_97 : decode cX4_report 97 = .ok (.aload_n 0, 1) := by decide +kernel
theorem dX4_report_98 : decode cX4_report 98 = .ok (.getfield 12, 3) := by decide +kernel
theorem dX4_report_101 : decode cX4_report 101 = .ok (.getfield 123, 3) := by decide +kernel
theorem dX4_report_104 : decode cX4_report 104 = .ok (.getfield 133, 3) := by decide +kernel
theorem dX4_report_107 : decode cX4_report 107 = .ok (.ireturn, 1) := by decide +kernel
theorem dX4_report_108 : decode cX4_report 108 = .ok (.aload_n 0, 1) := by decide +kernel
theorem dX4_report_109 : decode cX4_report 109 = .ok (.getfield 12, 3) := by decide +kernel
theorem dX4_report_112 : decode cX4_report 112 = .ok (.getfield 123, 3) := by decide +kernel
theorem dX4_report_115 : decode cX4_report 115 = .ok (.getfield 113, 3) := by decide +kernel
theorem dX4_report_118 : decode cX4_report 118 = .ok (.ireturn, 1) := by decide +kernel
theorem dX4_report_119 : decode cX4_report 119 = .ok (.aload_n 0, 1) := by decide +kernel
theorem dX4_report_120 : decode cX4_report 120 = .ok (.getfield 12, 3) := by decide +kernel
theorem dX4_report_123 : decode cX4_report 123 = .ok (.getfield 123, 3) := by decide +kernel
theorem dX4_report_126 : decode cX4_report 126 = .ok (.getfield 136, 3) := by decide +kernel
theorem dX4_report_129 : decode cX4_report 129 = .ok (.ireturn, 1) := by decide +kernel
theorem dX4_report_130 : decode cX4_report 130 = .ok (.aload_n 0, 1) := by decide +kernel
theorem dX4_report_131 : decode cX4_report 131 = .ok (.getfield 12, 3) := by decide +kernel
theorem dX4_report_134 : decode cX4_report 134 = .ok (.getfield 126, 3) := by decide +kernel
theorem dX4_report_137 : decode cX4_report 137 = .ok (.ireturn, 1) := by decide +kernel
theorem dX4_report_138 : decode cX4_report 138 = .ok (.aload_n 0, 1) := by decide +kernel
theorem dX4_report_139 : decode cX4_report 139 = .ok (.getfield 12, 3) := by decide +kernel
theorem dX4_report_142 : decode cX4_report 142 = .ok (.getfield 140, 3) := by decide +kernel
theorem dX4_report_145 : decode cX4_report 145 = .ok (.iload_n 1, 1) := by decide +kernel
theorem dX4_report_146 : decode cX4_report 146 = .ok (.iconst 4, 1) := by decide +kernel
theorem dX4_report_147 : decode cX4_report 147 = .ok (.isub, 1) := by decide +kernel
theorem dX4_report_148 : decode cX4_report 148 = .ok (.iaload, 1) := by decide +kernel
theorem dX4_report_149 : decode cX4_report 149 = .ok (.ireturn, 1) := by decide +kernel
theorem dX4_report_150 : decode cX4_report 150 = .ok (.aload_n 0, 1) := by decide +kernel
theorem dX4_report_151 : decode cX4_report 151 = .ok (.getfield 12, 3) := by decide +kernel
theorem dX4_report_154 : decode cX4_report 154 = .ok (.getfield 143, 3) := by decide +kernel
theorem dX4_report_157 : decode cX4_report 157 = .ok (.ireturn, 1) := by decide +kernel
theorem dX4_report_158 : decode cX4_report 158 = .ok (.aload_n 0, 1) := by decide +kernel
theorem dX4_report_159 : decode cX4_report 159 = .ok (.getfield 95, 3) := by decide +kernel
theorem dX4_report_162 : decode cX4_report 162 = .ok (.ireturn, 1) := by decide +kernel
theorem dX4_report_163 : decode cX4_report 163 = .ok (.aload_n 0, 1) := by decide +kernel
theorem dX4_report_164 : decode cX4_report 164 = .ok (.getfield 41, 3) := by decide +kernel
theorem dX4_report_167 : decode cX4_report 167 = .ok (.getfield 133, 3) := by decide +kernel
theorem dX4_report_170 : decode cX4_report 170 = .ok (.ireturn, 1) := by decide +kernel
theorem dX4_report_171 : decode cX4_report 171 = .ok (.aload_n 0, 1) := by decide +kernel
theorem dX4_report_172 : decode cX4_report 172 = .ok (.getfield 41, 3) := by decide +kernel
theorem dX4_report_175 : decode cX4_report 175 = .ok (.getfield 113, 3) := by decide +kernel
theorem dX4_report_178 : decode cX4_report 178 = .ok (.ireturn, 1) := by decide +kernel
theorem dX4_report_179 : decode cX4_report 179 = .ok (.aload_n 0, 1) := by decide +kernel
theorem dX4_report_180 : decode cX4_report 180 = .ok (.getfield 41, 3) := by decide +kernel
theorem dX4_report_183 : decode cX4_report 183 = .ok (.getfield 136, 3) := by decide +kernel
theorem dX4_report_186 : decode cX4_report 186 = .ok (.ireturn, 1) := by decide +kernel
theorem dX4_report_187 : decode cX4_report 187 = .ok (.aload_n 0, 1) := by decide +kernel
theorem dX4_report_188 : decode cX4_report 188 = .ok (.getfield 98, 3) := by decide +kernel
theorem dX4_report_191 : decode cX4_report 191 = .ok (.ireturn, 1) := by decide +kernel
theorem dX4_report_192 : decode cX4_report 192 = .ok (.aload_n 0, 1) := by decide +kernel
theorem dX4_report_193 : decode cX4_report 193 = .ok (.getfield 101, 3) := by decide +kernel
theorem dX4_report_196 : decode cX4_report 196 = .ok (.ireturn, 1) := by decide +kernel
theorem dX4_report_197 : decode cX4_report 197 = .ok (.aload_n 0, 1) := by decide +kernel
theorem dX4_report_198 : decode cX4_report 198 = .ok (.getfield 92, 3) := by decide +kernel
theorem dX4_report_201 : decode cX4_report 201 = .ok (.ifCond .eq 7, 3) := by decide +kernel
theorem dX4_report_204 : decode cX4_report 204 = .ok (.iconst 1, 1) := by decide +kernel
theorem dX4_report_205 : decode cX4_report 205 = .ok (.goto 4, 3) := by decide +kernel
theorem dX4_report_208 : decode cX4_report 208 = .ok (.iconst 0, 1) := by decide +kernel
theorem dX4_report_209 : decode cX4_report 209 = .ok (.ireturn, 1) := by decide +kernel
theorem dX4_report_210 : decode cX4_report 210 = .ok (.aload_n 0, 1) := by decide +kernel
theorem dX4_report_211 : decode cX4_report 211 = .ok (.getfield 71, 3) := by decide +kernel
theorem dX4_report_214 : decode cX4_report 214 = .ok (.ireturn, 1) := by decide +kernel
theorem dX4_report_215 : decode cX4_report 215 = .ok (.aload_n 0, 1) := by decide +kernel
theorem dX4_report_216 : decode cX4_report 216 = .ok (.getfield 104, 3) := by decide +kernel
theorem dX4_report_219 : decode cX4_report 219 = .ok (.ireturn, 1) := by decide +kernel
theorem dX4_report_220 : decode cX4_report 220 = .ok (.aload_n 0, 1) := by decide +kernel
theorem dX4_report_221 : decode cX4_report 221 = .ok (.getfield 107, 3) := by decide +kernel
theorem dX4_report_224 : decode cX4_report 224 = .ok (.ireturn, 1) := by decide +kernel
theorem dX4_report_225 : decode cX4_report 225 = .ok (.iconst 0, 1) := by decide +kernel
theorem dX4_report_226 : decode cX4_report 226 = .ok (.ireturn, 1) := by decide +kernel
theorem dX5_init_0 : decode cX5_init 0 = .ok (.aload_n 0, 1) := by decide +kernel
theorem dX5_init_1 : decode cX5_init 1 = .ok (.invokespecial 3, 3) := by decide +kernel
theorem dX5_init_4 : decode cX5_init 4 = .ok (.aload_n 0, 1) := by decide +kernel
theorem dX5_init_5 : decode cX5_init 5 = .ok (.new 9, 3) := by decide +kernel
theorem dX5_init_8 : decode cX5_init 8 = .ok (.dup, 1) := by decide +kernel
theorem dX5_init_9 : decode cX5_init 9 = .ok (.invokespecial 11, 3) := by decide +kernel
theorem dX5_init_12 : decode cX5_init 12 = .ok (.putfield 12, 3) := by decide +kernel
theorem dX5_init_15 : decode cX5_init 15 = .ok (.aload_n 0, 1) := by decide +kernel
theorem dX5_init_16 : decode cX5_init 16 = .ok (.new 18, 3) := by decide +kernel
theorem dX5_init_19 : decode cX5_init 19 = .ok (.dup, 1) := by decide +kernel
theorem dX5_init_20 : decode cX5_init 20 = .ok (.invokespecial 20, 3) := by decide +kernel
theorem dX5_init_23 : decode cX5_init 23 = .ok (.putfield 21, 3) := by decide +kernel
theorem dX5_init_26 : decode cX5_init 26 = .ok (.aload_n 0, 1) := by decide +kernel
theorem dX5_init_27 : decode cX5_init 27 = .ok (.new 18, 3) := by decide +kernel
theorem dX5_init_30 : decode cX5_init 30 = .ok (.dup, 1) := by decide +kernel
theorem dX5_init_31 : decode cX5_init 31 = .ok (.invokespecial 20, 3) := by decide +kernel
theorem dX5_init_34 : decode cX5_init 34 = .ok (.putfield 25, 3) := by decide +kernel
theorem dX5_init_37 : decode cX5_init 37 = .ok (.aload_n 0, 1) := by decide +kernel
theorem dX5_init_38 : decode cX5_init 38 = .ok (.aload_n 1, 1) := by decide +kernel
theorem dX5_init_39 : decode cX5_init 39 = .ok (.putfield 28, 3) := by decide +kernel
theorem dX5_init_42 : decode cX5_init 42 = .ok (.aload_n 0, 1) := by decide +kernel
theorem dX5_init_43 : decode cX5_init 43 = .ok (.aload_n 2, 1) := by decide +kernel
theorem dX5_init_44 : decode cX5_init 44 = .ok (.putfield 32, 3) := by decide +kernel
theorem dX5_init_47 : decode cX5_init 47 = .ok (.return_, 1) := by decide +kernel
theorem dX5_step_0 : decode cX5_step 0 = .ok (.aload_n 1, 1) := by decide +kernel
theorem dX5_step_1 : decode cX5_step 1 = .ok (.dup, 1) := by decide +kernel
theorem dX5_step_2 : decode cX5_step 2 = .ok (.getfield 36, 3) := by decide +kernel
theorem dX5_step_5 : decode cX5_step 5 = .ok (.iconst 1, 1) := by decide +kernel
theorem dX5_step_6 : decode cX5_step 6 = .ok (.iadd, 1) := by decide +kernel
theorem dX5_step_7 : decode cX5_step 7 = .ok (.putfield 36, 3) := by decide +kernel
theorem dX5_step_10 : decode cX5_step 10 = .ok (.aload_n 1, 1) := by decide +kernel
theorem dX5_step_11 : decode cX5_step 11 = .ok (.getfield 42, 3) := by decide +kernel
theorem dX5_step_14 : decode cX5_step 14 = .ok (.getfield 46, 3) := by decide +kernel
theorem dX5_step_17 : decode cX5_step 17 = .ok (.astore_n 2, 1) := by decide +kernel
theorem dX5_step_18 : decode cX5_step 18 = .ok (.aload_n 0, 1) := by decide +kernel
theorem dX5_step_19 : decode cX5_step 19 = .ok (.getfield 25, 3) := by decide +kernel
theorem dX5_step_22 : decode cX5_step 22 = .ok (.aload_n 2, 1) := by decide +kernel
theorem dX5_step_23 : decode cX5_step 23 = .ok (.getfield 51, 3) := by decide +kernel
theorem dX5_step_26 : decode cX5_step 26 = .ok (.aload_n 2, 1) := by decide +kernel
theorem dX5_step_27 : decode cX5_step 27 = .ok (.getfield 54, 3) := by decide +kernel
theorem dX5_step_30 : decode cX5_step 30 = .ok (.aload_n 2, 1) := by decide +kernel
theorem dX5_step_31 : decode cX5_step 31 = .ok (.getfield 57, 3) := by decide +kernel
theorem dX5_step_34 : decode cX5_step 34 = .ok (.iconst 1, 1) := by decide +kernel
theorem dX5_step_35 : decode cX5_step 35 = .ok (.iadd, 1) := by decide +kernel
theorem dX5_step_36 : decode cX5_step 36 = .ok (.invokevirtual 60, 3) := by decide +kernel
theorem dX5_step_39 : decode cX5_step 39 = .ok (.aload_n 0, 1) := by decide +kernel
theorem dX5_step_40 : decode cX5_step 40 = .ok (.aload_n 1, 1) := by decide +kernel
theorem dX5_step_41 : decode cX5_step 41 = .ok (.invokevirtual 64, 3) := by decide +kernel
theorem dX5_step_44 : decode cX5_step 44 = .ok (.istore_n 3, 1) := by decide +kernel
theorem dX5_step_45 : decode cX5_step 45 = .ok (.iload_n 3, 1) := by decide +kernel
theorem dX5_step_46 : decode cX5_step 46 = .ok (.ifCond .ne 19, 3) := by decide +kernel
theorem dX5_step_49 : decode cX5_step 49 = .ok (.aload_n 0, 1) := by decide +kernel
theorem dX5_step_50 : decode cX5_step 50 = .ok (.getfield 12, 3) := by decide +kernel
theorem dX5_step_53 : decode cX5_step 53 = .ok (.invokevirtual 68, 3) := by decide +kernel
theorem dX5_step_56 : decode cX5_step 56 = .ok (.ifCond .eq 9, 3) := by decide +kernel
theorem dX5_step_59 : decode cX5_step 59 = .ok (.aload_n 0, 1) := by decide +kernel
theorem dX5_step_60 : decode cX5_step 60 = .ok (.aload_n 1, 1) := by decide +kernel
theorem dX5_step_61 : decode cX5_step 61 = .ok (.invokevirtual 72, 3) := by decide +kernel
theorem dX5_step_64 : decode cX5_step 64 = .ok (.istore_n 3, 1) := by decide +kernel
theorem dX5_step_65 : decode cX5_step 65 = .ok (.iload_n 3, 1) := by decide +kernel
theorem dX5_step_66 : decode cX5_step 66 = .ok (.ifCond .ne 9, 3) := by decide +kernel
theorem dX5_step_69 : decode cX5_step 69 = .ok (.aload_n 0, 1) := by decide +kernel
theorem dX5_step_70 : decode cX5_step 70 = .ok (.aload_n 1, 1) := by decide +kernel
theorem dX5_step_71 : decode cX5_step 71 = .ok (.invokevirtual 75, 3) := by decide +kernel
theorem dX5_step_74 : decode cX5_step 74 = .ok (.istore_n 3, 1) := by decide +kernel
theorem dX5_step_75 : decode cX5_step 75 = .ok (.iload_n 3, 1) := by decide +kernel
theorem dX5_step_76 : decode cX5_step 76 = .ok (.ifCond .ne 14, 3) := by decide +kernel
theorem dX5_step_79 : decode cX5_step 79 = .ok (.aload_n 2, 1) := by decide +kernel
theorem dX5_step_80 : decode cX5_step 80 = .ok (.aload_n 0, 1) := by decide +kernel
theorem dX5_step_81 : decode cX5_step 81 = .ok (.getfield 25, 3) := by decide +kernel
theorem dX5_step_84 : decode cX5_step 84 = .ok (.invokevirtual 78, 3) := by decide +kernel
theorem dX5_step_87 : decode cX5_step 87 = .ok (.goto 12, 3) := by decide +kernel
theorem dX5_step_90 : decode cX5_step 90 = .ok (.aload_n 1, 1) := by decide +kernel
theorem dX5_step_91 : decode cX5_step 91 = .ok (.iload_n 3, 1) := by decide +kernel
theorem dX5_step_92 : decode cX5_step 92 = .ok (.aload_n 0, 1) := by decide +kernel
theorem dX5_step_93 : decode cX5_step 93 = .ok (.getfield 21, 3) := by decide +kernel
theorem dX5_step_96 : decode cX5_step 96 = .ok (.invokevirtual 82, 3) := by decide +kernel
theorem dX5_step_99 : decode cX5_step 99 = .ok (.return_, 1) := by decide +kernel
theorem dX5_fetch_0 : decode cX5_fetch 0 = .ok (.aload_n 0, 1) := by decide +kernel
theorem dX5_fetch_1 : decode cX5_fetch 1 = .ok (.getfield 21, 3) := by decide +kernel
theorem dX5_fetch_4 : decode cX5_fetch 4 = .ok (.aload_n 1, 1) := by decide +kernel
theorem dX5_fetch_5 : decode cX5_fetch 5 = .ok (.getfield 42, 3) := by decide +kernel
theorem dX5_fetch_8 : decode cX5_fetch 8 = .ok (.getfield 46, 3) := by decide +kernel
theorem dX5_fetch_11 : decode cX5_fetch 11 = .ok (.invokevirtual 78, 3) := by decide +kernel
theorem dX5_fetch_14 : decode cX5_fetch 14 = .ok (.aload_n 0, 1) := by decide +kernel
theorem dX5_fetch_15 : decode cX5_fetch 15 = .ok (.aload_n 1, 1) := by decide +kernel
theorem dX5_fetch_16 : decode cX5_fetch 16 = .ok (.iconst 2, 1) := by decide +kernel
theorem dX5_fetch_17 : decode cX5_fetch 17 = .ok (.invokevirtual 86, 3) := by decide +kernel
theorem dX5_fetch_20 : decode cX5_fetch 20 = .ok (.istore_n 2, 1) := by decide +kernel
theorem dX5_fetch_21 : decode cX5_fetch 21 = .ok (.iload_n 2, 1) := by decide +kernel
theorem dX5_fetch_22 : decode cX5_fetch 22 = .ok (.ifCond .eq 5, 3) := by decide +kernel
theorem dX5_fetch_25 : decode cX5_fetch 25 = .ok (.iload_n 2, 1) := by decide +kernel
theorem dX5_fetch_26 : decode cX5_fetch 26 = .ok (.ireturn, 1) := by decide +kernel
theorem dX5_fetch_27 : decode cX5_fetch 27 = .ok (.aload_n 0, 1) := by decide +kernel
theorem dX5_fetch_28 : decode cX5_fetch 28 = .ok (.getfield 12, 3) := by decide +kernel
theorem dX5_fetch_31 : decode cX5_fetch 31 = .ok (.aload_n 0, 1) := by decide +kernel
theorem dX5_fetch_32 : decode cX5_fetch 32 = .ok (.aload_n 1, 1) := by decide +kernel
theorem dX5_fetch_33 : decode cX5_fetch 33 = .ok (.invokevirtual 90, 3) := by decide +kernel
theorem dX5_fetch_36 : decode cX5_fetch 36 = .ok (.invokevirtual 93, 3) := by decide +kernel
theorem dX5_fetch_39 : decode cX5_fetch 39 = .ok (.aload_n 0, 1) := by decide +kernel
theorem dX5_fetch_40 : decode cX5_fetch 40 = .ok (.getfield 12, 3) := by decide +kernel
theorem dX5_fetch_43 : decode cX5_fetch 43 = .ok (.invokevirtual 97, 3) := by decide +kernel
theorem dX5_fetch_46 : decode cX5_fetch 46 = .ok (.ifCond .eq 7, 3) := by decide +kernel
theorem dX5_fetch_49 : decode cX5_fetch 49 = .ok (.iconst 0, 1) := by decide +kernel
theorem dX5_fetch_50 : decode cX5_fetch 50 = .ok (.goto 5, 3) := by decide +kernel
theorem dX5_fetch_53 : decode cX5_fetch 53 = .ok (.bipush 13, 2) := by decide +kernel
theorem dX5_fetch_55 : decode cX5_fetch 55 = .ok (.ireturn, 1) := by decide +kernel
theorem dX5_ask_0 : decode cX5_ask 0 = .ok (.aload_n 1, 1) := by decide +kernel
theorem dX5_ask_1 : decode cX5_ask 1 = .ok (.aload_n 0, 1) := by decide +kernel
theorem dX5_ask_2 : decode cX5_ask 2 = .ok (.getfield 21, 3) := by decide +kernel
theorem dX5_ask_5 : decode cX5_ask 5 = .ok (.getfield 54, 3) := by decide +kernel
theorem dX5_ask_8 : decode cX5_ask 8 = .ok (.invokevirtual 100, 3) := by decide +kernel
theorem dX5_ask_11 : decode cX5_ask 11 = .ok (.astore_n 3, 1) := by decide +kernel
theorem dX5_ask_12 : decode cX5_ask 12 = .ok (.aload_n 3, 1) := by decide +kernel
theorem dX5_ask_13 : decode cX5_ask 13 = .ok (.ifnonnull 5, 3) := by decide +kernel
theorem dX5_ask_16 : decode cX5_ask 16 = .ok (.iconst 1, 1) := by decide +kernel
theorem dX5_ask_17 : decode cX5_ask 17 = .ok (.ireturn, 1) := by decide +kernel
theorem dX5_ask_18 : decode cX5_ask 18 = .ok (.aload_n 3, 1) := by decide +kernel
theorem dX5_ask_19 : decode cX5_ask 19 = .ok (.aload_n 0, 1) := by decide +kernel
theorem dX5_ask_20 : decode cX5_ask 20 = .ok (.getfield 21, 3) := by decide +kernel
theorem dX5_ask_23 : decode cX5_ask 23 = .ok (.getfield 57, 3) := by decide +kernel
theorem dX5_ask_26 : decode cX5_ask 26 = .ok (.invokevirtual 104, 3) := by decide +kernel
theorem dX5_ask_29 : decode cX5_ask 29 = .ok (.ifCond .ne 5, 3) := by decide +kernel
theorem dX5_ask_32 : decode cX5_ask 32 = .ok (.iconst 2, 1) := by decide +kernel
theorem dX5_ask_33 : decode cX5_ask 33 = .ok (.ireturn, 1) := by decide +kernel
theorem dX5_ask_34 : decode cX5_ask 34 = .ok (.aload_n 3, 1) := by decide +kernel
theorem dX5_ask_35 : decode cX5_ask 35 = .ok (.aload_n 1, 1) := by decide +kernel
theorem dX5_ask_36 : decode cX5_ask 36 = .ok (.getfield 110, 3) := by decide +kernel
theorem dX5_ask_39 : decode cX5_ask 39 = .ok (.aload_n 0, 1) := by decide +kernel
theorem dX5_ask_40 : decode cX5_ask 40 = .ok (.getfield 21, 3) := by decide +kernel
theorem dX5_ask_43 : decode cX5_ask 43 = .ok (.getfield 51, 3) := by decide +kernel
theorem dX5_ask_46 : decode cX5_ask 46 = .ok (.iload_n 2, 1) := by decide +kernel
theorem dX5_ask_47 : decode cX5_ask 47 = .ok (.invokevirtual 113, 3) := by decide +kernel
theorem dX5_ask_50 : decode cX5_ask 50 = .ok (.ifCond .eq 5, 3) := by decide +kernel
theorem dX5_ask_53 : decode cX5_ask 53 = .ok (.iconst 0, 1) := by decide +kernel
theorem dX5_ask_54 : decode cX5_ask 54 = .ok (.ireturn, 1) := by decide +kernel
theorem dX5_ask_55 : decode cX5_ask 55 = .ok (.iload_n 2, 1) := by decide +kernel
theorem dX5_ask_56 : decode cX5_ask 56 = .ok (.lookupswitch 32 #[(0, 28), (1, 30)], 28) := by decide +kernel
theorem dX5_ask_84 : decode cX5_ask 84 = .ok (.iconst 3, 1) := by decide +kernel
theorem dX5_ask_85 : decode cX5_ask 85 = .ok (.ireturn, 1) := by decide +kernel
theorem dX5_ask_86 : decode cX5_ask 86 = .ok (.iconst 4, 1) := by decide +kernel
theorem dX5_ask_87 : decode cX5_ask 87 = .ok (.ireturn, 1) := by decide +kernel
theorem dX5_ask_88 : decode cX5_ask 88 = .ok (.iconst 5, 1) := by decide +kernel
theorem dX5_ask_89 : decode cX5_ask 89 = .ok (.ireturn, 1) := by decide +kernel
theorem dX5_wordAtAddress_0 : decode cX5_wordAtAddress 0 = .ok (.aload_n 1, 1) := by decide +kernel
theorem dX5_wordAtAddress_1 : decode cX5_wordAtAddress 1 = .ok (.aload_n 0, 1) := by decide +kernel
theorem dX5_wordAtAddress_2 : decode cX5_wordAtAddress 2 = .ok (.getfield 21, 3) := by decide +kernel
theorem dX5_wordAtAddress_5 : decode cX5_wordAtAddress 5 = .ok (.getfield 54, 3) := by decide +kernel
theorem dX5_wordAtAddress_8 : decode cX5_wordAtAddress 8 = .ok (.invokevirtual 100, 3) := by decide +kernel
theorem dX5_wordAtAddress_11 : decode cX5_wordAtAddress 11 = .ok (.astore_n 2, 1) := by decide +kernel
theorem dX5_wordAtAddress_12 : decode cX5_wordAtAddress 12 = .ok (.aload_n 2, 1) := by decide +kernel
theorem dX5_wordAtAddress_13 : decode cX5_wordAtAddress 13 = .ok (.ifnonnull 7, 3) := by decide +kernel
theorem dX5_wordAtAddress_16 : decode cX5_wordAtAddress 16 = .ok (.iconst 0, 1) := by decide +kernel
theorem dX5_wordAtAddress_17 : decode cX5_wordAtAddress 17 = .ok (.goto 14, 3) := by decide +kernel
theorem dX5_wordAtAddress_20 : decode cX5_wordAtAddress 20 = .ok (.aload_n 2, 1) := by decide +kernel
theorem dX5_wordAtAddress_21 : decode cX5_wordAtAddress 21 = .ok (.aload_n 0, 1) := by decide +kernel
theorem dX5_wordAtAddress_22 : decode cX5_wordAtAddress 22 = .ok (.getfield 21, 3) := by decide +kernel
theorem dX5_wordAtAddress_25 : decode cX5_wordAtAddress 25 = .ok (.getfield 57, 3) := by decide +kernel
theorem dX5_wordAtAddress_28 : decode cX5_wordAtAddress 28 = .ok (.invokevirtual 117, 3) := by decide +kernel
theorem dX5_wordAtAddress_31 : decode cX5_wordAtAddress 31 = .ok (.ireturn, 1) := by decide +kernel
theorem dX5_makeAddress_0 : decode cX5_makeAddress 0 = .ok (.aload_n 1, 1) := by decide +kernel
theorem dX5_makeAddress_1 : decode cX5_makeAddress 1 = .ok (.getfield 42, 3) := by decide +kernel
theorem dX5_makeAddress_4 : decode cX5_makeAddress 4 = .ok (.getfield 46, 3) := by decide +kernel
theorem dX5_makeAddress_7 : decode cX5_makeAddress 7 = .ok (.astore_n 2, 1) := by decide +kernel
theorem dX5_makeAddress_8 : decode cX5_makeAddress 8 = .ok (.aload_n 0, 1) := by decide +kernel
theorem dX5_makeAddress_9 : decode cX5_makeAddress 9 = .ok (.getfield 12, 3) := by decide +kernel
theorem dX5_makeAddress_12 : decode cX5_makeAddress 12 = .ok (.getfield 121, 3) := by decide +kernel
theorem dX5_makeAddress_15 : decode cX5_makeAddress 15 = .ok (.iconst 1, 1) := by decide +kernel
theorem dX5_makeAddress_16 : decode cX5_makeAddress 16 = .ok (.if_icmp .ne 56, 3) := by decide +kernel
theorem dX5_makeAddress_19 : decode cX5_makeAddress 19 = .ok (.aload_n 1, 1) := by decide +kernel
theorem dX5_makeAddress_20 : decode cX5_makeAddress 20 = .ok (.getfield 42, 3) := by decide +kernel
theorem dX5_makeAddress_23 : decode cX5_makeAddress 23 = .ok (.getfield 124, 3) := by decide +kernel
theorem dX5_makeAddress_26 : decode cX5_makeAddress 26 = .ok (.aload_n 0, 1) := by decide +kernel
theorem dX5_makeAddress_27 : decode cX5_makeAddress 27 = .ok (.getfield 12, 3) := by decide +kernel
theorem dX5_makeAddress_30 : decode cX5_makeAddress 30 = .ok (.getfield 128, 3) := by decide +kernel
theorem dX5_makeAddress_33 : decode cX5_makeAddress 33 = .ok (.aaload, 1) := by decide +kernel
theorem dX5_makeAddress_34 : decode cX5_makeAddress 34 = .ok (.astore_n 3, 1) := by decide +kernel
theorem dX5_makeAddress_35 : decode cX5_makeAddress 35 = .ok (.aload_n 0, 1) := by decide +kernel
theorem dX5_makeAddress_36 : decode cX5_makeAddress 36 = .ok (.getfield 21, 3) := by decide +kernel
theorem dX5_makeAddress_39 : decode cX5_makeAddress 39 = .ok (.aload_n 2, 1) := by decide +kernel
theorem dX5_makeAddress_40 : decode cX5_makeAddress 40 = .ok (.getfield 51, 3) := by decide +kernel
theorem dX5_makeAddress_43 : decode cX5_makeAddress 43 = .ok (.aload_n 3, 1) := by decide +kernel
theorem dX5_makeAddress_44 : decode cX5_makeAddress 44 = .ok (.getfield 51, 3) := by decide +kernel
theorem dX5_makeAddress_47 : decode cX5_makeAddress 47 = .ok (.invokestatic 131, 3) := by decide +kernel
theorem dX5_makeAddress_50 : decode cX5_makeAddress 50 = .ok (.aload_n 3, 1) := by decide +kernel
theorem dX5_makeAddress_51 : decode cX5_makeAddress 51 = .ok (.getfield 54, 3) := by decide +kernel
theorem dX5_makeAddress_54 : decode cX5_makeAddress 54 = .ok (.aload_n 3, 1) := by decide +kernel
theorem dX5_makeAddress_55 : decode cX5_makeAddress 55 = .ok (.getfield 57, 3) := by decide +kernel
theorem dX5_makeAddress_58 : decode cX5_makeAddress 58 = .ok (.aload_n 0, 1) := by decide +kernel
theorem dX5_makeAddress_59 : decode cX5_makeAddress 59 = .ok (.getfield 12, 3) := by decide +kernel
theorem dX5_makeAddress_62 : decode cX5_makeAddress 62 = .ok (.getfield 137, 3) := by decide +kernel
theorem dX5_makeAddress_65 : decode cX5_makeAddress 65 = .ok (.iadd, 1) := by decide +kernel
theorem dX5_makeAddress_66 : decode cX5_makeAddress 66 = .ok (.invokevirtual 60, 3) := by decide +kernel
theorem dX5_makeAddress_69 : decode cX5_makeAddress 69 = .ok (.goto 47, 3) := by decide +kernel
theorem dX5_makeAddress_72 : decode cX5_makeAddress 72 = .ok (.aload_n 0, 1) := by decide +kernel
theorem dX5_makeAddress_73 : decode cX5_makeAddress 73 = .ok (.getfield 21, 3) := by decide +kernel
theorem dX5_makeAddress_76 : decode cX5_makeAddress 76 = .ok (.aload_n 2, 1) := by decide +kernel
theorem dX5_makeAddress_77 : decode cX5_makeAddress 77 = .ok (.getfield 51, 3) := by decide +kernel
theorem dX5_makeAddress_80 : decode cX5_makeAddress 80 = .ok (.aload_n 2, 1) := by decide +kernel
theorem dX5_makeAddress_81 : decode cX5_makeAddress 81 = .ok (.getfield 54, 3) := by decide +kernel
theorem dX5_makeAddress_84 : decode cX5_makeAddress 84 = .ok (.aload_n 0, 1) := by decide +kernel
theorem dX5_makeAddress_85 : decode cX5_makeAddress 85 = .ok (.getfield 12, 3) := by decide +kernel
theorem dX5_makeAddress_88 : decode cX5_makeAddress 88 = .ok (.getfield 137, 3) := by decide +kernel
theorem dX5_makeAddress_91 : decode cX5_makeAddress 91 = .ok (.invokevirtual 60, 3) := by decide +kernel
theorem dX5_makeAddress_94 : decode cX5_makeAddress 94 = .ok (.aload_n 0, 1) := by decide +kernel
theorem dX5_makeAddress_95 : decode cX5_makeAddress 95 = .ok (.getfield 12, 3) := by decide +kernel
theorem dX5_makeAddress_98 : decode cX5_makeAddress 98 = .ok (.getfield 121, 3) := by decide +kernel
theorem dX5_makeAddress_101 : decode cX5_makeAddress 101 = .ok (.iconst 2, 1) := by decide +kernel
theorem dX5_makeAddress_102 : decode cX5_makeAddress 102 = .ok (.if_icmp .ne 14, 3) := by decide +kernel
theorem dX5_makeAddress_105 : decode cX5_makeAddress 105 = .ok (.aload_n 0, 1) := by decide +kernel
theorem dX5_makeAddress_106 : decode cX5_makeAddress 106 = .ok (.aload_n 1, 1) := by decide +kernel
theorem dX5_makeAddress_107 : decode cX5_makeAddress 107 = .ok (.invokevirtual 140, 3) := by decide +kernel
theorem dX5_makeAddress_110 : decode cX5_makeAddress 110 = .ok (.ifCond .ne 6, 3) := by decide +kernel
theorem dX5_makeAddress_113 : decode cX5_makeAddress 113 = .ok (.bipush 12, 2) := by decide +kernel
theorem dX5_makeAddress_115 : decode cX5_makeAddress 115 = .ok (.ireturn, 1) := by decide +kernel
theorem dX5_makeAddress_116 : decode cX5_makeAddress 116 = .ok (.aload_n 0, 1) := by decide +kernel
theorem dX5_makeAddress_117 : decode cX5_makeAddress 117 = .ok (.getfield 21, 3) := by decide +kernel
theorem dX5_makeAddress_120 : decode cX5_makeAddress 120 = .ok (.dup, 1) := by decide +kernel
theorem dX5_makeAddress_121 : decode cX5_makeAddress 121 = .ok (.getfield 57, 3) := by decide +kernel
theorem dX5_makeAddress_124 : decode cX5_makeAddress 124 = .ok (.aload_n 1, 1) := by decide +kernel
theorem dX5_makeAddress_125 : decode cX5_makeAddress 125 = .ok (.getfield 42, 3) := by decide +kernel
theorem dX5_makeAddress_128 : decode cX5_makeAddress 128 = .ok (.getfield 144, 3) := by decide +kernel
theorem dX5_makeAddress_131 : decode cX5_makeAddress 131 = .ok (.aload_n 0, 1) := by decide +kernel
theorem dX5_makeAddress_132 : decode cX5_makeAddress 132 = .ok (.getfield 12, 3) := by decide +kernel
theorem dX5_makeAddress_135 : decode cX5_makeAddress 135 = .ok (.getfield 148, 3) := by decide +kernel
theorem dX5_makeAddress_138 : decode cX5_makeAddress 138 = .ok (.iaload, 1) := by decide +kernel
theorem dX5_makeAddress_139 : decode cX5_makeAddress 139 = .ok (.iadd, 1) := by decide +kernel
theorem dX5_makeAddress_140 : decode cX5_makeAddress 140 = .ok (.putfield 57, 3) := by decide +kernel
theorem dX5_makeAddress_143 : decode cX5_makeAddress 143 = .ok (.aload_n 0, 1) := by decide +kernel
theorem dX5_makeAddress_144 : decode cX5_makeAddress 144 = .ok (.getfield 12, 3) := by decide +kernel
theorem dX5_makeAddress_147 : decode cX5_makeAddress 147 = .ok (.getfield 150, 3) := by decide +kernel
theorem dX5_makeAddress_150 : decode cX5_makeAddress 150 = .ok (.ifCond .eq 11, 3) := by decide +kernel
theorem dX5_makeAddress_153 : decode cX5_makeAddress 153 = .ok (.aload_n 0, 1) := by decide +kernel
theorem dX5_makeAddress_154 : decode cX5_makeAddress 154 = .ok (.aload_n 1, 1) := by decide +kernel
theorem dX5_makeAddress_155 : decode cX5_makeAddress 155 = .ok (.invokevirtual 154, 3) := by decide +kernel
theorem dX5_makeAddress_158 : decode cX5_makeAddress 158 = .ok (.goto 4, 3) := by decide +kernel
theorem dX5_makeAddress_161 : decode cX5_makeAddress 161 = .ok (.iconst 0, 1) := by decide +kernel
theorem dX5_makeAddress_162 : decode cX5_makeAddress 162 = .ok (.ireturn, 1) := by decide +kernel
theorem dX5_followLink_0 : decode cX5_followLink 0 = .ok (.aload_n 1, 1) := by decide +kernel
theorem dX5_followLink_1 : decode cX5_followLink 1 = .ok (.getfield 42, 3) := by decide +kernel
theorem dX5_followLink_4 : decode cX5_followLink 4 = .ok (.getfield 46, 3) := by decide +kernel
theorem dX5_followLink_7 : decode cX5_followLink 7 = .ok (.astore_n 2, 1) := by decide +kernel
theorem dX5_followLink_8 : decode cX5_followLink 8 = .ok (.aload_n 1, 1) := by decide +kernel
theorem dX5_followLink_9 : decode cX5_followLink 9 = .ok (.aload_n 2, 1) := by decide +kernel
theorem dX5_followLink_10 : decode cX5_followLink 10 = .ok (.getfield 54, 3) := by decide +kernel
theorem dX5_followLink_13 : decode cX5_followLink 13 = .ok (.invokevirtual 100, 3) := by decide +kernel
theorem dX5_followLink_16 : decode cX5_followLink 16 = .ok (.astore_n 3, 1) := by decide +kernel
theorem dX5_followLink_17 : decode cX5_followLink 17 = .ok (.aload_n 0, 1) := by decide +kernel
theorem dX5_followLink_18 : decode cX5_followLink 18 = .ok (.getfield 12, 3) := by decide +kernel
theorem dX5_followLink_21 : decode cX5_followLink 21 = .ok (.getfield 137, 3) := by decide +kernel
theorem dX5_followLink_24 : decode cX5_followLink 24 = .ok (.istore 4, 2) := by decide +kernel
theorem dX5_followLink_26 : decode cX5_followLink 26 = .ok (.aload_n 3, 1) := by decide +kernel
theorem dX5_followLink_27 : decode cX5_followLink 27 = .ok (.ifnull 15, 3) := by decide +kernel
theorem dX5_followLink_30 : decode cX5_followLink 30 = .ok (.aload_n 3, 1) := by decide +kernel
theorem dX5_followLink_31 : decode cX5_followLink 31 = .ok (.getfield 157, 3) := by decide +kernel
theorem dX5_followLink_34 : decode cX5_followLink 34 = .ok (.iload 4, 2) := by decide +kernel
theorem dX5_followLink_36 : decode cX5_followLink 36 = .ok (.invokevirtual 161, 3) := by decide +kernel
theorem dX5_followLink_39 : decode cX5_followLink 39 = .ok (.ifCond .ne 5, 3) := by decide +kernel
theorem dX5_followLink_42 : decode cX5_followLink 42 = .ok (.iconst 0, 1) := by decide +kernel
theorem dX5_followLink_43 : decode cX5_followLink 43 = .ok (.ireturn, 1) := by decide +kernel
theorem dX5_followLink_44 : decode cX5_followLink 44 = .ok (.aload_n 3, 1) := by decide +kernel
theorem dX5_followLink_45 : decode cX5_followLink 45 = .ok (.getfield 166, 3) := by decide +kernel
theorem dX5_followLink_48 : decode cX5_followLink 48 = .ok (.bipush 16, 2) := by decide +kernel
theorem dX5_followLink_50 : decode cX5_followLink 50 = .ok (.imul, 1) := by decide +kernel
theorem dX5_followLink_51 : decode cX5_followLink 51 = .ok (.iload 4, 2) := by decide +kernel
theorem dX5_followLink_53 : decode cX5_followLink 53 = .ok (.iadd, 1) := by decide +kernel
theorem dX5_followLink_54 : decode cX5_followLink 54 = .ok (.istore 5, 2) := by decide +kernel
theorem dX5_followLink_56 : decode cX5_followLink 56 = .ok (.aload_n 1, 1) := by decide +kernel
theorem dX5_followLink_57 : decode cX5_followLink 57 = .ok (.getfield 167, 3) := by decide +kernel
theorem dX5_followLink_60 : decode cX5_followLink 60 = .ok (.iload 5, 2) := by decide +kernel
theorem dX5_followLink_62 : decode cX5_followLink 62 = .ok (.iaload, 1) := by decide +kernel
theorem dX5_followLink_63 : decode cX5_followLink 63 = .ok (.iconst (-1), 1) := by decide +kernel
theorem dX5_followLink_64 : decode cX5_followLink 64 = .ok (.if_icmp .ne 21, 3) := by decide +kernel
theorem dX5_followLink_67 : decode cX5_followLink 67 = .ok (.aload_n 0, 1) := by decide +kernel
theorem dX5_followLink_68 : decode cX5_followLink 68 = .ok (.aload_n 1, 1) := by decide +kernel
theorem dX5_followLink_69 : decode cX5_followLink 69 = .ok (.aload_n 3, 1) := by decide +kernel
theorem dX5_followLink_70 : decode cX5_followLink 70 = .ok (.getfield 157, 3) := by decide +kernel
theorem dX5_followLink_73 : decode cX5_followLink 73 = .ok (.iload 4, 2) := by decide +kernel
theorem dX5_followLink_75 : decode cX5_followLink 75 = .ok (.iload 5, 2) := by decide +kernel
theorem dX5_followLink_77 : decode cX5_followLink 77 = .ok (.invokevirtual 170, 3) := by decide +kernel
theorem dX5_followLink_80 : decode cX5_followLink 80 = .ok (.ifCond .ne 5, 3) := by decide +kernel
theorem dX5_followLink_83 : decode cX5_followLink 83 = .ok (.iconst 0, 1) := by decide +kernel
theorem dX5_followLink_84 : decode cX5_followLink 84 = .ok (.ireturn, 1) := by decide +kernel
theorem dX5_followLink_85 : decode cX5_followLink 85 = .ok (.aload_n 0, 1) := by decide +kernel
theorem dX5_followLink_86 : decode cX5_followLink 86 = .ok (.getfield 21, 3) := by decide +kernel
theorem dX5_followLink_89 : decode cX5_followLink 89 = .ok (.aload_n 2, 1) := by decide +kernel
theorem dX5_followLink_90 : decode cX5_followLink 90 = .ok (.getfield 51, 3) := by decide +kernel
theorem dX5_followLink_93 : decode cX5_followLink 93 = .ok (.aload_n 1, 1) := by decide +kernel
theorem dX5_followLink_94 : decode cX5_followLink 94 = .ok (.getfield 167, 3) := by decide +kernel
theorem dX5_followLink_97 : decode cX5_followLink 97 = .ok (.iload 5, 2) := by decide +kernel
theorem dX5_followLink_99 : decode cX5_followLink 99 = .ok (.iaload, 1) := by decide +kernel
theorem dX5_followLink_100 : decode cX5_followLink 100 = .ok (.aload_n 1, 1) := by decide +kernel
theorem dX5_followLink_101 : decode cX5_followLink 101 = .ok (.getfield 174, 3) := by decide +kernel
theorem dX5_followLink_104 : decode cX5_followLink 104 = .ok (.iload 5, 2) := by decide +kernel
theorem dX5_followLink_106 : decode cX5_followLink 106 = .ok (.iaload, 1) := by decide +kernel
theorem dX5_followLink_107 : decode cX5_followLink 107 = .ok (.invokevirtual 60, 3) := by decide +kernel
theorem dX5_followLink_110 : decode cX5_followLink 110 = .ok (.iconst 1, 1) := by decide +kernel
theorem dX5_followLink_111 : decode cX5_followLink 111 = .ok (.ireturn, 1) := by decide +kernel
theorem dX5_makeLink_0 : decode cX5_makeLink 0 = .ok (.aload_n 0, 1) := by decide +kernel
theorem dX5_makeLink_1 : decode cX5_makeLink 1 = .ok (.getfield 28, 3) := by decide +kernel
theorem dX5_makeLink_4 : decode cX5_makeLink 4 = .ok (.aload_n 2, 1) := by decide +kernel
theorem dX5_makeLink_5 : decode cX5_makeLink 5 = .ok (.getfield 177, 3) := by decide +kernel
theorem dX5_makeLink_8 : decode cX5_makeLink 8 = .ok (.iload_n 3, 1) := by decide +kernel
theorem dX5_makeLink_9 : decode cX5_makeLink 9 = .ok (.iaload, 1) := by decide +kernel
theorem dX5_makeLink_10 : decode cX5_makeLink 10 = .ok (.invokevirtual 180, 3) := by decide +kernel
theorem dX5_makeLink_13 : decode cX5_makeLink 13 = .ok (.astore 5, 2) := by decide +kernel
theorem dX5_makeLink_15 : decode cX5_makeLink 15 = .ok (.aload 5, 2) := by decide +kernel
theorem dX5_makeLink_17 : decode cX5_makeLink 17 = .ok (.ifnull 17, 3) := by decide +kernel
theorem dX5_makeLink_20 : decode cX5_makeLink 20 = .ok (.aload 5, 2) := by decide +kernel
theorem dX5_makeLink_22 : decode cX5_makeLink 22 = .ok (.aload_n 1, 1) := by decide +kernel
theorem dX5_makeLink_23 : decode cX5_makeLink 23 = .ok (.getfield 110, 3) := by decide +kernel
theorem dX5_makeLink_26 : decode cX5_makeLink 26 = .ok (.bipush 7, 2) := by decide +kernel
theorem dX5_makeLink_28 : decode cX5_makeLink 28 = .ok (.invokevirtual 185, 3) := by decide +kernel
theorem dX5_makeLink_31 : decode cX5_makeLink 31 = .ok (.ifCond .ne 5, 3) := by decide +kernel
theorem dX5_makeLink_34 : decode cX5_makeLink 34 = .ok (.iconst 0, 1) := by decide +kernel
theorem dX5_makeLink_35 : decode cX5_makeLink 35 = .ok (.ireturn, 1) := by decide +kernel
theorem dX5_makeLink_36 : decode cX5_makeLink 36 = .ok (.aload 5, 2) := by decide +kernel
theorem dX5_makeLink_38 : decode cX5_makeLink 38 = .ok (.getfield 157, 3) := by decide +kernel
theorem dX5_makeLink_41 : decode cX5_makeLink 41 = .ok (.aload_n 2, 1) := by decide +kernel
theorem dX5_makeLink_42 : decode cX5_makeLink 42 = .ok (.getfield 189, 3) := by decide +kernel
theorem dX5_makeLink_45 : decode cX5_makeLink 45 = .ok (.iload_n 3, 1) := by decide +kernel
theorem dX5_makeLink_46 : decode cX5_makeLink 46 = .ok (.iaload, 1) := by decide +kernel
theorem dX5_makeLink_47 : decode cX5_makeLink 47 = .ok (.invokevirtual 192, 3) := by decide +kernel
theorem dX5_makeLink_50 : decode cX5_makeLink 50 = .ok (.istore 6, 2) := by decide +kernel
theorem dX5_makeLink_52 : decode cX5_makeLink 52 = .ok (.iload 6, 2) := by decide +kernel
theorem dX5_makeLink_54 : decode cX5_makeLink 54 = .ok (.iconst (-1), 1) := by decide +kernel
theorem dX5_makeLink_55 : decode cX5_makeLink 55 = .ok (.if_icmp .ne 5, 3) := by decide +kernel
theorem dX5_makeLink_58 : decode cX5_makeLink 58 = .ok (.iconst 0, 1) := by decide +kernel
theorem dX5_makeLink_59 : decode cX5_makeLink 59 = .ok (.ireturn, 1) := by decide +kernel
theorem dX5_makeLink_60 : decode cX5_makeLink 60 = .ok (.aload_n 1, 1) := by decide +kernel
theorem dX5_makeLink_61 : decode cX5_makeLink 61 = .ok (.getfield 167, 3) := by decide +kernel
theorem dX5_makeLink_64 : decode cX5_makeLink 64 = .ok (.iload 4, 2) := by decide +kernel
theorem dX5_makeLink_66 : decode cX5_makeLink 66 = .ok (.aload_n 1, 1) := by decide +kernel
theorem dX5_makeLink_67 : decode cX5_makeLink 67 = .ok (.aload 5, 2) := by decide +kernel
theorem dX5_makeLink_69 : decode cX5_makeLink 69 = .ok (.invokevirtual 195, 3) := by decide +kernel
theorem dX5_makeLink_72 : decode cX5_makeLink 72 = .ok (.iastore, 1) := by decide +kernel
theorem dX5_makeLink_73 : decode cX5_makeLink 73 = .ok (.aload_n 1, 1) := by decide +kernel
theorem dX5_makeLink_74 : decode cX5_makeLink 74 = .ok (.getfield 174, 3) := by decide +kernel
theorem dX5_makeLink_77 : decode cX5_makeLink 77 = .ok (.iload 4, 2) := by decide +kernel
theorem dX5_makeLink_79 : decode cX5_makeLink 79 = .ok (.iload 6, 2) := by decide +kernel
theorem dX5_makeLink_81 : decode cX5_makeLink 81 = .ok (.iastore, 1) := by decide +kernel
theorem dX5_makeLink_82 : decode cX5_makeLink 82 = .ok (.iconst 1, 1) := by decide +kernel
theorem dX5_makeLink_83 : decode cX5_makeLink 83 = .ok (.ireturn, 1) := by decide +kernel
theorem dX5_followPointerWords_0 : decode cX5_followPointerWords 0 = .ok (.iconst 0, 1) := by decide +kernel
theorem dX5_followPointerWords_1 : decode cX5_followPointerWords 1 = .ok (.istore_n 2, 1) := by decide +kernel
theorem dX5_followPointerWords_2 : decode cX5_followPointerWords 2 = .ok (.iload_n 2, 1) := by decide +kernel
theorem dX5_followPointerWords_3 : decode cX5_followPointerWords 3 = .ok (.bipush 8, 2) := by decide +kernel
theorem dX5_followPointerWords_5 : decode cX5_followPointerWords 5 = .ok (.if_icmp .ge 98, 3) := by decide +kernel
theorem dX5_followPointerWords_8 : decode cX5_followPointerWords 8 = .ok (.aload_n 0, 1) := by decide +kernel
theorem dX5_followPointerWords_9 : decode cX5_followPointerWords 9 = .ok (.aload_n 1, 1) := by decide +kernel
theorem dX5_followPointerWords_10 : decode cX5_followPointerWords 10 = .ok (.iconst 0, 1) := by decide +kernel
theorem dX5_followPointerWords_11 : decode cX5_followPointerWords 11 = .ok (.invokevirtual 86, 3) := by decide +kernel
theorem dX5_followPointerWords_14 : decode cX5_followPointerWords 14 = .ok (.istore_n 3, 1) := by decide +kernel
theorem dX5_followPointerWords_15 : decode cX5_followPointerWords 15 = .ok (.iload_n 3, 1) := by decide +kernel
theorem dX5_followPointerWords_16 : decode cX5_followPointerWords 16 = .ok (.ifCond .eq 5, 3) := by decide +kernel
theorem dX5_followPointerWords_19 : decode cX5_followPointerWords 19 = .ok (.iload_n 3, 1) := by decide +kernel
theorem dX5_followPointerWords_20 : decode cX5_followPointerWords 20 = .ok (.ireturn, 1) := by decide +kernel
theorem dX5_followPointerWords_21 : decode cX5_followPointerWords 21 = .ok (.aload_n 1, 1) := by decide +kernel
theorem dX5_followPointerWords_22 : decode cX5_followPointerWords 22 = .ok (.aload_n 0, 1) := by decide +kernel
theorem dX5_followPointerWords_23 : decode cX5_followPointerWords 23 = .ok (.getfield 21, 3) := by decide +kernel
theorem dX5_followPointerWords_26 : decode cX5_followPointerWords 26 = .ok (.getfield 54, 3) := by decide +kernel
theorem dX5_followPointerWords_29 : decode cX5_followPointerWords 29 = .ok (.invokevirtual 100, 3) := by decide +kernel
theorem dX5_followPointerWords_32 : decode cX5_followPointerWords 32 = .ok (.astore 4, 2) := by decide +kernel
theorem dX5_followPointerWords_34 : decode cX5_followPointerWords 34 = .ok (.aload 4, 2) := by decide +kernel
theorem dX5_followPointerWords_36 : decode cX5_followPointerWords 36 = .ok (.ifnonnull 7, 3) := by decide +kernel
theorem dX5_followPointerWords_39 : decode cX5_followPointerWords 39 = .ok (.iconst 0, 1) := by decide +kernel
theorem dX5_followPointerWords_40 : decode cX5_followPointerWords 40 = .ok (.goto 8, 3) := by decide +kernel
theorem dX5_followPointerWords_43 : decode cX5_followPointerWords 43 = .ok (.aload 4, 2) := by decide +kernel
theorem dX5_followPointerWords_45 : decode cX5_followPointerWords 45 = .ok (.getfield 199, 3) := by decide +kernel
theorem dX5_followPointerWords_48 : decode cX5_followPointerWords 48 = .ok (.istore 5, 2) := by decide +kernel
theorem dX5_followPointerWords_50 : decode cX5_followPointerWords 50 = .ok (.aload_n 0, 1) := by decide +kernel
theorem dX5_followPointerWords_51 : decode cX5_followPointerWords 51 = .ok (.aload_n 1, 1) := by decide +kernel
theorem dX5_followPointerWords_52 : decode cX5_followPointerWords 52 = .ok (.invokevirtual 90, 3) := by decide +kernel
theorem dX5_followPointerWords_55 : decode cX5_followPointerWords 55 = .ok (.istore 6, 2) := by decide +kernel
theorem dX5_followPointerWords_57 : decode cX5_followPointerWords 57 = .ok (.aload_n 0, 1) := by decide +kernel
theorem dX5_followPointerWords_58 : decode cX5_followPointerWords 58 = .ok (.getfield 21, 3) := by decide +kernel
theorem dX5_followPointerWords_61 : decode cX5_followPointerWords 61 = .ok (.getfield 51, 3) := by decide +kernel
theorem dX5_followPointerWords_64 : decode cX5_followPointerWords 64 = .ok (.iload 6, 2) := by decide +kernel
theorem dX5_followPointerWords_66 : decode cX5_followPointerWords 66 = .ok (.invokestatic 202, 3) := by decide +kernel
theorem dX5_followPointerWords_69 : decode cX5_followPointerWords 69 = .ok (.iload 5, 2) := by decide +kernel
theorem dX5_followPointerWords_71 : decode cX5_followPointerWords 71 = .ok (.invokestatic 131, 3) := by decide +kernel
theorem dX5_followPointerWords_74 : decode cX5_followPointerWords 74 = .ok (.invokestatic 131, 3) := by decide +kernel
theorem dX5_followPointerWords_77 : decode cX5_followPointerWords 77 = .ok (.istore 7, 2) := by decide +kernel
theorem dX5_followPointerWords_79 : decode cX5_followPointerWords 79 = .ok (.aload_n 0, 1) := by decide +kernel
theorem dX5_followPointerWords_80 : decode cX5_followPointerWords 80 = .ok (.getfield 21, 3) := by decide +kernel
theorem dX5_followPointerWords_83 : decode cX5_followPointerWords 83 = .ok (.iload 7, 2) := by decide +kernel
theorem dX5_followPointerWords_85 : decode cX5_followPointerWords 85 = .ok (.iload 6, 2) := by decide +kernel
theorem dX5_followPointerWords_87 : decode cX5_followPointerWords 87 = .ok (.invokevirtual 205, 3) := by decide +kernel
theorem dX5_followPointerWords_90 : decode cX5_followPointerWords 90 = .ok (.iload 6, 2) := by decide +kernel
theorem dX5_followPointerWords_92 : decode cX5_followPointerWords 92 = .ok (.ifCond .lt 5, 3) := by decide +kernel
theorem dX5_followPointerWords_95 : decode cX5_followPointerWords 95 = .ok (.iconst 0, 1) := by decide +kernel
theorem dX5_followPointerWords_96 : decode cX5_followPointerWords 96 = .ok (.ireturn, 1) := by decide +kernel
theorem dX5_followPointerWords_97 : decode cX5_followPointerWords 97 = .ok (.iinc 2 1, 3) := by decide +kernel
theorem dX5_followPointerWords_100 : decode cX5_followPointerWords 100 = .ok (.goto (-98), 3) := by decide +kernel
theorem dX5_followPointerWords_103 : decode cX5_followPointerWords 103 = .ok (.bipush 11, 2) := by decide +kernel
theorem dX5_followPointerWords_105 : decode cX5_followPointerWords 105 = .ok (.ireturn, 1) := by decide +kernel
theorem dX5_obey_0 : decode cX5_obey 0 = .ok (.aload_n 0, 1) := by decide +kernel
theorem dX5_obey_1 : decode cX5_obey 1 = .ok (.getfield 12, 3) := by decide +kernel
theorem dX5_obey_4 : decode cX5_obey 4 = .ok (.getfield 209, 3) := by decide +kernel
theorem dX5_obey_7 : decode cX5_obey 7 = .ok (.tableswitch 273 0 25 #[117, 273, 123, 273, 273, 273, 273, 273, 273, 273, 181, 181, 181, 181, 181, 273, 136, 205, 229, 157, 235, 241, 247, 254, 261, 267], 117) := by decide +kernel
theorem dX5_obey_124 : decode cX5_obey 124 = .ok (.aload_n 0, 1) := by decide +kernel
theorem dX5_obey_125 : decode cX5_obey 125 = .ok (.aload_n 1, 1) := by decide +kernel
theorem dX5_obey_126 : decode cX5_obey 126 = .ok (.invokevirtual 212, 3) := by decide +kernel
theorem dX5_obey_129 : decode cX5_obey 129 = .ok (.ireturn, 1) := by decide +kernel
theorem dX5_obey_130 : decode cX5_obey 130 = .ok (.aload_n 0, 1) := by decide +kernel
theorem dX5_obey_131 : decode cX5_obey 131 = .ok (.aload_n 1, 1) := by decide +kernel
theorem dX5_obey_132 : decode cX5_obey 132 = .ok (.aload_n 1, 1) := by decide +kernel
theorem dX5_obey_133 : decode cX5_obey 133 = .ok (.getfield 42, 3) := by decide +kernel
theorem dX5_obey_136 : decode cX5_obey 136 = .ok (.getfield 215, 3) := by decide +kernel
theorem dX5_obey_139 : decode cX5_obey 139 = .ok (.invokevirtual 218, 3) := by decide +kernel
theorem dX5_obey_142 : decode cX5_obey 142 = .ok (.ireturn, 1) := by decide +kernel
theorem dX5_obey_143 : decode cX5_obey 143 = .ok (.aload_n 0, 1) := by decide +kernel
theorem dX5_obey_144 : decode cX5_obey 144 = .ok (.aload_n 1, 1) := by decide +kernel
theorem dX5_obey_145 : decode cX5_obey 145 = .ok (.aload_n 1, 1) := by decide +kernel
theorem dX5_obey_146 : decode cX5_obey 146 = .ok (.getfield 42, 3) := by decide +kernel
theorem dX5_obey_149 : decode cX5_obey 149 = .ok (.getfield 144, 3) := by decide +kernel
theorem dX5_obey_152 : decode cX5_obey 152 = .ok (.aload_n 0, 1) := by decide +kernel
theorem dX5_obey_153 : decode cX5_obey 153 = .ok (.getfield 12, 3) := by decide +kernel
theorem dX5_obey_156 : decode cX5_obey 156 = .ok (.getfield 221, 3) := by decide +kernel
theorem dX5_obey_159 : decode cX5_obey 159 = .ok (.iaload, 1) := by decide +kernel
theorem dX5_obey_160 : decode cX5_obey 160 = .ok (.invokevirtual 218, 3) := by decide +kernel
theorem dX5_obey_163 : decode cX5_obey 163 = .ok (.ireturn, 1) := by decide +kernel
theorem dX5_obey_164 : decode cX5_obey 164 = .ok (.aload_n 0, 1) := by decide +kernel
theorem dX5_obey_165 : decode cX5_obey 165 = .ok (.aload_n 1, 1) := by decide +kernel
theorem dX5_obey_166 : decode cX5_obey 166 = .ok (.aload_n 1, 1) := by decide +kernel
theorem dX5_obey_167 : decode cX5_obey 167 = .ok (.getfield 42, 3) := by decide +kernel
theorem dX5_obey_170 : decode cX5_obey 170 = .ok (.getfield 124, 3) := by decide +kernel
theorem dX5_obey_173 : decode cX5_obey 173 = .ok (.aload_n 0, 1) := by decide +kernel
theorem dX5_obey_174 : decode cX5_obey 174 = .ok (.getfield 12, 3) := by decide +kernel
theorem dX5_obey_177 : decode cX5_obey 177 = .ok (.getfield 221, 3) := by decide +kernel
theorem dX5_obey_180 : decode cX5_obey 180 = .ok (.aaload, 1) := by decide +kernel
theorem dX5_obey_181 : decode cX5_obey 181 = .ok (.invokevirtual 224, 3) := by decide +kernel
theorem dX5_obey_184 : decode cX5_obey 184 = .ok (.invokevirtual 218, 3) := by decide +kernel
theorem dX5_obey_187 : decode cX5_obey 187 = .ok (.ireturn, 1) := by decide +kernel
theorem dX5_obey_188 : decode cX5_obey 188 = .ok (.aload_n 0, 1) := by decide +kernel
theorem dX5_obey_189 : decode cX5_obey 189 = .ok (.aload_n 1, 1) := by decide +kernel
theorem dX5_obey_190 : decode cX5_obey 190 = .ok (.getfield 42, 3) := by decide +kernel
theorem dX5_obey_193 : decode cX5_obey 193 = .ok (.getfield 228, 3) := by decide +kernel
theorem dX5_obey_196 : decode cX5_obey 196 = .ok (.invokevirtual 231, 3) := by decide +kernel
theorem dX5_obey_199 : decode cX5_obey 199 = .ok (.ifCond .eq 11, 3) := by decide +kernel
theorem dX5_obey_202 : decode cX5_obey 202 = .ok (.aload_n 0, 1) := by decide +kernel
theorem dX5_obey_203 : decode cX5_obey 203 = .ok (.aload_n 1, 1) := by decide +kernel
theorem dX5_obey_204 : decode cX5_obey 204 = .ok (.invokevirtual 234, 3) := by decide +kernel
theorem dX5_obey_207 : decode cX5_obey 207 = .ok (.goto 4, 3) := by decide +kernel
theorem dX5_obey_210 : decode cX5_obey 210 = .ok (.iconst 0, 1) := by decide +kernel
theorem dX5_obey_211 : decode cX5_obey 211 = .ok (.ireturn, 1) := by decide +kernel
theorem dX5_obey_212 : decode cX5_obey 212 = .ok (.aload_n 1, 1) := by decide +kernel
theorem dX5_obey_213 : decode cX5_obey 213 = .ok (.getfield 42, 3) := by decide +kernel
theorem dX5_obey_216 : decode cX5_obey 216 = .ok (.getfield 144, 3) := by decide +kernel
theorem dX5_obey_219 : decode cX5_obey 219 = .ok (.aload_n 0, 1) := by decide +kernel
theorem dX5_obey_220 : decode cX5_obey 220 = .ok (.getfield 12, 3) := by decide +kernel
theorem dX5_obey_223 : decode cX5_obey 223 = .ok (.getfield 221, 3) := by decide +kernel
theorem dX5_obey_226 : decode cX5_obey 226 = .ok (.aload_n 0, 1) := by decide +kernel
theorem dX5_obey_227 : decode cX5_obey 227 = .ok (.getfield 21, 3) := by decide +kernel
theorem dX5_obey_230 : decode cX5_obey 230 = .ok (.getfield 57, 3) := by decide +kernel
theorem dX5_obey_233 : decode cX5_obey 233 = .ok (.iastore, 1) := by decide +kernel
theorem dX5_obey_234 : decode cX5_obey 234 = .ok (.iconst 0, 1) := by decide +kernel
theorem dX5_obey_235 : decode cX5_obey 235 = .ok (.ireturn, 1) := by decide +kernel
theorem dX5_obey_236 : decode cX5_obey 236 = .ok (.aload_n 0, 1) := by decide +kernel
theorem dX5_obey_237 : decode cX5_obey 237 = .ok (.aload_n 1, 1) := by decide +kernel
theorem dX5_obey_238 : decode cX5_obey 238 = .ok (.invokevirtual 237, 3) := by decide +kernel
theorem dX5_obey_241 : decode cX5_obey 241 = .ok (.ireturn, 1) := by decide +kernel
theorem dX5_obey_242 : decode cX5_obey 242 = .ok (.aload_n 0, 1) := by decide +kernel
theorem dX5_obey_243 : decode cX5_obey 243 = .ok (.aload_n 1, 1) := by decide +kernel
theorem dX5_obey_244 : decode cX5_obey 244 = .ok (.invokevirtual 240, 3) := by decide +kernel
theorem dX5_obey_247 : decode cX5_obey 247 = .ok (.ireturn, 1) := by decide +kernel
theorem dX5_obey_248 : decode cX5_obey 248 = .ok (.aload_n 0, 1) := by decide +kernel
theorem dX5_obey_249 : decode cX5_obey 249 = .ok (.aload_n 1, 1) := by decide +kernel
theorem dX5_obey_250 : decode cX5_obey 250 = .ok (.invokevirtual 243, 3) := by decide +kernel
theorem dX5_obey_253 : decode cX5_obey 253 = .ok (.ireturn, 1) := by decide +kernel
theorem dX5_obey_254 : decode cX5_obey 254 = .ok (.aload_n 0, 1) := by decide +kernel
theorem dX5_obey_255 : decode cX5_obey 255 = .ok (.aload_n 1, 1) := by decide +kernel
theorem dX5_obey_256 : decode cX5_obey 256 = .ok (.iconst 0, 1) := by decide +kernel
theorem dX5_obey_257 : decode cX5_obey 257 = .ok (.invokevirtual 246, 3) := by decide +kernel
