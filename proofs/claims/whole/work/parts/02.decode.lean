theorem dD_init_0 : decode bD_init 0 = .ok (.aload_n 0, 1) := by decide +kernel
theorem dD_init_1 : decode bD_init 1 = .ok (.invokespecial 1, 3) := by decide +kernel
theorem dD_init_4 : decode bD_init 4 = .ok (.aload_n 0, 1) := by decide +kernel
theorem dD_init_5 : decode bD_init 5 = .ok (.new 7, 3) := by decide +kernel
theorem dD_init_8 : decode bD_init 8 = .ok (.dup, 1) := by decide +kernel
theorem dD_init_9 : decode bD_init 9 = .ok (.invokespecial 9, 3) := by decide +kernel
theorem dD_init_12 : decode bD_init 12 = .ok (.putfield 10, 3) := by decide +kernel
theorem dD_init_15 : decode bD_init 15 = .ok (.aload_n 0, 1) := by decide +kernel
theorem dD_init_16 : decode bD_init 16 = .ok (.new 16, 3) := by decide +kernel
theorem dD_init_19 : decode bD_init 19 = .ok (.dup, 1) := by decide +kernel
theorem dD_init_20 : decode bD_init 20 = .ok (.invokespecial 18, 3) := by decide +kernel
theorem dD_init_23 : decode bD_init 23 = .ok (.putfield 19, 3) := by decide +kernel
theorem dD_init_26 : decode bD_init 26 = .ok (.aload_n 0, 1) := by decide +kernel
theorem dD_init_27 : decode bD_init 27 = .ok (.new 23, 3) := by decide +kernel
theorem dD_init_30 : decode bD_init 30 = .ok (.dup, 1) := by decide +kernel
theorem dD_init_31 : decode bD_init 31 = .ok (.aload_n 0, 1) := by decide +kernel
theorem dD_init_32 : decode bD_init 32 = .ok (.getfield 19, 3) := by decide +kernel
theorem dD_init_35 : decode bD_init 35 = .ok (.invokespecial 25, 3) := by decide +kernel
theorem dD_init_38 : decode bD_init 38 = .ok (.putfield 28, 3) := by decide +kernel
theorem dD_init_41 : decode bD_init 41 = .ok (.aload_n 0, 1) := by decide +kernel
theorem dD_init_42 : decode bD_init 42 = .ok (.new 32, 3) := by decide +kernel
theorem dD_init_45 : decode bD_init 45 = .ok (.dup, 1) := by decide +kernel
theorem dD_init_46 : decode bD_init 46 = .ok (.aload_n 0, 1) := by decide +kernel
theorem dD_init_47 : decode bD_init 47 = .ok (.getfield 28, 3) := by decide +kernel
theorem dD_init_50 : decode bD_init 50 = .ok (.invokespecial 34, 3) := by decide +kernel
theorem dD_init_53 : decode bD_init 53 = .ok (.putfield 37, 3) := by decide +kernel
theorem dD_init_56 : decode bD_init 56 = .ok (.aload_n 0, 1) := by decide +kernel
theorem dD_init_57 : decode bD_init 57 = .ok (.new 41, 3) := by decide +kernel
theorem dD_init_60 : decode bD_init 60 = .ok (.dup, 1) := by decide +kernel
theorem dD_init_61 : decode bD_init 61 = .ok (.invokespecial 43, 3) := by decide +kernel
theorem dD_init_64 : decode bD_init 64 = .ok (.putfield 44, 3) := by decide +kernel
theorem dD_init_67 : decode bD_init 67 = .ok (.aload_n 0, 1) := by decide +kernel
theorem dD_init_68 : decode bD_init 68 = .ok (.new 41, 3) := by decide +kernel
theorem dD_init_71 : decode bD_init 71 = .ok (.dup, 1) := by decide +kernel
theorem dD_init_72 : decode bD_init 72 = .ok (.invokespecial 43, 3) := by decide +kernel
theorem dD_init_75 : decode bD_init 75 = .ok (.putfield 48, 3) := by decide +kernel
theorem dD_init_78 : decode bD_init 78 = .ok (.return_, 1) := by decide +kernel
theorem dD_section_0 : decode bD_section 0 = .ok (.iload_n 1, 1) := by decide +kernel
theorem dD_section_1 : decode bD_section 1 = .ok (.iconst (-1), 1) := by decide +kernel
theorem dD_section_2 : decode bD_section 2 = .ok (.if_icmp .lt 9, 3) := by decide +kernel
theorem dD_section_5 : decode bD_section 5 = .ok (.iload_n 1, 1) := by decide +kernel
theorem dD_section_6 : decode bD_section 6 = .ok (.bipush 8, 2) := by decide +kernel
theorem dD_section_8 : decode bD_section 8 = .ok (.if_icmp .lt 11, 3) := by decide +kernel
theorem dD_section_11 : decode bD_section 11 = .ok (.new 51, 3) := by decide +kernel
theorem dD_section_14 : decode bD_section 14 = .ok (.dup, 1) := by decide +kernel
theorem dD_section_15 : decode bD_section 15 = .ok (.invokespecial 53, 3) := by decide +kernel
theorem dD_section_18 : decode bD_section 18 = .ok (.athrow, 1) := by decide +kernel
theorem dD_section_19 : decode bD_section 19 = .ok (.aload_n 0, 1) := by decide +kernel
theorem dD_section_20 : decode bD_section 20 = .ok (.getfield 10, 3) := by decide +kernel
theorem dD_section_23 : decode bD_section 23 = .ok (.getfield 54, 3) := by decide +kernel
theorem dD_section_26 : decode bD_section 26 = .ok (.bipush 10, 2) := by decide +kernel
theorem dD_section_28 : decode bD_section 28 = .ok (.if_icmp .lt 11, 3) := by decide +kernel
theorem dD_section_31 : decode bD_section 31 = .ok (.new 58, 3) := by decide +kernel
theorem dD_section_34 : decode bD_section 34 = .ok (.dup, 1) := by decide +kernel
theorem dD_section_35 : decode bD_section 35 = .ok (.invokespecial 60, 3) := by decide +kernel
theorem dD_section_38 : decode bD_section 38 = .ok (.athrow, 1) := by decide +kernel
theorem dD_section_39 : decode bD_section 39 = .ok (.aload_n 0, 1) := by decide +kernel
theorem dD_section_40 : decode bD_section 40 = .ok (.getfield 10, 3) := by decide +kernel
theorem dD_section_43 : decode bD_section 43 = .ok (.iload_n 1, 1) := by decide +kernel
theorem dD_section_44 : decode bD_section 44 = .ok (.invokevirtual 61, 3) := by decide +kernel
theorem dD_section_47 : decode bD_section 47 = .ok (.ireturn, 1) := by decide +kernel
theorem dD_bytes_0 : decode bD_bytes 0 = .ok (.iload_n 2, 1) := by decide +kernel
theorem dD_bytes_1 : decode bD_bytes 1 = .ok (.iconst 1, 1) := by decide +kernel
theorem dD_bytes_2 : decode bD_bytes 2 = .ok (.if_icmp .lt 8, 3) := by decide +kernel
theorem dD_bytes_5 : decode bD_bytes 5 = .ok (.iload_n 2, 1) := by decide +kernel
theorem dD_bytes_6 : decode bD_bytes 6 = .ok (.iconst 4, 1) := by decide +kernel
theorem dD_bytes_7 : decode bD_bytes 7 = .ok (.if_icmp .le 11, 3) := by decide +kernel
theorem dD_bytes_10 : decode bD_bytes 10 = .ok (.new 51, 3) := by decide +kernel
theorem dD_bytes_13 : decode bD_bytes 13 = .ok (.dup, 1) := by decide +kernel
theorem dD_bytes_14 : decode bD_bytes 14 = .ok (.invokespecial 53, 3) := by decide +kernel
theorem dD_bytes_17 : decode bD_bytes 17 = .ok (.athrow, 1) := by decide +kernel
theorem dD_bytes_18 : decode bD_bytes 18 = .ok (.aload_n 0, 1) := by decide +kernel
theorem dD_bytes_19 : decode bD_bytes 19 = .ok (.getfield 10, 3) := by decide +kernel
theorem dD_bytes_22 : decode bD_bytes 22 = .ok (.iload_n 2, 1) := by decide +kernel
theorem dD_bytes_23 : decode bD_bytes 23 = .ok (.invokevirtual 65, 3) := by decide +kernel
theorem dD_bytes_26 : decode bD_bytes 26 = .ok (.ifCond .ne 11, 3) := by decide +kernel
theorem dD_bytes_29 : decode bD_bytes 29 = .ok (.new 58, 3) := by decide +kernel
theorem dD_bytes_32 : decode bD_bytes 32 = .ok (.dup, 1) := by decide +kernel
theorem dD_bytes_33 : decode bD_bytes 33 = .ok (.invokespecial 60, 3) := by decide +kernel
theorem dD_bytes_36 : decode bD_bytes 36 = .ok (.athrow, 1) := by decide +kernel
theorem dD_bytes_37 : decode bD_bytes 37 = .ok (.iload_n 2, 1) := by decide +kernel
theorem dD_bytes_38 : decode bD_bytes 38 = .ok (.iconst 1, 1) := by decide +kernel
theorem dD_bytes_39 : decode bD_bytes 39 = .ok (.isub, 1) := by decide +kernel
theorem dD_bytes_40 : decode bD_bytes 40 = .ok (.istore_n 3, 1) := by decide +kernel
theorem dD_bytes_41 : decode bD_bytes 41 = .ok (.iload_n 3, 1) := by decide +kernel
theorem dD_bytes_42 : decode bD_bytes 42 = .ok (.ifCond .lt 27, 3) := by decide +kernel
theorem dD_bytes_45 : decode bD_bytes 45 = .ok (.aload_n 0, 1) := by decide +kernel
theorem dD_bytes_46 : decode bD_bytes 46 = .ok (.getfield 10, 3) := by decide +kernel
theorem dD_bytes_49 : decode bD_bytes 49 = .ok (.iconst 0, 1) := by decide +kernel
theorem dD_bytes_50 : decode bD_bytes 50 = .ok (.iload_n 1, 1) := by decide +kernel
theorem dD_bytes_51 : decode bD_bytes 51 = .ok (.bipush 8, 2) := by decide +kernel
theorem dD_bytes_53 : decode bD_bytes 53 = .ok (.iload_n 3, 1) := by decide +kernel
theorem dD_bytes_54 : decode bD_bytes 54 = .ok (.imul, 1) := by decide +kernel
theorem dD_bytes_55 : decode bD_bytes 55 = .ok (.ishr, 1) := by decide +kernel
theorem dD_bytes_56 : decode bD_bytes 56 = .ok (.sipush 255, 3) := by decide +kernel
theorem dD_bytes_59 : decode bD_bytes 59 = .ok (.iand, 1) := by decide +kernel
theorem dD_bytes_60 : decode bD_bytes 60 = .ok (.invokevirtual 69, 3) := by decide +kernel
theorem dD_bytes_63 : decode bD_bytes 63 = .ok (.iinc 3 (-1), 3) := by decide +kernel
theorem dD_bytes_66 : decode bD_bytes 66 = .ok (.goto (-25), 3) := by decide +kernel
theorem dD_bytes_69 : decode bD_bytes 69 = .ok (.return_, 1) := by decide +kernel
theorem dD_mended_0 : decode bD_mended 0 = .ok (.iload_n 1, 1) := by decide +kernel
theorem dD_mended_1 : decode bD_mended 1 = .ok (.iconst 1, 1) := by decide +kernel
theorem dD_mended_2 : decode bD_mended 2 = .ok (.if_icmp .eq 8, 3) := by decide +kernel
theorem dD_mended_5 : decode bD_mended 5 = .ok (.iload_n 1, 1) := by decide +kernel
theorem dD_mended_6 : decode bD_mended 6 = .ok (.iconst 2, 1) := by decide +kernel
theorem dD_mended_7 : decode bD_mended 7 = .ok (.if_icmp .ne 7, 3) := by decide +kernel
theorem dD_mended_10 : decode bD_mended 10 = .ok (.iconst 1, 1) := by decide +kernel
theorem dD_mended_11 : decode bD_mended 11 = .ok (.goto 4, 3) := by decide +kernel
theorem dD_mended_14 : decode bD_mended 14 = .ok (.iconst 0, 1) := by decide +kernel
theorem dD_mended_15 : decode bD_mended 15 = .ok (.istore_n 3, 1) := by decide +kernel
theorem dD_mended_16 : decode bD_mended 16 = .ok (.iload_n 3, 1) := by decide +kernel
theorem dD_mended_17 : decode bD_mended 17 = .ok (.ifCond .eq 13, 3) := by decide +kernel
theorem dD_mended_20 : decode bD_mended 20 = .ok (.iload_n 2, 1) := by decide +kernel
theorem dD_mended_21 : decode bD_mended 21 = .ok (.ifCond .lt 9, 3) := by decide +kernel
theorem dD_mended_24 : decode bD_mended 24 = .ok (.iload_n 2, 1) := by decide +kernel
theorem dD_mended_25 : decode bD_mended 25 = .ok (.bipush 10, 2) := by decide +kernel
theorem dD_mended_27 : decode bD_mended 27 = .ok (.if_icmp .lt 11, 3) := by decide +kernel
theorem dD_mended_30 : decode bD_mended 30 = .ok (.new 51, 3) := by decide +kernel
theorem dD_mended_33 : decode bD_mended 33 = .ok (.dup, 1) := by decide +kernel
theorem dD_mended_34 : decode bD_mended 34 = .ok (.invokespecial 53, 3) := by decide +kernel
theorem dD_mended_37 : decode bD_mended 37 = .ok (.athrow, 1) := by decide +kernel
theorem dD_mended_38 : decode bD_mended 38 = .ok (.aload_n 0, 1) := by decide +kernel
theorem dD_mended_39 : decode bD_mended 39 = .ok (.getfield 10, 3) := by decide +kernel
theorem dD_mended_42 : decode bD_mended 42 = .ok (.iconst 1, 1) := by decide +kernel
theorem dD_mended_43 : decode bD_mended 43 = .ok (.invokevirtual 65, 3) := by decide +kernel
theorem dD_mended_46 : decode bD_mended 46 = .ok (.ifCond .ne 11, 3) := by decide +kernel
theorem dD_mended_49 : decode bD_mended 49 = .ok (.new 58, 3) := by decide +kernel
theorem dD_mended_52 : decode bD_mended 52 = .ok (.dup, 1) := by decide +kernel
theorem dD_mended_53 : decode bD_mended 53 = .ok (.invokespecial 60, 3) := by decide +kernel
theorem dD_mended_56 : decode bD_mended 56 = .ok (.athrow, 1) := by decide +kernel
theorem dD_mended_57 : decode bD_mended 57 = .ok (.aload_n 0, 1) := by decide +kernel
theorem dD_mended_58 : decode bD_mended 58 = .ok (.getfield 10, 3) := by decide +kernel
theorem dD_mended_61 : decode bD_mended 61 = .ok (.iload_n 1, 1) := by decide +kernel
theorem dD_mended_62 : decode bD_mended 62 = .ok (.iload_n 2, 1) := by decide +kernel
theorem dD_mended_63 : decode bD_mended 63 = .ok (.invokevirtual 69, 3) := by decide +kernel
theorem dD_mended_66 : decode bD_mended 66 = .ok (.return_, 1) := by decide +kernel
theorem dD_clear_0 : decode bD_clear 0 = .ok (.aload_n 0, 1) := by decide +kernel
theorem dD_clear_1 : decode bD_clear 1 = .ok (.getfield 10, 3) := by decide +kernel
theorem dD_clear_4 : decode bD_clear 4 = .ok (.iconst 0, 1) := by decide +kernel
theorem dD_clear_5 : decode bD_clear 5 = .ok (.putfield 54, 3) := by decide +kernel
theorem dD_clear_8 : decode bD_clear 8 = .ok (.return_, 1) := by decide +kernel
theorem dD_link_0 : decode bD_link 0 = .ok (.iload_n 1, 1) := by decide +kernel
theorem dD_link_1 : decode bD_link 1 = .ok (.iconst 2, 1) := by decide +kernel
theorem dD_link_2 : decode bD_link 2 = .ok (.if_icmp .eq 22, 3) := by decide +kernel
theorem dD_link_5 : decode bD_link 5 = .ok (.iload_n 1, 1) := by decide +kernel
theorem dD_link_6 : decode bD_link 6 = .ok (.iconst 4, 1) := by decide +kernel
theorem dD_link_7 : decode bD_link 7 = .ok (.if_icmp .eq 17, 3) := by decide +kernel
theorem dD_link_10 : decode bD_link 10 = .ok (.iload_n 1, 1) := by decide +kernel
theorem dD_link_11 : decode bD_link 11 = .ok (.bipush 8, 2) := by decide +kernel
theorem dD_link_13 : decode bD_link 13 = .ok (.if_icmp .eq 11, 3) := by decide +kernel
theorem dD_link_16 : decode bD_link 16 = .ok (.new 51, 3) := by decide +kernel
theorem dD_link_19 : decode bD_link 19 = .ok (.dup, 1) := by decide +kernel
theorem dD_link_20 : decode bD_link 20 = .ok (.invokespecial 53, 3) := by decide +kernel
theorem dD_link_23 : decode bD_link 23 = .ok (.athrow, 1) := by decide +kernel
theorem dD_link_24 : decode bD_link 24 = .ok (.aload_n 0, 1) := by decide +kernel
theorem dD_link_25 : decode bD_link 25 = .ok (.getfield 10, 3) := by decide +kernel
theorem dD_link_28 : decode bD_link 28 = .ok (.getfield 54, 3) := by decide +kernel
theorem dD_link_31 : decode bD_link 31 = .ok (.ifCond .eq 13, 3) := by decide +kernel
theorem dD_link_34 : decode bD_link 34 = .ok (.aload_n 0, 1) := by decide +kernel
theorem dD_link_35 : decode bD_link 35 = .ok (.getfield 10, 3) := by decide +kernel
theorem dD_link_38 : decode bD_link 38 = .ok (.invokevirtual 73, 3) := by decide +kernel
theorem dD_link_41 : decode bD_link 41 = .ok (.ifCond .eq 11, 3) := by decide +kernel
theorem dD_link_44 : decode bD_link 44 = .ok (.new 77, 3) := by decide +kernel
theorem dD_link_47 : decode bD_link 47 = .ok (.dup, 1) := by decide +kernel
theorem dD_link_48 : decode bD_link 48 = .ok (.invokespecial 79, 3) := by decide +kernel
theorem dD_link_51 : decode bD_link 51 = .ok (.athrow, 1) := by decide +kernel
theorem dD_link_52 : decode bD_link 52 = .ok (.aload_n 0, 1) := by decide +kernel
theorem dD_link_53 : decode bD_link 53 = .ok (.getfield 48, 3) := by decide +kernel
theorem dD_link_56 : decode bD_link 56 = .ok (.aload_n 0, 1) := by decide +kernel
theorem dD_link_57 : decode bD_link 57 = .ok (.getfield 10, 3) := by decide +kernel
theorem dD_link_60 : decode bD_link 60 = .ok (.iload_n 1, 1) := by decide +kernel
theorem dD_link_61 : decode bD_link 61 = .ok (.invokevirtual 80, 3) := by decide +kernel
theorem dD_link_64 : decode bD_link 64 = .ok (.ifCond .ne 11, 3) := by decide +kernel
theorem dD_link_67 : decode bD_link 67 = .ok (.new 58, 3) := by decide +kernel
theorem dD_link_70 : decode bD_link 70 = .ok (.dup, 1) := by decide +kernel
theorem dD_link_71 : decode bD_link 71 = .ok (.invokespecial 60, 3) := by decide +kernel
theorem dD_link_74 : decode bD_link 74 = .ok (.athrow, 1) := by decide +kernel
theorem dD_link_75 : decode bD_link 75 = .ok (.aload_n 0, 1) := by decide +kernel
theorem dD_link_76 : decode bD_link 76 = .ok (.invokevirtual 84, 3) := by decide +kernel
theorem dD_link_79 : decode bD_link 79 = .ok (.aload_n 0, 1) := by decide +kernel
theorem dD_link_80 : decode bD_link 80 = .ok (.getfield 19, 3) := by decide +kernel
theorem dD_link_83 : decode bD_link 83 = .ok (.aload_n 0, 1) := by decide +kernel
theorem dD_link_84 : decode bD_link 84 = .ok (.getfield 10, 3) := by decide +kernel
theorem dD_link_87 : decode bD_link 87 = .ok (.aload_n 0, 1) := by decide +kernel
theorem dD_link_88 : decode bD_link 88 = .ok (.getfield 44, 3) := by decide +kernel
theorem dD_link_91 : decode bD_link 91 = .ok (.iload_n 1, 1) := by decide +kernel
theorem dD_link_92 : decode bD_link 92 = .ok (.invokevirtual 87, 3) := by decide +kernel
theorem dD_link_95 : decode bD_link 95 = .ok (.aload_n 0, 1) := by decide +kernel
theorem dD_link_96 : decode bD_link 96 = .ok (.getfield 37, 3) := by decide +kernel
theorem dD_link_99 : decode bD_link 99 = .ok (.invokevirtual 91, 3) := by decide +kernel
theorem dD_link_102 : decode bD_link 102 = .ok (.aload_n 0, 1) := by decide +kernel
theorem dD_link_103 : decode bD_link 103 = .ok (.getfield 10, 3) := by decide +kernel
theorem dD_link_106 : decode bD_link 106 = .ok (.invokevirtual 94, 3) := by decide +kernel
theorem dD_link_109 : decode bD_link 109 = .ok (.ireturn, 1) := by decide +kernel
theorem dD_packed_0 : decode bD_packed 0 = .ok (.iload_n 1, 1) := by decide +kernel
theorem dD_packed_1 : decode bD_packed 1 = .ok (.ifCond .lt 23, 3) := by decide +kernel
theorem dD_packed_4 : decode bD_packed 4 = .ok (.iload_n 1, 1) := by decide +kernel
theorem dD_packed_5 : decode bD_packed 5 = .ok (.aload_n 0, 1) := by decide +kernel
theorem dD_packed_6 : decode bD_packed 6 = .ok (.getfield 44, 3) := by decide +kernel
theorem dD_packed_9 : decode bD_packed 9 = .ok (.getfield 98, 3) := by decide +kernel
theorem dD_packed_12 : decode bD_packed 12 = .ok (.if_icmp .ge 12, 3) := by decide +kernel
theorem dD_packed_15 : decode bD_packed 15 = .ok (.iload_n 2, 1) := by decide +kernel
theorem dD_packed_16 : decode bD_packed 16 = .ok (.ifCond .lt 8, 3) := by decide +kernel
theorem dD_packed_19 : decode bD_packed 19 = .ok (.iload_n 2, 1) := by decide +kernel
theorem dD_packed_20 : decode bD_packed 20 = .ok (.iconst 1, 1) := by decide +kernel
theorem dD_packed_21 : decode bD_packed 21 = .ok (.if_icmp .le 11, 3) := by decide +kernel
theorem dD_packed_24 : decode bD_packed 24 = .ok (.new 77, 3) := by decide +kernel
theorem dD_packed_27 : decode bD_packed 27 = .ok (.dup, 1) := by decide +kernel
theorem dD_packed_28 : decode bD_packed 28 = .ok (.invokespecial 79, 3) := by decide +kernel
theorem dD_packed_31 : decode bD_packed 31 = .ok (.athrow, 1) := by decide +kernel
theorem dD_packed_32 : decode bD_packed 32 = .ok (.iload_n 2, 1) := by decide +kernel
theorem dD_packed_33 : decode bD_packed 33 = .ok (.ifCond .ne 15, 3) := by decide +kernel
theorem dD_packed_36 : decode bD_packed 36 = .ok (.aload_n 0, 1) := by decide +kernel
theorem dD_packed_37 : decode bD_packed 37 = .ok (.getfield 44, 3) := by decide +kernel
theorem dD_packed_40 : decode bD_packed 40 = .ok (.getfield 99, 3) := by decide +kernel
theorem dD_packed_43 : decode bD_packed 43 = .ok (.iload_n 1, 1) := by decide +kernel
theorem dD_packed_44 : decode bD_packed 44 = .ok (.iaload, 1) := by decide +kernel
theorem dD_packed_45 : decode bD_packed 45 = .ok (.goto 11, 3) := by decide +kernel
theorem dD_packed_48 : decode bD_packed 48 = .ok (.aload_n 0, 1) := by decide +kernel
theorem dD_packed_49 : decode bD_packed 49 = .ok (.getfield 44, 3) := by decide +kernel
theorem dD_packed_52 : decode bD_packed 52 = .ok (.iload_n 1, 1) := by decide +kernel
theorem dD_packed_53 : decode bD_packed 53 = .ok (.invokevirtual 103, 3) := by decide +kernel
theorem dD_packed_56 : decode bD_packed 56 = .ok (.ireturn, 1) := by decide +kernel
theorem dD_image_0 : decode bD_image 0 = .ok (.iload_n 1, 1) := by decide +kernel
theorem dD_image_1 : decode bD_image 1 = .ok (.ifCond .lt 14, 3) := by decide +kernel
theorem dD_image_4 : decode bD_image 4 = .ok (.iload_n 1, 1) := by decide +kernel
theorem dD_image_5 : decode bD_image 5 = .ok (.aload_n 0, 1) := by decide +kernel
theorem dD_image_6 : decode bD_image 6 = .ok (.getfield 19, 3) := by decide +kernel
theorem dD_image_9 : decode bD_image 9 = .ok (.invokevirtual 106, 3) := by decide +kernel
theorem dD_image_12 : decode bD_image 12 = .ok (.if_icmp .lt 11, 3) := by decide +kernel
theorem dD_image_15 : decode bD_image 15 = .ok (.new 77, 3) := by decide +kernel
theorem dD_image_18 : decode bD_image 18 = .ok (.dup, 1) := by decide +kernel
theorem dD_image_19 : decode bD_image 19 = .ok (.invokespecial 79, 3) := by decide +kernel
theorem dD_image_22 : decode bD_image 22 = .ok (.athrow, 1) := by decide +kernel
theorem dD_image_23 : decode bD_image 23 = .ok (.aload_n 0, 1) := by decide +kernel
theorem dD_image_24 : decode bD_image 24 = .ok (.getfield 19, 3) := by decide +kernel
theorem dD_image_27 : decode bD_image 27 = .ok (.getfield 109, 3) := by decide +kernel
theorem dD_image_30 : decode bD_image 30 = .ok (.iload_n 1, 1) := by decide +kernel
theorem dD_image_31 : decode bD_image 31 = .ok (.iaload, 1) := by decide +kernel
theorem dD_image_32 : decode bD_image 32 = .ok (.ireturn, 1) := by decide +kernel
theorem dD_spoil_0 : decode bD_spoil 0 = .ok (.iload_n 1, 1) := by decide +kernel
theorem dD_spoil_1 : decode bD_spoil 1 = .ok (.ifCond .lt 14, 3) := by decide +kernel
theorem dD_spoil_4 : decode bD_spoil 4 = .ok (.iload_n 1, 1) := by decide +kernel
theorem dD_spoil_5 : decode bD_spoil 5 = .ok (.aload_n 0, 1) := by decide +kernel
theorem dD_spoil_6 : decode bD_spoil 6 = .ok (.getfield 19, 3) := by decide +kernel
theorem dD_spoil_9 : decode bD_spoil 9 = .ok (.invokevirtual 106, 3) := by decide +kernel
theorem dD_spoil_12 : decode bD_spoil 12 = .ok (.if_icmp .lt 11, 3) := by decide +kernel
theorem dD_spoil_15 : decode bD_spoil 15 = .ok (.new 77, 3) := by decide +kernel
theorem dD_spoil_18 : decode bD_spoil 18 = .ok (.dup, 1) := by decide +kernel
theorem dD_spoil_19 : decode bD_spoil 19 = .ok (.invokespecial 79, 3) := by decide +kernel
theorem dD_spoil_22 : decode bD_spoil 22 = .ok (.athrow, 1) := by decide +kernel
theorem dD_spoil_23 : decode bD_spoil 23 = .ok (.aload_n 0, 1) := by decide +kernel
theorem dD_spoil_24 : decode bD_spoil 24 = .ok (.getfield 19, 3) := by decide +kernel
theorem dD_spoil_27 : decode bD_spoil 27 = .ok (.getfield 109, 3) := by decide +kernel
theorem dD_spoil_30 : decode bD_spoil 30 = .ok (.iload_n 1, 1) := by decide +kernel
theorem dD_spoil_31 : decode bD_spoil 31 = .ok (.iload_n 2, 1) := by decide +kernel
theorem dD_spoil_32 : decode bD_spoil 32 = .ok (.sipush 255, 3) := by decide +kernel
theorem dD_spoil_35 : decode bD_spoil 35 = .ok (.iand, 1) := by decide +kernel
theorem dD_spoil_36 : decode bD_spoil 36 = .ok (.iastore, 1) := by decide +kernel
theorem dD_spoil_37 : decode bD_spoil 37 = .ok (.return_, 1) := by decide +kernel
theorem dD_valid_0 : decode bD_valid 0 = .ok (.aload_n 0, 1) := by decide +kernel
theorem dD_valid_1 : decode bD_valid 1 = .ok (.getfield 19, 3) := by decide +kernel
theorem dD_valid_4 : decode bD_valid 4 = .ok (.invokevirtual 112, 3) := by decide +kernel
theorem dD_valid_7 : decode bD_valid 7 = .ok (.ifCond .ne 11, 3) := by decide +kernel
theorem dD_valid_10 : decode bD_valid 10 = .ok (.new 77, 3) := by decide +kernel
theorem dD_valid_13 : decode bD_valid 13 = .ok (.dup, 1) := by decide +kernel
theorem dD_valid_14 : decode bD_valid 14 = .ok (.invokespecial 79, 3) := by decide +kernel
theorem dD_valid_17 : decode bD_valid 17 = .ok (.athrow, 1) := by decide +kernel
theorem dD_valid_18 : decode bD_valid 18 = .ok (.aload_n 0, 1) := by decide +kernel
theorem dD_valid_19 : decode bD_valid 19 = .ok (.getfield 19, 3) := by decide +kernel
theorem dD_valid_22 : decode bD_valid 22 = .ok (.invokevirtual 115, 3) := by decide +kernel
theorem dD_valid_25 : decode bD_valid 25 = .ok (.ireturn, 1) := by decide +kernel
theorem dD_restart_0 : decode bD_restart 0 = .ok (.aload_n 0, 1) := by decide +kernel
theorem dD_restart_1 : decode bD_restart 1 = .ok (.getfield 37, 3) := by decide +kernel
theorem dD_restart_4 : decode bD_restart 4 = .ok (.invokevirtual 91, 3) := by decide +kernel
theorem dD_restart_7 : decode bD_restart 7 = .ok (.return_, 1) := by decide +kernel
theorem dD_raise_0 : decode bD_raise 0 = .ok (.iload_n 1, 1) := by decide +kernel
theorem dD_raise_1 : decode bD_raise 1 = .ok (.ifCond .lt 8, 3) := by decide +kernel
theorem dD_raise_4 : decode bD_raise 4 = .ok (.iload_n 1, 1) := by decide +kernel
theorem dD_raise_5 : decode bD_raise 5 = .ok (.iconst 4, 1) := by decide +kernel
theorem dD_raise_6 : decode bD_raise 6 = .ok (.if_icmp .lt 11, 3) := by decide +kernel
theorem dD_raise_9 : decode bD_raise 9 = .ok (.new 51, 3) := by decide +kernel
theorem dD_raise_12 : decode bD_raise 12 = .ok (.dup, 1) := by decide +kernel
theorem dD_raise_13 : decode bD_raise 13 = .ok (.invokespecial 53, 3) := by decide +kernel
theorem dD_raise_16 : decode bD_raise 16 = .ok (.athrow, 1) := by decide +kernel
theorem dD_raise_17 : decode bD_raise 17 = .ok (.aload_n 0, 1) := by decide +kernel
theorem dD_raise_18 : decode bD_raise 18 = .ok (.getfield 28, 3) := by decide +kernel
theorem dD_raise_21 : decode bD_raise 21 = .ok (.dup, 1) := by decide +kernel
theorem dD_raise_22 : decode bD_raise 22 = .ok (.getfield 118, 3) := by decide +kernel
theorem dD_raise_25 : decode bD_raise 25 = .ok (.iconst 1, 1) := by decide +kernel
theorem dD_raise_26 : decode bD_raise 26 = .ok (.iload_n 1, 1) := by decide +kernel
theorem dD_raise_27 : decode bD_raise 27 = .ok (.ishl, 1) := by decide +kernel
theorem dD_raise_28 : decode bD_raise 28 = .ok (.ior, 1) := by decide +kernel
theorem dD_raise_29 : decode bD_raise 29 = .ok (.putfield 118, 3) := by decide +kernel
theorem dD_raise_32 : decode bD_raise 32 = .ok (.return_, 1) := by decide +kernel
theorem dD_run_0 : decode bD_run 0 = .ok (.aload_n 0, 1) := by decide +kernel
theorem dD_run_1 : decode bD_run 1 = .ok (.getfield 19, 3) := by decide +kernel
theorem dD_run_4 : decode bD_run 4 = .ok (.invokevirtual 112, 3) := by decide +kernel
theorem dD_run_7 : decode bD_run 7 = .ok (.ifCond .ne 11, 3) := by decide +kernel
theorem dD_run_10 : decode bD_run 10 = .ok (.new 77, 3) := by decide +kernel
theorem dD_run_13 : decode bD_run 13 = .ok (.dup, 1) := by decide +kernel
theorem dD_run_14 : decode bD_run 14 = .ok (.invokespecial 79, 3) := by decide +kernel
theorem dD_run_17 : decode bD_run 17 = .ok (.athrow, 1) := by decide +kernel
theorem dD_run_18 : decode bD_run 18 = .ok (.iconst 0, 1) := by decide +kernel
theorem dD_run_19 : decode bD_run 19 = .ok (.istore_n 2, 1) := by decide +kernel
theorem dD_run_20 : decode bD_run 20 = .ok (.iload_n 2, 1) := by decide +kernel
theorem dD_run_21 : decode bD_run 21 = .ok (.iload_n 1, 1) := by decide +kernel
theorem dD_run_22 : decode bD_run 22 = .ok (.if_icmp .ge 33, 3) := by decide +kernel
theorem dD_run_25 : decode bD_run 25 = .ok (.iload_n 2, 1) := by decide +kernel
theorem dD_run_26 : decode bD_run 26 = .ok (.sipush 2000, 3) := by decide +kernel
theorem dD_run_29 : decode bD_run 29 = .ok (.if_icmp .ge 26, 3) := by decide +kernel
theorem dD_run_32 : decode bD_run 32 = .ok (.aload_n 0, 1) := by decide +kernel
theorem dD_run_33 : decode bD_run 33 = .ok (.getfield 37, 3) := by decide +kernel
theorem dD_run_36 : decode bD_run 36 = .ok (.invokevirtual 121, 3) := by decide +kernel
theorem dD_run_39 : decode bD_run 39 = .ok (.ifCond .eq 16, 3) := by decide +kernel
theorem dD_run_42 : decode bD_run 42 = .ok (.aload_n 0, 1) := by decide +kernel
theorem dD_run_43 : decode bD_run 43 = .ok (.getfield 37, 3) := by decide +kernel
theorem dD_run_46 : decode bD_run 46 = .ok (.invokevirtual 124, 3) := by decide +kernel
theorem dD_run_49 : decode bD_run 49 = .ok (.iinc 2 1, 3) := by decide +kernel
theorem dD_run_52 : decode bD_run 52 = .ok (.goto (-32), 3) := by decide +kernel
theorem dD_run_55 : decode bD_run 55 = .ok (.iload_n 2, 1) := by decide +kernel
theorem dD_run_56 : decode bD_run 56 = .ok (.ireturn, 1) := by decide +kernel
theorem dD_state_0 : decode bD_state 0 = .ok (.aload_n 0, 1) := by decide +kernel
theorem dD_state_1 : decode bD_state 1 = .ok (.getfield 37, 3) := by decide +kernel
theorem dD_state_4 : decode bD_state 4 = .ok (.getfield 127, 3) := by decide +kernel
theorem dD_state_7 : decode bD_state 7 = .ok (.ireturn, 1) := by decide +kernel
theorem dD_register_0 : decode bD_register 0 = .ok (.iload_n 1, 1) := by decide +kernel
theorem dD_register_1 : decode bD_register 1 = .ok (.bipush 6, 2) := by decide +kernel
theorem dD_register_3 : decode bD_register 3 = .ok (.if_icmp .ne 7, 3) := by decide +kernel
theorem dD_register_6 : decode bD_register 6 = .ok (.iconst 1, 1) := by decide +kernel
theorem dD_register_7 : decode bD_register 7 = .ok (.goto 4, 3) := by decide +kernel
theorem dD_register_10 : decode bD_register 10 = .ok (.iconst 0, 1) := by decide +kernel
theorem dD_register_11 : decode bD_register 11 = .ok (.istore_n 2, 1) := by decide +kernel
theorem dD_register_12 : decode bD_register 12 = .ok (.iload_n 1, 1) := by decide +kernel
theorem dD_register_13 : decode bD_register 13 = .ok (.ifCond .lt 23, 3) := by decide +kernel
theorem dD_register_16 : decode bD_register 16 = .ok (.iload_n 1, 1) := by decide +kernel
theorem dD_register_17 : decode bD_register 17 = .ok (.bipush 12, 2) := by decide +kernel
theorem dD_register_19 : decode bD_register 19 = .ok (.if_icmp .gt 17, 3) := by decide +kernel
theorem dD_register_22 : decode bD_register 22 = .ok (.iload_n 2, 1) := by decide +kernel
theorem dD_register_23 : decode bD_register 23 = .ok (.ifCond .eq 21, 3) := by decide +kernel
theorem dD_register_26 : decode bD_register 26 = .ok (.aload_n 0, 1) := by decide +kernel
theorem dD_register_27 : decode bD_register 27 = .ok (.getfield 19, 3) := by decide +kernel
theorem dD_register_30 : decode bD_register 30 = .ok (.invokevirtual 112, 3) := by decide +kernel
theorem dD_register_33 : decode bD_register 33 = .ok (.ifCond .ne 11, 3) := by decide +kernel
theorem dD_register_36 : decode bD_register 36 = .ok (.new 77, 3) := by decide +kernel
theorem dD_register_39 : decode bD_register 39 = .ok (.dup, 1) := by decide +kernel
theorem dD_register_40 : decode bD_register 40 = .ok (.invokespecial 79, 3) := by decide +kernel
theorem dD_register_43 : decode bD_register 43 = .ok (.athrow, 1) := by decide +kernel
theorem dD_register_44 : decode bD_register 44 = .ok (.aload_n 0, 1) := by decide +kernel
theorem dD_register_45 : decode bD_register 45 = .ok (.getfield 37, 3) := by decide +kernel
theorem dD_register_48 : decode bD_register 48 = .ok (.iload_n 1, 1) := by decide +kernel
theorem dD_register_49 : decode bD_register 49 = .ok (.invokevirtual 130, 3) := by decide +kernel
theorem dD_register_52 : decode bD_register 52 = .ok (.ireturn, 1) := by decide +kernel
theorem dD_peek_0 : decode bD_peek 0 = .ok (.iload_n 1, 1) := by decide +kernel
theorem dD_peek_1 : decode bD_peek 1 = .ok (.ifCond .lt 20, 3) := by decide +kernel
theorem dD_peek_4 : decode bD_peek 4 = .ok (.iload_n 1, 1) := by decide +kernel
theorem dD_peek_5 : decode bD_peek 5 = .ok (.sipush 255, 3) := by decide +kernel
theorem dD_peek_8 : decode bD_peek 8 = .ok (.if_icmp .gt 13, 3) := by decide +kernel
theorem dD_peek_11 : decode bD_peek 11 = .ok (.aload_n 0, 1) := by decide +kernel
theorem dD_peek_12 : decode bD_peek 12 = .ok (.getfield 19, 3) := by decide +kernel
theorem dD_peek_15 : decode bD_peek 15 = .ok (.invokevirtual 112, 3) := by decide +kernel
theorem dD_peek_18 : decode bD_peek 18 = .ok (.ifCond .ne 11, 3) := by decide +kernel
theorem dD_peek_21 : decode bD_peek 21 = .ok (.new 77, 3) := by decide +kernel
theorem dD_peek_24 : decode bD_peek 24 = .ok (.dup, 1) := by decide +kernel
theorem dD_peek_25 : decode bD_peek 25 = .ok (.invokespecial 79, 3) := by decide +kernel
theorem dD_peek_28 : decode bD_peek 28 = .ok (.athrow, 1) := by decide +kernel
theorem dD_peek_29 : decode bD_peek 29 = .ok (.aload_n 0, 1) := by decide +kernel
theorem dD_peek_30 : decode bD_peek 30 = .ok (.getfield 28, 3) := by decide +kernel
theorem dD_peek_33 : decode bD_peek 33 = .ok (.iload_n 1, 1) := by decide +kernel
theorem dD_peek_34 : decode bD_peek 34 = .ok (.invokevirtual 133, 3) := by decide +kernel
theorem dD_peek_37 : decode bD_peek 37 = .ok (.ireturn, 1) := by decide +kernel
theorem dD_sent_0 : decode bD_sent 0 = .ok (.aload_n 0, 1) := by decide +kernel
theorem dD_sent_1 : decode bD_sent 1 = .ok (.getfield 37, 3) := by decide +kernel
theorem dD_sent_4 : decode bD_sent 4 = .ok (.getfield 136, 3) := by decide +kernel
theorem dD_sent_7 : decode bD_sent 7 = .ok (.ireturn, 1) := by decide +kernel
theorem dD_byteSent_0 : decode bD_byteSent 0 = .ok (.iload_n 1, 1) := by decide +kernel
theorem dD_byteSent_1 : decode bD_byteSent 1 = .ok (.ifCond .lt 14, 3) := by decide +kernel
theorem dD_byteSent_4 : decode bD_byteSent 4 = .ok (.iload_n 1, 1) := by decide +kernel
theorem dD_byteSent_5 : decode bD_byteSent 5 = .ok (.aload_n 0, 1) := by decide +kernel
theorem dD_byteSent_6 : decode bD_byteSent 6 = .ok (.getfield 37, 3) := by decide +kernel
theorem dD_byteSent_9 : decode bD_byteSent 9 = .ok (.invokevirtual 139, 3) := by decide +kernel
theorem dD_byteSent_12 : decode bD_byteSent 12 = .ok (.if_icmp .lt 11, 3) := by decide +kernel
theorem dD_byteSent_15 : decode bD_byteSent 15 = .ok (.new 77, 3) := by decide +kernel
theorem dD_byteSent_18 : decode bD_byteSent 18 = .ok (.dup, 1) := by decide +kernel
theorem dD_byteSent_19 : decode bD_byteSent 19 = .ok (.invokespecial 79, 3) := by decide +kernel
theorem dD_byteSent_22 : decode bD_byteSent 22 = .ok (.athrow, 1) := by decide +kernel
theorem dD_byteSent_23 : decode bD_byteSent 23 = .ok (.aload_n 0, 1) := by decide +kernel
theorem dD_byteSent_24 : decode bD_byteSent 24 = .ok (.getfield 37, 3) := by decide +kernel
theorem dD_byteSent_27 : decode bD_byteSent 27 = .ok (.getfield 142, 3) := by decide +kernel
theorem dD_byteSent_30 : decode bD_byteSent 30 = .ok (.iload_n 1, 1) := by decide +kernel
theorem dD_byteSent_31 : decode bD_byteSent 31 = .ok (.iaload, 1) := by decide +kernel
theorem dD_byteSent_32 : decode bD_byteSent 32 = .ok (.ireturn, 1) := by decide +kernel
theorem dD_keepTried_0 : decode bD_keepTried 0 = .ok (.aload_n 0, 1) := by decide +kernel
theorem dD_keepTried_1 : decode bD_keepTried 1 = .ok (.getfield 44, 3) := by decide +kernel
theorem dD_keepTried_4 : decode bD_keepTried 4 = .ok (.astore_n 1, 1) := by decide +kernel
theorem dD_keepTried_5 : decode bD_keepTried 5 = .ok (.aload_n 0, 1) := by decide +kernel
theorem dD_keepTried_6 : decode bD_keepTried 6 = .ok (.aload_n 0, 1) := by decide +kernel
theorem dD_keepTried_7 : decode bD_keepTried 7 = .ok (.getfield 48, 3) := by decide +kernel
theorem dD_keepTried_10 : decode bD_keepTried 10 = .ok (.putfield 44, 3) := by decide +kernel
theorem dD_keepTried_13 : decode bD_keepTried 13 = .ok (.aload_n 0, 1) := by decide +kernel
theorem dD_keepTried_14 : decode bD_keepTried 14 = .ok (.aload_n 1, 1) := by decide +kernel
theorem dD_keepTried_15 : decode bD_keepTried 15 = .ok (.putfield 48, 3) := by decide +kernel
theorem dD_keepTried_18 : decode bD_keepTried 18 = .ok (.return_, 1) := by decide +kernel
theorem dQ_init_0 : decode bQ_init 0 = .ok (.aload_n 0, 1) := by decide +kernel
theorem dQ_init_1 : decode bQ_init 1 = .ok (.invokespecial 1, 3) := by decide +kernel
theorem dQ_init_4 : decode bQ_init 4 = .ok (.aload_n 0, 1) := by decide +kernel
theorem dQ_init_5 : decode bQ_init 5 = .ok (.bipush 10, 2) := by decide +kernel
theorem dQ_init_7 : decode bQ_init 7 = .ok (.newarray .int, 2) := by decide +kernel
theorem dQ_init_9 : decode bQ_init 9 = .ok (.putfield 7, 3) := by decide +kernel
theorem dQ_init_12 : decode bQ_init 12 = .ok (.aload_n 0, 1) := by decide +kernel
theorem dQ_init_13 : decode bQ_init 13 = .ok (.bipush 10, 2) := by decide +kernel
theorem dQ_init_15 : decode bQ_init 15 = .ok (.newarray .int, 2) := by decide +kernel
theorem dQ_init_17 : decode bQ_init 17 = .ok (.putfield 13, 3) := by decide +kernel
theorem dQ_init_20 : decode bQ_init 20 = .ok (.aload_n 0, 1) := by decide +kernel
theorem dQ_init_21 : decode bQ_init 21 = .ok (.sipush 480, 3) := by decide +kernel
theorem dQ_init_24 : decode bQ_init 24 = .ok (.newarray .int, 2) := by decide +kernel
theorem dQ_init_26 : decode bQ_init 26 = .ok (.putfield 16, 3) := by decide +kernel
theorem dQ_init_29 : decode bQ_init 29 = .ok (.aload_n 0, 1) := by decide +kernel
theorem dQ_init_30 : decode bQ_init 30 = .ok (.sipush 480, 3) := by decide +kernel
theorem dQ_init_33 : decode bQ_init 33 = .ok (.newarray .int, 2) := by decide +kernel
theorem dQ_init_35 : decode bQ_init 35 = .ok (.putfield 19, 3) := by decide +kernel
theorem dQ_init_38 : decode bQ_init 38 = .ok (.aload_n 0, 1) := by decide +kernel
theorem dQ_init_39 : decode bQ_init 39 = .ok (.bipush 10, 2) := by decide +kernel
theorem dQ_init_41 : decode bQ_init 41 = .ok (.newarray .int, 2) := by decide +kernel
theorem dQ_init_43 : decode bQ_init 43 = .ok (.putfield 22, 3) := by decide +kernel
theorem dQ_init_46 : decode bQ_init 46 = .ok (.aload_n 0, 1) := by decide +kernel
theorem dQ_init_47 : decode bQ_init 47 = .ok (.bipush 10, 2) := by decide +kernel
theorem dQ_init_49 : decode bQ_init 49 = .ok (.newarray .int, 2) := by decide +kernel
theorem dQ_init_51 : decode bQ_init 51 = .ok (.putfield 25, 3) := by decide +kernel
theorem dQ_init_54 : decode bQ_init 54 = .ok (.aload_n 0, 1) := by decide +kernel
theorem dQ_init_55 : decode bQ_init 55 = .ok (.bipush 8, 2) := by decide +kernel
theorem dQ_init_57 : decode bQ_init 57 = .ok (.newarray .int, 2) := by decide +kernel
theorem dQ_init_59 : decode bQ_init 59 = .ok (.putfield 28, 3) := by decide +kernel
theorem dQ_init_62 : decode bQ_init 62 = .ok (.aload_n 0, 1) := by decide +kernel
theorem dQ_init_63 : decode bQ_init 63 = .ok (.bipush 10, 2) := by decide +kernel
theorem dQ_init_65 : decode bQ_init 65 = .ok (.newarray .int, 2) := by decide +kernel
theorem dQ_init_67 : decode bQ_init 67 = .ok (.putfield 31, 3) := by decide +kernel
theorem dQ_init_70 : decode bQ_init 70 = .ok (.aload_n 0, 1) := by decide +kernel
theorem dQ_init_71 : decode bQ_init 71 = .ok (.bipush 10, 2) := by decide +kernel
theorem dQ_init_73 : decode bQ_init 73 = .ok (.newarray .int, 2) := by decide +kernel
theorem dQ_init_75 : decode bQ_init 75 = .ok (.putfield 34, 3) := by decide +kernel
theorem dQ_init_78 : decode bQ_init 78 = .ok (.aload_n 0, 1) := by decide +kernel
theorem dQ_init_79 : decode bQ_init 79 = .ok (.sipush 705, 3) := by decide +kernel
theorem dQ_init_82 : decode bQ_init 82 = .ok (.newarray .int, 2) := by decide +kernel
theorem dQ_init_84 : decode bQ_init 84 = .ok (.putfield 37, 3) := by decide +kernel
theorem dQ_init_87 : decode bQ_init 87 = .ok (.aload_n 0, 1) := by decide +kernel
theorem dQ_init_88 : decode bQ_init 88 = .ok (.bipush 8, 2) := by decide +kernel
theorem dQ_init_90 : decode bQ_init 90 = .ok (.newarray .int, 2) := by decide +kernel
theorem dQ_init_92 : decode bQ_init 92 = .ok (.putfield 40, 3) := by decide +kernel
theorem dQ_init_95 : decode bQ_init 95 = .ok (.aload_n 0, 1) := by decide +kernel
theorem dQ_init_96 : decode bQ_init 96 = .ok (.bipush 100, 2) := by decide +kernel
theorem dQ_init_98 : decode bQ_init 98 = .ok (.newarray .int, 2) := by decide +kernel
theorem dQ_init_100 : decode bQ_init 100 = .ok (.putfield 43, 3) := by decide +kernel
theorem dQ_init_103 : decode bQ_init 103 = .ok (.aload_n 0, 1) := by decide +kernel
theorem dQ_init_104 : decode bQ_init 104 = .ok (.invokevirtual 46, 3) := by decide +kernel
theorem dQ_init_107 : decode bQ_init 107 = .ok (.return_, 1) := by decide +kernel
theorem dQ_thrown_0 : decode bQ_thrown 0 = .ok (.aload_n 0, 1) := by decide +kernel
theorem dQ_thrown_1 : decode bQ_thrown 1 = .ok (.getfield 49, 3) := by decide +kernel
theorem dQ_thrown_4 : decode bQ_thrown 4 = .ok (.ireturn, 1) := by decide +kernel
theorem dQ_refuse_0 : decode bQ_refuse 0 = .ok (.aload_n 0, 1) := by decide +kernel
theorem dQ_refuse_1 : decode bQ_refuse 1 = .ok (.iload_n 1, 1) := by decide +kernel
theorem dQ_refuse_2 : decode bQ_refuse 2 = .ok (.putfield 49, 3) := by decide +kernel
theorem dQ_refuse_5 : decode bQ_refuse 5 = .ok (.iconst 0, 1) := by decide +kernel
theorem dQ_refuse_6 : decode bQ_refuse 6 = .ok (.ireturn, 1) := by decide +kernel
theorem dQ_outside_0 : decode bQ_outside 0 = .ok (.iload_n 0, 1) := by decide +kernel
theorem dQ_outside_1 : decode bQ_outside 1 = .ok (.iload_n 1, 1) := by decide +kernel
theorem dQ_outside_2 : decode bQ_outside 2 = .ok (.if_icmp .lt 8, 3) := by decide +kernel
theorem dQ_outside_5 : decode bQ_outside 5 = .ok (.iload_n 0, 1) := by decide +kernel
theorem dQ_outside_6 : decode bQ_outside 6 = .ok (.iload_n 2, 1) := by decide +kernel
theorem dQ_outside_7 : decode bQ_outside 7 = .ok (.if_icmp .le 7, 3) := by decide +kernel
theorem dQ_outside_10 : decode bQ_outside 10 = .ok (.iconst 1, 1) := by decide +kernel
theorem dQ_outside_11 : decode bQ_outside 11 = .ok (.goto 4, 3) := by decide +kernel
theorem dQ_outside_14 : decode bQ_outside 14 = .ok (.iconst 0, 1) := by decide +kernel
theorem dQ_outside_15 : decode bQ_outside 15 = .ok (.ireturn, 1) := by decide +kernel
theorem dQ_begin_0 : decode bQ_begin 0 = .ok (.sipush 512, 3) := by decide +kernel
theorem dQ_begin_3 : decode bQ_begin 3 = .ok (.istore_n 1, 1) := by decide +kernel
theorem dQ_begin_4 : decode bQ_begin 4 = .ok (.iload_n 1, 1) := by decide +kernel
theorem dQ_begin_5 : decode bQ_begin 5 = .ok (.sipush 705, 3) := by decide +kernel
theorem dQ_begin_8 : decode bQ_begin 8 = .ok (.if_icmp .ge 29, 3) := by decide +kernel
theorem dQ_begin_11 : decode bQ_begin 11 = .ok (.aload_n 0, 1) := by decide +kernel
theorem dQ_begin_12 : decode bQ_begin 12 = .ok (.getfield 37, 3) := by decide +kernel
theorem dQ_begin_15 : decode bQ_begin 15 = .ok (.iload_n 1, 1) := by decide +kernel
theorem dQ_begin_16 : decode bQ_begin 16 = .ok (.iload_n 1, 1) := by decide +kernel
theorem dQ_begin_17 : decode bQ_begin 17 = .ok (.sipush 704, 3) := by decide +kernel
theorem dQ_begin_20 : decode bQ_begin 20 = .ok (.if_icmp .ne 9, 3) := by decide +kernel
theorem dQ_begin_23 : decode bQ_begin 23 = .ok (.sipush 255, 3) := by decide +kernel
theorem dQ_begin_26 : decode bQ_begin 26 = .ok (.goto 4, 3) := by decide +kernel
theorem dQ_begin_29 : decode bQ_begin 29 = .ok (.iconst 0, 1) := by decide +kernel
theorem dQ_begin_30 : decode bQ_begin 30 = .ok (.iastore, 1) := by decide +kernel
theorem dQ_begin_31 : decode bQ_begin 31 = .ok (.iinc 1 1, 3) := by decide +kernel
theorem dQ_begin_34 : decode bQ_begin 34 = .ok (.goto (-30), 3) := by decide +kernel
theorem dQ_begin_37 : decode bQ_begin 37 = .ok (.iconst 0, 1) := by decide +kernel
theorem dQ_begin_38 : decode bQ_begin 38 = .ok (.istore_n 1, 1) := by decide +kernel
theorem dQ_begin_39 : decode bQ_begin 39 = .ok (.iload_n 1, 1) := by decide +kernel
theorem dQ_begin_40 : decode bQ_begin 40 = .ok (.bipush 8, 2) := by decide +kernel
theorem dQ_begin_42 : decode bQ_begin 42 = .ok (.if_icmp .ge 16, 3) := by decide +kernel
theorem dQ_begin_45 : decode bQ_begin 45 = .ok (.aload_n 0, 1) := by decide +kernel
theorem dQ_begin_46 : decode bQ_begin 46 = .ok (.getfield 40, 3) := by decide +kernel
theorem dQ_begin_49 : decode bQ_begin 49 = .ok (.iload_n 1, 1) := by decide +kernel
theorem dQ_begin_50 : decode bQ_begin 50 = .ok (.iconst 0, 1) := by decide +kernel
theorem dQ_begin_51 : decode bQ_begin 51 = .ok (.iastore, 1) := by decide +kernel
theorem dQ_begin_52 : decode bQ_begin 52 = .ok (.iinc 1 1, 3) := by decide +kernel
theorem dQ_begin_55 : decode bQ_begin 55 = .ok (.goto (-16), 3) := by decide +kernel
theorem dQ_begin_58 : decode bQ_begin 58 = .ok (.aload_n 0, 1) := by decide +kernel
theorem dQ_begin_59 : decode bQ_begin 59 = .ok (.sipush 240, 3) := by decide +kernel
theorem dQ_begin_62 : decode bQ_begin 62 = .ok (.putfield 53, 3) := by decide +kernel
theorem dQ_begin_65 : decode bQ_begin 65 = .ok (.aload_n 0, 1) := by decide +kernel
theorem dQ_begin_66 : decode bQ_begin 66 = .ok (.iconst 0, 1) := by decide +kernel
theorem dQ_begin_67 : decode bQ_begin 67 = .ok (.putfield 56, 3) := by decide +kernel
theorem dQ_begin_70 : decode bQ_begin 70 = .ok (.aload_n 0, 1) := by decide +kernel
theorem dQ_begin_71 : decode bQ_begin 71 = .ok (.iconst 0, 1) := by decide +kernel
theorem dQ_begin_72 : decode bQ_begin 72 = .ok (.putfield 59, 3) := by decide +kernel
theorem dQ_begin_75 : decode bQ_begin 75 = .ok (.aload_n 0, 1) := by decide +kernel
theorem dQ_begin_76 : decode bQ_begin 76 = .ok (.iconst 0, 1) := by decide +kernel
theorem dQ_begin_77 : decode bQ_begin 77 = .ok (.putfield 63, 3) := by decide +kernel
theorem dQ_begin_80 : decode bQ_begin 80 = .ok (.aload_n 0, 1) := by decide +kernel
theorem dQ_begin_81 : decode bQ_begin 81 = .ok (.iconst 0, 1) := by decide +kernel
theorem dQ_begin_82 : decode bQ_begin 82 = .ok (.putfield 66, 3) := by decide +kernel
theorem dQ_begin_85 : decode bQ_begin 85 = .ok (.aload_n 0, 1) := by decide +kernel
theorem dQ_begin_86 : decode bQ_begin 86 = .ok (.iconst 0, 1) := by decide +kernel
theorem dQ_begin_87 : decode bQ_begin 87 = .ok (.putfield 69, 3) := by decide +kernel
theorem dQ_begin_90 : decode bQ_begin 90 = .ok (.aload_n 0, 1) := by decide +kernel
theorem dQ_begin_91 : decode bQ_begin 91 = .ok (.iconst 0, 1) := by decide +kernel
theorem dQ_begin_92 : decode bQ_begin 92 = .ok (.putfield 72, 3) := by decide +kernel
theorem dQ_begin_95 : decode bQ_begin 95 = .ok (.aload_n 0, 1) := by decide +kernel
theorem dQ_begin_96 : decode bQ_begin 96 = .ok (.iconst 0, 1) := by decide +kernel
theorem dQ_begin_97 : decode bQ_begin 97 = .ok (.putfield 75, 3) := by decide +kernel
theorem dQ_begin_100 : decode bQ_begin 100 = .ok (.aload_n 0, 1) := by decide +kernel
theorem dQ_begin_101 : decode bQ_begin 101 = .ok (.iconst 0, 1) := by decide +kernel
theorem dQ_begin_102 : decode bQ_begin 102 = .ok (.putfield 78, 3) := by decide +kernel
theorem dQ_begin_105 : decode bQ_begin 105 = .ok (.aload_n 0, 1) := by decide +kernel
theorem dQ_begin_106 : decode bQ_begin 106 = .ok (.iconst 1, 1) := by decide +kernel
theorem dQ_begin_107 : decode bQ_begin 107 = .ok (.putfield 81, 3) := by decide +kernel
theorem dQ_begin_110 : decode bQ_begin 110 = .ok (.aload_n 0, 1) := by decide +kernel
theorem dQ_begin_111 : decode bQ_begin 111 = .ok (.iconst 0, 1) := by decide +kernel
theorem dQ_begin_112 : decode bQ_begin 112 = .ok (.putfield 84, 3) := by decide +kernel
theorem dQ_begin_115 : decode bQ_begin 115 = .ok (.aload_n 0, 1) := by decide +kernel
theorem dQ_begin_116 : decode bQ_begin 116 = .ok (.iconst 0, 1) := by decide +kernel
theorem dQ_begin_117 : decode bQ_begin 117 = .ok (.putfield 87, 3) := by decide +kernel
theorem dQ_begin_120 : decode bQ_begin 120 = .ok (.aload_n 0, 1) := by decide +kernel
theorem dQ_begin_121 : decode bQ_begin 121 = .ok (.iconst 0, 1) := by decide +kernel
theorem dQ_begin_122 : decode bQ_begin 122 = .ok (.putfield 90, 3) := by decide +kernel
theorem dQ_begin_125 : decode bQ_begin 125 = .ok (.aload_n 0, 1) := by decide +kernel
theorem dQ_begin_126 : decode bQ_begin 126 = .ok (.iconst 0, 1) := by decide +kernel
theorem dQ_begin_127 : decode bQ_begin 127 = .ok (.putfield 93, 3) := by decide +kernel
theorem dQ_begin_130 : decode bQ_begin 130 = .ok (.return_, 1) := by decide +kernel
theorem dQ_section_0 : decode bQ_section 0 = .ok (.aload_n 0, 1) := by decide +kernel
theorem dQ_section_1 : decode bQ_section 1 = .ok (.iload_n 1, 1) := by decide +kernel
theorem dQ_section_2 : decode bQ_section 2 = .ok (.iconst (-1), 1) := by decide +kernel
theorem dQ_section_3 : decode bQ_section 3 = .ok (.bipush 7, 2) := by decide +kernel
theorem dQ_section_5 : decode bQ_section 5 = .ok (.invokestatic 96, 3) := by decide +kernel
theorem dQ_section_8 : decode bQ_section 8 = .ok (.ifCond .eq 7, 3) := by decide +kernel
theorem dQ_section_11 : decode bQ_section 11 = .ok (.iconst 1, 1) := by decide +kernel
theorem dQ_section_12 : decode bQ_section 12 = .ok (.goto 17, 3) := by decide +kernel
theorem dQ_section_15 : decode bQ_section 15 = .ok (.aload_n 0, 1) := by decide +kernel
theorem dQ_section_16 : decode bQ_section 16 = .ok (.getfield 100, 3) := by decide +kernel
theorem dQ_section_19 : decode bQ_section 19 = .ok (.bipush 10, 2) := by decide +kernel
theorem dQ_section_21 : decode bQ_section 21 = .ok (.if_icmp .ne 7, 3) := by decide +kernel
theorem dQ_section_24 : decode bQ_section 24 = .ok (.iconst 2, 1) := by decide +kernel
theorem dQ_section_25 : decode bQ_section 25 = .ok (.goto 4, 3) := by decide +kernel
theorem dQ_section_28 : decode bQ_section 28 = .ok (.iconst 0, 1) := by decide +kernel
theorem dQ_section_29 : decode bQ_section 29 = .ok (.putfield 49, 3) := by decide +kernel
theorem dQ_section_32 : decode bQ_section 32 = .ok (.aload_n 0, 1) := by decide +kernel
theorem dQ_section_33 : decode bQ_section 33 = .ok (.getfield 49, 3) := by decide +kernel
theorem dQ_section_36 : decode bQ_section 36 = .ok (.ifCond .le 5, 3) := by decide +kernel
theorem dQ_section_39 : decode bQ_section 39 = .ok (.iconst 0, 1) := by decide +kernel
theorem dQ_section_40 : decode bQ_section 40 = .ok (.ireturn, 1) := by decide +kernel
theorem dQ_section_41 : decode bQ_section 41 = .ok (.aload_n 0, 1) := by decide +kernel
theorem dQ_section_42 : decode bQ_section 42 = .ok (.getfield 7, 3) := by decide +kernel
theorem dQ_section_45 : decode bQ_section 45 = .ok (.aload_n 0, 1) := by decide +kernel
theorem dQ_section_46 : decode bQ_section 46 = .ok (.getfield 100, 3) := by decide +kernel
theorem dQ_section_49 : decode bQ_section 49 = .ok (.iload_n 1, 1) := by decide +kernel
theorem dQ_section_50 : decode bQ_section 50 = .ok (.iastore, 1) := by decide +kernel
theorem dQ_section_51 : decode bQ_section 51 = .ok (.aload_n 0, 1) := by decide +kernel
theorem dQ_section_52 : decode bQ_section 52 = .ok (.getfield 13, 3) := by decide +kernel
theorem dQ_section_55 : decode bQ_section 55 = .ok (.aload_n 0, 1) := by decide +kernel
theorem dQ_section_56 : decode bQ_section 56 = .ok (.getfield 100, 3) := by decide +kernel
theorem dQ_section_59 : decode bQ_section 59 = .ok (.iconst 0, 1) := by decide +kernel
theorem dQ_section_60 : decode bQ_section 60 = .ok (.iastore, 1) := by decide +kernel
theorem dQ_section_61 : decode bQ_section 61 = .ok (.aload_n 0, 1) := by decide +kernel
theorem dQ_section_62 : decode bQ_section 62 = .ok (.dup, 1) := by decide +kernel
theorem dQ_section_63 : decode bQ_section 63 = .ok (.getfield 100, 3) := by decide +kernel
theorem dQ_section_66 : decode bQ_section 66 = .ok (.iconst 1, 1) := by decide +kernel
theorem dQ_section_67 : decode bQ_section 67 = .ok (.iadd, 1) := by decide +kernel
theorem dQ_section_68 : decode bQ_section 68 = .ok (.putfield 100, 3) := by decide +kernel
theorem dQ_section_71 : decode bQ_section 71 = .ok (.aload_n 0, 1) := by decide +kernel
theorem dQ_section_72 : decode bQ_section 72 = .ok (.getfield 100, 3) := by decide +kernel
theorem dQ_section_75 : decode bQ_section 75 = .ok (.iconst 1, 1) := by decide +kernel
theorem dQ_section_76 : decode bQ_section 76 = .ok (.isub, 1) := by decide +kernel
theorem dQ_section_77 : decode bQ_section 77 = .ok (.ireturn, 1) := by decide +kernel
theorem dQ_room_0 : decode bQ_room 0 = .ok (.aload_n 0, 1) := by decide +kernel
theorem dQ_room_1 : decode bQ_room 1 = .ok (.getfield 100, 3) := by decide +kernel
theorem dQ_room_4 : decode bQ_room 4 = .ok (.ifCond .le 25, 3) := by decide +kernel
theorem dQ_room_7 : decode bQ_room 7 = .ok (.aload_n 0, 1) := by decide +kernel
theorem dQ_room_8 : decode bQ_room 8 = .ok (.getfield 13, 3) := by decide +kernel
theorem dQ_room_11 : decode bQ_room 11 = .ok (.aload_n 0, 1) := by decide +kernel
theorem dQ_room_12 : decode bQ_room 12 = .ok (.getfield 100, 3) := by decide +kernel
theorem dQ_room_15 : decode bQ_room 15 = .ok (.iconst 1, 1) := by decide +kernel
theorem dQ_room_16 : decode bQ_room 16 = .ok (.isub, 1) := by decide +kernel
theorem dQ_room_17 : decode bQ_room 17 = .ok (.iaload, 1) := by decide +kernel
theorem dQ_room_18 : decode bQ_room 18 = .ok (.iload_n 1, 1) := by decide +kernel
theorem dQ_room_19 : decode bQ_room 19 = .ok (.iadd, 1) := by decide +kernel
theorem dQ_room_20 : decode bQ_room 20 = .ok (.bipush 48, 2) := by decide +kernel
theorem dQ_room_22 : decode bQ_room 22 = .ok (.if_icmp .gt 7, 3) := by decide +kernel
theorem dQ_room_25 : decode bQ_room 25 = .ok (.iconst 1, 1) := by decide +kernel
theorem dQ_room_26 : decode bQ_room 26 = .ok (.goto 4, 3) := by decide +kernel
theorem dQ_room_29 : decode bQ_room 29 = .ok (.iconst 0, 1) := by decide +kernel
theorem dQ_room_30 : decode bQ_room 30 = .ok (.ireturn, 1) := by decide +kernel
theorem dQ_append_0 : decode bQ_append 0 = .ok (.aload_n 0, 1) := by decide +kernel
theorem dQ_append_1 : decode bQ_append 1 = .ok (.getfield 100, 3) := by decide +kernel
theorem dQ_append_4 : decode bQ_append 4 = .ok (.iconst 1, 1) := by decide +kernel
theorem dQ_append_5 : decode bQ_append 5 = .ok (.isub, 1) := by decide +kernel
theorem dQ_append_6 : decode bQ_append 6 = .ok (.istore_n 3, 1) := by decide +kernel
theorem dQ_append_7 : decode bQ_append 7 = .ok (.aload_n 0, 1) := by decide +kernel
theorem dQ_append_8 : decode bQ_append 8 = .ok (.getfield 19, 3) := by decide +kernel
theorem dQ_append_11 : decode bQ_append 11 = .ok (.bipush 48, 2) := by decide +kernel
theorem dQ_append_13 : decode bQ_append 13 = .ok (.iload_n 3, 1) := by decide +kernel
theorem dQ_append_14 : decode bQ_append 14 = .ok (.imul, 1) := by decide +kernel
theorem dQ_append_15 : decode bQ_append 15 = .ok (.aload_n 0, 1) := by decide +kernel
theorem dQ_append_16 : decode bQ_append 16 = .ok (.getfield 13, 3) := by decide +kernel
theorem dQ_append_19 : decode bQ_append 19 = .ok (.iload_n 3, 1) := by decide +kernel
theorem dQ_append_20 : decode bQ_append 20 = .ok (.iaload, 1) := by decide +kernel
theorem dQ_append_21 : decode bQ_append 21 = .ok (.iadd, 1) := by decide +kernel
theorem dQ_append_22 : decode bQ_append 22 = .ok (.iload_n 1, 1) := by decide +kernel
theorem dQ_append_23 : decode bQ_append 23 = .ok (.iastore, 1) := by decide +kernel
theorem dQ_append_24 : decode bQ_append 24 = .ok (.aload_n 0, 1) := by decide +kernel
theorem dQ_append_25 : decode bQ_append 25 = .ok (.getfield 16, 3) := by decide +kernel
theorem dQ_append_28 : decode bQ_append 28 = .ok (.bipush 48, 2) := by decide +kernel
theorem dQ_append_30 : decode bQ_append 30 = .ok (.iload_n 3, 1) := by decide +kernel
theorem dQ_append_31 : decode bQ_append 31 = .ok (.imul, 1) := by decide +kernel
theorem dQ_append_32 : decode bQ_append 32 = .ok (.aload_n 0, 1) := by decide +kernel
theorem dQ_append_33 : decode bQ_append 33 = .ok (.getfield 13, 3) := by decide +kernel
theorem dQ_append_36 : decode bQ_append 36 = .ok (.iload_n 3, 1) := by decide +kernel
theorem dQ_append_37 : decode bQ_append 37 = .ok (.iaload, 1) := by decide +kernel
theorem dQ_append_38 : decode bQ_append 38 = .ok (.iadd, 1) := by decide +kernel
theorem dQ_append_39 : decode bQ_append 39 = .ok (.iload_n 2, 1) := by decide +kernel
theorem dQ_append_40 : decode bQ_append 40 = .ok (.sipush 255, 3) := by decide +kernel
theorem dQ_append_43 : decode bQ_append 43 = .ok (.iand, 1) := by decide +kernel
theorem dQ_append_44 : decode bQ_append 44 = .ok (.iastore, 1) := by decide +kernel
theorem dQ_append_45 : decode bQ_append 45 = .ok (.aload_n 0, 1) := by decide +kernel
theorem dQ_append_46 : decode bQ_append 46 = .ok (.getfield 13, 3) := by decide +kernel
theorem dQ_append_49 : decode bQ_append 49 = .ok (.iload_n 3, 1) := by decide +kernel
theorem dQ_append_50 : decode bQ_append 50 = .ok (.dup2, 1) := by decide +kernel
theorem dQ_append_51 : decode bQ_append 51 = .ok (.iaload, 1) := by decide +kernel
theorem dQ_append_52 : decode bQ_append 52 = .ok (.iconst 1, 1) := by decide +kernel
theorem dQ_append_53 : decode bQ_append 53 = .ok (.iadd, 1) := by decide +kernel
theorem dQ_append_54 : decode bQ_append 54 = .ok (.iastore, 1) := by decide +kernel
theorem dQ_append_55 : decode bQ_append 55 = .ok (.return_, 1) := by decide +kernel
theorem dQ_bytes_0 : decode bQ_bytes 0 = .ok (.aload_n 0, 1) := by decide +kernel
theorem dQ_bytes_1 : decode bQ_bytes 1 = .ok (.iload_n 2, 1) := by decide +kernel
theorem dQ_bytes_2 : decode bQ_bytes 2 = .ok (.iconst 1, 1) := by decide +kernel
theorem dQ_bytes_3 : decode bQ_bytes 3 = .ok (.iconst 4, 1) := by decide +kernel
theorem dQ_bytes_4 : decode bQ_bytes 4 = .ok (.invokestatic 96, 3) := by decide +kernel
theorem dQ_bytes_7 : decode bQ_bytes 7 = .ok (.ifCond .eq 7, 3) := by decide +kernel
theorem dQ_bytes_10 : decode bQ_bytes 10 = .ok (.iconst 1, 1) := by decide +kernel
theorem dQ_bytes_11 : decode bQ_bytes 11 = .ok (.goto 16, 3) := by decide +kernel
theorem dQ_bytes_14 : decode bQ_bytes 14 = .ok (.aload_n 0, 1) := by decide +kernel
theorem dQ_bytes_15 : decode bQ_bytes 15 = .ok (.iload_n 2, 1) := by decide +kernel
theorem dQ_bytes_16 : decode bQ_bytes 16 = .ok (.invokevirtual 103, 3) := by decide +kernel
theorem dQ_bytes_19 : decode bQ_bytes 19 = .ok (.ifCond .eq 7, 3) := by decide +kernel
theorem dQ_bytes_22 : decode bQ_bytes 22 = .ok (.iconst 0, 1) := by decide +kernel
theorem dQ_bytes_23 : decode bQ_bytes 23 = .ok (.goto 4, 3) := by decide +kernel
theorem dQ_bytes_26 : decode bQ_bytes 26 = .ok (.iconst 2, 1) := by decide +kernel
theorem dQ_bytes_27 : decode bQ_bytes 27 = .ok (.putfield 49, 3) := by decide +kernel
theorem dQ_bytes_30 : decode bQ_bytes 30 = .ok (.iload_n 2, 1) := by decide +kernel
theorem dQ_bytes_31 : decode bQ_bytes 31 = .ok (.iconst 1, 1) := by decide +kernel
theorem dQ_bytes_32 : decode bQ_bytes 32 = .ok (.isub, 1) := by decide +kernel
theorem dQ_bytes_33 : decode bQ_bytes 33 = .ok (.istore_n 3, 1) := by decide +kernel
theorem dQ_bytes_34 : decode bQ_bytes 34 = .ok (.iload_n 3, 1) := by decide +kernel
theorem dQ_bytes_35 : decode bQ_bytes 35 = .ok (.ifCond .lt 27, 3) := by decide +kernel
theorem dQ_bytes_38 : decode bQ_bytes 38 = .ok (.aload_n 0, 1) := by decide +kernel
theorem dQ_bytes_39 : decode bQ_bytes 39 = .ok (.getfield 49, 3) := by decide +kernel
theorem dQ_bytes_42 : decode bQ_bytes 42 = .ok (.ifCond .ne 20, 3) := by decide +kernel
theorem dQ_bytes_45 : decode bQ_bytes 45 = .ok (.aload_n 0, 1) := by decide +kernel
theorem dQ_bytes_46 : decode bQ_bytes 46 = .ok (.iconst 0, 1) := by decide +kernel
theorem dQ_bytes_47 : decode bQ_bytes 47 = .ok (.iload_n 1, 1) := by decide +kernel
theorem dQ_bytes_48 : decode bQ_bytes 48 = .ok (.bipush 8, 2) := by decide +kernel
theorem dQ_bytes_50 : decode bQ_bytes 50 = .ok (.iload_n 3, 1) := by decide +kernel
theorem dQ_bytes_51 : decode bQ_bytes 51 = .ok (.imul, 1) := by decide +kernel
theorem dQ_bytes_52 : decode bQ_bytes 52 = .ok (.ishr, 1) := by decide +kernel
theorem dQ_bytes_53 : decode bQ_bytes 53 = .ok (.invokevirtual 107, 3) := by decide +kernel
theorem dQ_bytes_56 : decode bQ_bytes 56 = .ok (.iinc 3 (-1), 3) := by decide +kernel
theorem dQ_bytes_59 : decode bQ_bytes 59 = .ok (.goto (-25), 3) := by decide +kernel
theorem dQ_bytes_62 : decode bQ_bytes 62 = .ok (.return_, 1) := by decide +kernel
theorem dQ_mended_0 : decode bQ_mended 0 = .ok (.aload_n 0, 1) := by decide +kernel
theorem dQ_mended_1 : decode bQ_mended 1 = .ok (.iload_n 1, 1) := by decide +kernel
theorem dQ_mended_2 : decode bQ_mended 2 = .ok (.iconst 1, 1) := by decide +kernel
theorem dQ_mended_3 : decode bQ_mended 3 = .ok (.iconst 2, 1) := by decide +kernel
theorem dQ_mended_4 : decode bQ_mended 4 = .ok (.invokestatic 96, 3) := by decide +kernel
theorem dQ_mended_7 : decode bQ_mended 7 = .ok (.ifCond .ne 13, 3) := by decide +kernel
theorem dQ_mended_10 : decode bQ_mended 10 = .ok (.iload_n 2, 1) := by decide +kernel
theorem dQ_mended_11 : decode bQ_mended 11 = .ok (.iconst 0, 1) := by decide +kernel
theorem dQ_mended_12 : decode bQ_mended 12 = .ok (.bipush 9, 2) := by decide +kernel
theorem dQ_mended_14 : decode bQ_mended 14 = .ok (.invokestatic 96, 3) := by decide +kernel
theorem dQ_mended_17 : decode bQ_mended 17 = .ok (.ifCond .eq 7, 3) := by decide +kernel
theorem dQ_mended_20 : decode bQ_mended 20 = .ok (.iconst 1, 1) := by decide +kernel
theorem dQ_mended_21 : decode bQ_mended 21 = .ok (.goto 16, 3) := by decide +kernel
theorem dQ_mended_24 : decode bQ_mended 24 = .ok (.aload_n 0, 1) := by decide +kernel
theorem dQ_mended_25 : decode bQ_mended 25 = .ok (.iconst 1, 1) := by decide +kernel
theorem dQ_mended_26 : decode bQ_mended 26 = .ok (.invokevirtual 103, 3) := by decide +kernel
theorem dQ_mended_29 : decode bQ_mended 29 = .ok (.ifCond .eq 7, 3) := by decide +kernel
theorem dQ_mended_32 : decode bQ_mended 32 = .ok (.iconst 0, 1) := by decide +kernel
theorem dQ_mended_33 : decode bQ_mended 33 = .ok (.goto 4, 3) := by decide +kernel
theorem dQ_mended_36 : decode bQ_mended 36 = .ok (.iconst 2, 1) := by decide +kernel
theorem dQ_mended_37 : decode bQ_mended 37 = .ok (.putfield 49, 3) := by decide +kernel
theorem dQ_mended_40 : decode bQ_mended 40 = .ok (.aload_n 0, 1) := by decide +kernel
theorem dQ_mended_41 : decode bQ_mended 41 = .ok (.getfield 49, 3) := by decide +kernel
theorem dQ_mended_44 : decode bQ_mended 44 = .ok (.ifCond .ne 9, 3) := by decide +kernel
theorem dQ_mended_47 : decode bQ_mended 47 = .ok (.aload_n 0, 1) := by decide +kernel
theorem dQ_mended_48 : decode bQ_mended 48 = .ok (.iload_n 1, 1) := by decide +kernel
theorem dQ_mended_49 : decode bQ_mended 49 = .ok (.iload_n 2, 1) := by decide +kernel
theorem dQ_mended_50 : decode bQ_mended 50 = .ok (.invokevirtual 107, 3) := by decide +kernel
theorem dQ_mended_53 : decode bQ_mended 53 = .ok (.return_, 1) := by decide +kernel
theorem dQ_clear_0 : decode bQ_clear 0 = .ok (.aload_n 0, 1) := by decide +kernel
theorem dQ_clear_1 : decode bQ_clear 1 = .ok (.iconst 0, 1) := by decide +kernel
theorem dQ_clear_2 : decode bQ_clear 2 = .ok (.putfield 49, 3) := by decide +kernel
theorem dQ_clear_5 : decode bQ_clear 5 = .ok (.aload_n 0, 1) := by decide +kernel
theorem dQ_clear_6 : decode bQ_clear 6 = .ok (.iconst 0, 1) := by decide +kernel
theorem dQ_clear_7 : decode bQ_clear 7 = .ok (.putfield 100, 3) := by decide +kernel
theorem dQ_clear_10 : decode bQ_clear 10 = .ok (.return_, 1) := by decide +kernel
theorem dQ_put_0 : decode bQ_put 0 = .ok (.iload_n 2, 1) := by decide +kernel
theorem dQ_put_1 : decode bQ_put 1 = .ok (.iload_n 3, 1) := by decide +kernel
theorem dQ_put_2 : decode bQ_put 2 = .ok (.if_icmp .ge 21, 3) := by decide +kernel
theorem dQ_put_5 : decode bQ_put 5 = .ok (.aload_n 0, 1) := by decide +kernel
theorem dQ_put_6 : decode bQ_put 6 = .ok (.getfield 28, 3) := by decide +kernel
theorem dQ_put_9 : decode bQ_put 9 = .ok (.iload_n 2, 1) := by decide +kernel
theorem dQ_put_10 : decode bQ_put 10 = .ok (.iaload, 1) := by decide +kernel
theorem dQ_put_11 : decode bQ_put 11 = .ok (.aload_n 0, 1) := by decide +kernel
theorem dQ_put_12 : decode bQ_put 12 = .ok (.getfield 13, 3) := by decide +kernel
theorem dQ_put_15 : decode bQ_put 15 = .ok (.iload_n 1, 1) := by decide +kernel
theorem dQ_put_16 : decode bQ_put 16 = .ok (.iaload, 1) := by decide +kernel
theorem dQ_put_17 : decode bQ_put 17 = .ok (.iadd, 1) := by decide +kernel
theorem dQ_put_18 : decode bQ_put 18 = .ok (.bipush 64, 2) := by decide +kernel
theorem dQ_put_20 : decode bQ_put 20 = .ok (.if_icmp .le 5, 3) := by decide +kernel
theorem dQ_put_23 : decode bQ_put 23 = .ok (.iconst 0, 1) := by decide +kernel
theorem dQ_put_24 : decode bQ_put 24 = .ok (.ireturn, 1) := by decide +kernel
theorem dQ_put_25 : decode bQ_put 25 = .ok (.aload_n 0, 1) := by decide +kernel
theorem dQ_put_26 : decode bQ_put 26 = .ok (.getfield 22, 3) := by decide +kernel
theorem dQ_put_29 : decode bQ_put 29 = .ok (.iload_n 1, 1) := by decide +kernel
theorem dQ_put_30 : decode bQ_put 30 = .ok (.iload_n 2, 1) := by decide +kernel
theorem dQ_put_31 : decode bQ_put 31 = .ok (.iastore, 1) := by decide +kernel
theorem dQ_put_32 : decode bQ_put 32 = .ok (.aload_n 0, 1) := by decide +kernel
theorem dQ_put_33 : decode bQ_put 33 = .ok (.getfield 25, 3) := by decide +kernel
theorem dQ_put_36 : decode bQ_put 36 = .ok (.iload_n 1, 1) := by decide +kernel
theorem dQ_put_37 : decode bQ_put 37 = .ok (.aload_n 0, 1) := by decide +kernel
theorem dQ_put_38 : decode bQ_put 38 = .ok (.getfield 28, 3) := by decide +kernel
theorem dQ_put_41 : decode bQ_put 41 = .ok (.iload_n 2, 1) := by decide +kernel
theorem dQ_put_42 : decode bQ_put 42 = .ok (.iaload, 1) := by decide +kernel
theorem dQ_put_43 : decode bQ_put 43 = .ok (.iload_n 2, 1) := by decide +kernel
theorem dQ_put_44 : decode bQ_put 44 = .ok (.ifCond .le 8, 3) := by decide +kernel
theorem dQ_put_47 : decode bQ_put 47 = .ok (.bipush 64, 2) := by decide +kernel
theorem dQ_put_49 : decode bQ_put 49 = .ok (.goto 4, 3) := by decide +kernel
theorem dQ_put_52 : decode bQ_put 52 = .ok (.iconst 0, 1) := by decide +kernel
theorem dQ_put_53 : decode bQ_put 53 = .ok (.iadd, 1) := by decide +kernel
theorem dQ_put_54 : decode bQ_put 54 = .ok (.iastore, 1) := by decide +kernel
theorem dQ_put_55 : decode bQ_put 55 = .ok (.aload_n 0, 1) := by decide +kernel
theorem dQ_put_56 : decode bQ_put 56 = .ok (.getfield 28, 3) := by decide +kernel
theorem dQ_put_59 : decode bQ_put 59 = .ok (.iload_n 2, 1) := by decide +kernel
theorem dQ_put_60 : decode bQ_put 60 = .ok (.dup2, 1) := by decide +kernel
theorem dQ_put_61 : decode bQ_put 61 = .ok (.iaload, 1) := by decide +kernel
theorem dQ_put_62 : decode bQ_put 62 = .ok (.aload_n 0, 1) := by decide +kernel
theorem dQ_put_63 : decode bQ_put 63 = .ok (.getfield 13, 3) := by decide +kernel
theorem dQ_put_66 : decode bQ_put 66 = .ok (.iload_n 1, 1) := by decide +kernel
theorem dQ_put_67 : decode bQ_put 67 = .ok (.iaload, 1) := by decide +kernel
theorem dQ_put_68 : decode bQ_put 68 = .ok (.iadd, 1) := by decide +kernel
theorem dQ_put_69 : decode bQ_put 69 = .ok (.iastore, 1) := by decide +kernel
theorem dQ_put_70 : decode bQ_put 70 = .ok (.iconst 1, 1) := by decide +kernel
theorem dQ_put_71 : decode bQ_put 71 = .ok (.ireturn, 1) := by decide +kernel
theorem dQ_pack_0 : decode bQ_pack 0 = .ok (.iconst 0, 1) := by decide +kernel
theorem dQ_pack_1 : decode bQ_pack 1 = .ok (.istore_n 2, 1) := by decide +kernel
theorem dQ_pack_2 : decode bQ_pack 2 = .ok (.iload_n 2, 1) := by decide +kernel
theorem dQ_pack_3 : decode bQ_pack 3 = .ok (.bipush 8, 2) := by decide +kernel
theorem dQ_pack_5 : decode bQ_pack 5 = .ok (.if_icmp .ge 25, 3) := by decide +kernel
theorem dQ_pack_8 : decode bQ_pack 8 = .ok (.aload_n 0, 1) := by decide +kernel
theorem dQ_pack_9 : decode bQ_pack 9 = .ok (.getfield 28, 3) := by decide +kernel
theorem dQ_pack_12 : decode bQ_pack 12 = .ok (.iload_n 2, 1) := by decide +kernel
theorem dQ_pack_13 : decode bQ_pack 13 = .ok (.iload_n 2, 1) := by decide +kernel
theorem dQ_pack_14 : decode bQ_pack 14 = .ok (.ifCond .ne 8, 3) := by decide +kernel
theorem dQ_pack_17 : decode bQ_pack 17 = .ok (.bipush 32, 2) := by decide +kernel
theorem dQ_pack_19 : decode bQ_pack 19 = .ok (.goto 4, 3) := by decide +kernel
theorem dQ_pack_22 : decode bQ_pack 22 = .ok (.iconst 0, 1) := by decide +kernel
theorem dQ_pack_23 : decode bQ_pack 23 = .ok (.iastore, 1) := by decide +kernel
theorem dQ_pack_24 : decode bQ_pack 24 = .ok (.iinc 2 1, 3) := by decide +kernel
theorem dQ_pack_27 : decode bQ_pack 27 = .ok (.goto (-25), 3) := by decide +kernel
theorem dQ_pack_30 : decode bQ_pack 30 = .ok (.iconst 0, 1) := by decide +kernel
theorem dQ_pack_31 : decode bQ_pack 31 = .ok (.istore_n 2, 1) := by decide +kernel
theorem dQ_pack_32 : decode bQ_pack 32 = .ok (.iload_n 2, 1) := by decide +kernel
theorem dQ_pack_33 : decode bQ_pack 33 = .ok (.aload_n 0, 1) := by decide +kernel
theorem dQ_pack_34 : decode bQ_pack 34 = .ok (.getfield 100, 3) := by decide +kernel
theorem dQ_pack_37 : decode bQ_pack 37 = .ok (.if_icmp .ge 36, 3) := by decide +kernel
theorem dQ_pack_40 : decode bQ_pack 40 = .ok (.aload_n 0, 1) := by decide +kernel
theorem dQ_pack_41 : decode bQ_pack 41 = .ok (.getfield 7, 3) := by decide +kernel
theorem dQ_pack_44 : decode bQ_pack 44 = .ok (.iload_n 2, 1) := by decide +kernel
theorem dQ_pack_45 : decode bQ_pack 45 = .ok (.iaload, 1) := by decide +kernel
theorem dQ_pack_46 : decode bQ_pack 46 = .ok (.iconst (-1), 1) := by decide +kernel
theorem dQ_pack_47 : decode bQ_pack 47 = .ok (.if_icmp .eq 20, 3) := by decide +kernel
theorem dQ_pack_50 : decode bQ_pack 50 = .ok (.aload_n 0, 1) := by decide +kernel
theorem dQ_pack_51 : decode bQ_pack 51 = .ok (.iload_n 2, 1) := by decide +kernel
theorem dQ_pack_52 : decode bQ_pack 52 = .ok (.aload_n 0, 1) := by decide +kernel
theorem dQ_pack_53 : decode bQ_pack 53 = .ok (.getfield 7, 3) := by decide +kernel
theorem dQ_pack_56 : decode bQ_pack 56 = .ok (.iload_n 2, 1) := by decide +kernel
theorem dQ_pack_57 : decode bQ_pack 57 = .ok (.iaload, 1) := by decide +kernel
theorem dQ_pack_58 : decode bQ_pack 58 = .ok (.iload_n 1, 1) := by decide +kernel
theorem dQ_pack_59 : decode bQ_pack 59 = .ok (.invokevirtual 111, 3) := by decide +kernel
theorem dQ_pack_62 : decode bQ_pack 62 = .ok (.ifCond .ne 5, 3) := by decide +kernel
theorem dQ_pack_65 : decode bQ_pack 65 = .ok (.iconst 0, 1) := by decide +kernel
theorem dQ_pack_66 : decode bQ_pack 66 = .ok (.ireturn, 1) := by decide +kernel
theorem dQ_pack_67 : decode bQ_pack 67 = .ok (.iinc 2 1, 3) := by decide +kernel
theorem dQ_pack_70 : decode bQ_pack 70 = .ok (.goto (-38), 3) := by decide +kernel
theorem dQ_pack_73 : decode bQ_pack 73 = .ok (.bipush 48, 2) := by decide +kernel
theorem dQ_pack_75 : decode bQ_pack 75 = .ok (.istore_n 2, 1) := by decide +kernel
theorem dQ_pack_76 : decode bQ_pack 76 = .ok (.iload_n 2, 1) := by decide +kernel
theorem dQ_pack_77 : decode bQ_pack 77 = .ok (.ifCond .lt 79, 3) := by decide +kernel
theorem dQ_pack_80 : decode bQ_pack 80 = .ok (.iconst 0, 1) := by decide +kernel
theorem dQ_pack_81 : decode bQ_pack 81 = .ok (.istore_n 3, 1) := by decide +kernel
theorem dQ_pack_82 : decode bQ_pack 82 = .ok (.iload_n 3, 1) := by decide +kernel
theorem dQ_pack_83 : decode bQ_pack 83 = .ok (.aload_n 0, 1) := by decide +kernel
theorem dQ_pack_84 : decode bQ_pack 84 = .ok (.getfield 100, 3) := by decide +kernel
theorem dQ_pack_87 : decode bQ_pack 87 = .ok (.if_icmp .ge 63, 3) := by decide +kernel
theorem dQ_pack_90 : decode bQ_pack 90 = .ok (.aload_n 0, 1) := by decide +kernel
theorem dQ_pack_91 : decode bQ_pack 91 = .ok (.getfield 7, 3) := by decide +kernel
theorem dQ_pack_94 : decode bQ_pack 94 = .ok (.iload_n 3, 1) := by decide +kernel
theorem dQ_pack_95 : decode bQ_pack 95 = .ok (.iaload, 1) := by decide +kernel
theorem dQ_pack_96 : decode bQ_pack 96 = .ok (.iconst (-1), 1) := by decide +kernel
theorem dQ_pack_97 : decode bQ_pack 97 = .ok (.if_icmp .ne 47, 3) := by decide +kernel
theorem dQ_pack_100 : decode bQ_pack 100 = .ok (.aload_n 0, 1) := by decide +kernel
theorem dQ_pack_101 : decode bQ_pack 101 = .ok (.getfield 13, 3) := by decide +kernel
theorem dQ_pack_104 : decode bQ_pack 104 = .ok (.iload_n 3, 1) := by decide +kernel
theorem dQ_pack_105 : decode bQ_pack 105 = .ok (.iaload, 1) := by decide +kernel
theorem dQ_pack_106 : decode bQ_pack 106 = .ok (.iload_n 2, 1) := by decide +kernel
theorem dQ_pack_107 : decode bQ_pack 107 = .ok (.if_icmp .ne 37, 3) := by decide +kernel
theorem dQ_pack_110 : decode bQ_pack 110 = .ok (.iconst 0, 1) := by decide +kernel
theorem dQ_pack_111 : decode bQ_pack 111 = .ok (.istore 4, 2) := by decide +kernel
theorem dQ_pack_113 : decode bQ_pack 113 = .ok (.iload 4, 2) := by decide +kernel
theorem dQ_pack_115 : decode bQ_pack 115 = .ok (.iload_n 1, 1) := by decide +kernel
theorem dQ_pack_116 : decode bQ_pack 116 = .ok (.if_icmp .ge 20, 3) := by decide +kernel
theorem dQ_pack_119 : decode bQ_pack 119 = .ok (.aload_n 0, 1) := by decide +kernel
theorem dQ_pack_120 : decode bQ_pack 120 = .ok (.iload_n 3, 1) := by decide +kernel
theorem dQ_pack_121 : decode bQ_pack 121 = .ok (.iload 4, 2) := by decide +kernel
theorem dQ_pack_123 : decode bQ_pack 123 = .ok (.iload_n 1, 1) := by decide +kernel
theorem dQ_pack_124 : decode bQ_pack 124 = .ok (.invokevirtual 111, 3) := by decide +kernel
theorem dQ_pack_127 : decode bQ_pack 127 = .ok (.ifCond .ne 9, 3) := by decide +kernel
theorem dQ_pack_130 : decode bQ_pack 130 = .ok (.iinc 4 1, 3) := by decide +kernel
theorem dQ_pack_133 : decode bQ_pack 133 = .ok (.goto (-20), 3) := by decide +kernel
theorem dQ_pack_136 : decode bQ_pack 136 = .ok (.iload 4, 2) := by decide +kernel
theorem dQ_pack_138 : decode bQ_pack 138 = .ok (.iload_n 1, 1) := by decide +kernel
theorem dQ_pack_139 : decode bQ_pack 139 = .ok (.if_icmp .ne 5, 3) := by decide +kernel
theorem dQ_pack_142 : decode bQ_pack 142 = .ok (.iconst 0, 1) := by decide +kernel
theorem dQ_pack_143 : decode bQ_pack 143 = .ok (.ireturn, 1) := by decide +kernel
theorem dQ_pack_144 : decode bQ_pack 144 = .ok (.iinc 3 1, 3) := by decide +kernel
theorem dQ_pack_147 : decode bQ_pack 147 = .ok (.goto (-65), 3) := by decide +kernel
theorem dQ_pack_150 : decode bQ_pack 150 = .ok (.iinc 2 (-1), 3) := by decide +kernel
theorem dQ_pack_153 : decode bQ_pack 153 = .ok (.goto (-77), 3) := by decide +kernel
theorem dQ_pack_156 : decode bQ_pack 156 = .ok (.iconst 1, 1) := by decide +kernel
theorem dQ_pack_157 : decode bQ_pack 157 = .ok (.ireturn, 1) := by decide +kernel
theorem dQ_allKnown_0 : decode bQ_allKnown 0 = .ok (.iconst 1, 1) := by decide +kernel
theorem dQ_allKnown_1 : decode bQ_allKnown 1 = .ok (.istore_n 1, 1) := by decide +kernel
theorem dQ_allKnown_2 : decode bQ_allKnown 2 = .ok (.iconst 0, 1) := by decide +kernel
theorem dQ_allKnown_3 : decode bQ_allKnown 3 = .ok (.istore_n 2, 1) := by decide +kernel
theorem dQ_allKnown_4 : decode bQ_allKnown 4 = .ok (.iload_n 2, 1) := by decide +kernel
theorem dQ_allKnown_5 : decode bQ_allKnown 5 = .ok (.aload_n 0, 1) := by decide +kernel
theorem dQ_allKnown_6 : decode bQ_allKnown 6 = .ok (.getfield 100, 3) := by decide +kernel
theorem dQ_allKnown_9 : decode bQ_allKnown 9 = .ok (.if_icmp .ge 67, 3) := by decide +kernel
theorem dQ_allKnown_12 : decode bQ_allKnown 12 = .ok (.bipush 48, 2) := by decide +kernel
theorem dQ_allKnown_14 : decode bQ_allKnown 14 = .ok (.iload_n 2, 1) := by decide +kernel
theorem dQ_allKnown_15 : decode bQ_allKnown 15 = .ok (.imul, 1) := by decide +kernel
theorem dQ_allKnown_16 : decode bQ_allKnown 16 = .ok (.istore_n 3, 1) := by decide +kernel
theorem dQ_allKnown_17 : decode bQ_allKnown 17 = .ok (.iload_n 3, 1) := by decide +kernel
theorem dQ_allKnown_18 : decode bQ_allKnown 18 = .ok (.bipush 48, 2) := by decide +kernel
theorem dQ_allKnown_20 : decode bQ_allKnown 20 = .ok (.iload_n 2, 1) := by decide +kernel
theorem dQ_allKnown_21 : decode bQ_allKnown 21 = .ok (.imul, 1) := by decide +kernel
theorem dQ_allKnown_22 : decode bQ_allKnown 22 = .ok (.aload_n 0, 1) := by decide +kernel
theorem dQ_allKnown_23 : decode bQ_allKnown 23 = .ok (.getfield 13, 3) := by decide +kernel
theorem dQ_allKnown_26 : decode bQ_allKnown 26 = .ok (.iload_n 2, 1) := by decide +kernel
theorem dQ_allKnown_27 : decode bQ_allKnown 27 = .ok (.iaload, 1) := by decide +kernel
theorem dQ_allKnown_28 : decode bQ_allKnown 28 = .ok (.iadd, 1) := by decide +kernel
theorem dQ_allKnown_29 : decode bQ_allKnown 29 = .ok (.if_icmp .ge 41, 3) := by decide +kernel
theorem dQ_allKnown_32 : decode bQ_allKnown 32 = .ok (.iload_n 1, 1) := by decide +kernel
theorem dQ_allKnown_33 : decode bQ_allKnown 33 = .ok (.ifCond .eq 29, 3) := by decide +kernel
theorem dQ_allKnown_36 : decode bQ_allKnown 36 = .ok (.aload_n 0, 1) := by decide +kernel
theorem dQ_allKnown_37 : decode bQ_allKnown 37 = .ok (.getfield 19, 3) := by decide +kernel
theorem dQ_allKnown_40 : decode bQ_allKnown 40 = .ok (.iload_n 3, 1) := by decide +kernel
theorem dQ_allKnown_41 : decode bQ_allKnown 41 = .ok (.iaload, 1) := by decide +kernel
theorem dQ_allKnown_42 : decode bQ_allKnown 42 = .ok (.ifCond .eq 16, 3) := by decide +kernel
theorem dQ_allKnown_45 : decode bQ_allKnown 45 = .ok (.aload_n 0, 1) := by decide +kernel
theorem dQ_allKnown_46 : decode bQ_allKnown 46 = .ok (.getfield 16, 3) := by decide +kernel
theorem dQ_allKnown_49 : decode bQ_allKnown 49 = .ok (.iload_n 3, 1) := by decide +kernel
theorem dQ_allKnown_50 : decode bQ_allKnown 50 = .ok (.iaload, 1) := by decide +kernel
theorem dQ_allKnown_51 : decode bQ_allKnown 51 = .ok (.aload_n 0, 1) := by decide +kernel
theorem dQ_allKnown_52 : decode bQ_allKnown 52 = .ok (.getfield 100, 3) := by decide +kernel
theorem dQ_allKnown_55 : decode bQ_allKnown 55 = .ok (.if_icmp .ge 7, 3) := by decide +kernel
theorem dQ_allKnown_58 : decode bQ_allKnown 58 = .ok (.iconst 1, 1) := by decide +kernel
theorem dQ_allKnown_59 : decode bQ_allKnown 59 = .ok (.goto 4, 3) := by decide +kernel
theorem dQ_allKnown_62 : decode bQ_allKnown 62 = .ok (.iconst 0, 1) := by decide +kernel
theorem dQ_allKnown_63 : decode bQ_allKnown 63 = .ok (.istore_n 1, 1) := by decide +kernel
theorem dQ_allKnown_64 : decode bQ_allKnown 64 = .ok (.iinc 3 1, 3) := by decide +kernel
theorem dQ_allKnown_67 : decode bQ_allKnown 67 = .ok (.goto (-50), 3) := by decide +kernel
theorem dQ_allKnown_70 : decode bQ_allKnown 70 = .ok (.iinc 2 1, 3) := by decide +kernel
theorem dQ_allKnown_73 : decode bQ_allKnown 73 = .ok (.goto (-69), 3) := by decide +kernel
theorem dQ_allKnown_76 : decode bQ_allKnown 76 = .ok (.iload_n 1, 1) := by decide +kernel
theorem dQ_allKnown_77 : decode bQ_allKnown 77 = .ok (.ireturn, 1) := by decide +kernel
theorem dQ_headCheck_0 : decode bQ_headCheck 0 = .ok (.iconst 0, 1) := by decide +kernel
theorem dQ_headCheck_1 : decode bQ_headCheck 1 = .ok (.istore_n 1, 1) := by decide +kernel
theorem dQ_headCheck_2 : decode bQ_headCheck 2 = .ok (.iconst 2, 1) := by decide +kernel
theorem dQ_headCheck_3 : decode bQ_headCheck 3 = .ok (.istore_n 2, 1) := by decide +kernel
theorem dQ_headCheck_4 : decode bQ_headCheck 4 = .ok (.iload_n 2, 1) := by decide +kernel
theorem dQ_headCheck_5 : decode bQ_headCheck 5 = .ok (.bipush 13, 2) := by decide +kernel
theorem dQ_headCheck_7 : decode bQ_headCheck 7 = .ok (.if_icmp .ge 20, 3) := by decide +kernel
theorem dQ_headCheck_10 : decode bQ_headCheck 10 = .ok (.iload_n 1, 1) := by decide +kernel
theorem dQ_headCheck_11 : decode bQ_headCheck 11 = .ok (.aload_n 0, 1) := by decide +kernel
theorem dQ_headCheck_12 : decode bQ_headCheck 12 = .ok (.getfield 37, 3) := by decide +kernel
theorem dQ_headCheck_15 : decode bQ_headCheck 15 = .ok (.iload_n 2, 1) := by decide +kernel
theorem dQ_headCheck_16 : decode bQ_headCheck 16 = .ok (.iaload, 1) := by decide +kernel
theorem dQ_headCheck_17 : decode bQ_headCheck 17 = .ok (.iconst 1, 1) := by decide +kernel
theorem dQ_headCheck_18 : decode bQ_headCheck 18 = .ok (.iadd, 1) := by decide +kernel
theorem dQ_headCheck_19 : decode bQ_headCheck 19 = .ok (.iadd, 1) := by decide +kernel
theorem dQ_headCheck_20 : decode bQ_headCheck 20 = .ok (.istore_n 1, 1) := by decide +kernel
theorem dQ_headCheck_21 : decode bQ_headCheck 21 = .ok (.iinc 2 1, 3) := by decide +kernel
theorem dQ_headCheck_24 : decode bQ_headCheck 24 = .ok (.goto (-20), 3) := by decide +kernel
theorem dQ_headCheck_27 : decode bQ_headCheck 27 = .ok (.iload_n 1, 1) := by decide +kernel
theorem dQ_headCheck_28 : decode bQ_headCheck 28 = .ok (.ineg, 1) := by decide +kernel
theorem dQ_headCheck_29 : decode bQ_headCheck 29 = .ok (.sipush 255, 3) := by decide +kernel
theorem dQ_headCheck_32 : decode bQ_headCheck 32 = .ok (.iand, 1) := by decide +kernel
theorem dQ_headCheck_33 : decode bQ_headCheck 33 = .ok (.ireturn, 1) := by decide +kernel
theorem dQ_imageCheck_0 : decode bQ_imageCheck 0 = .ok (.aload_n 0, 1) := by decide +kernel
theorem dQ_imageCheck_1 : decode bQ_imageCheck 1 = .ok (.getfield 37, 3) := by decide +kernel
theorem dQ_imageCheck_4 : decode bQ_imageCheck 4 = .ok (.bipush 14, 2) := by decide +kernel
theorem dQ_imageCheck_6 : decode bQ_imageCheck 6 = .ok (.iaload, 1) := by decide +kernel
theorem dQ_imageCheck_7 : decode bQ_imageCheck 7 = .ok (.ineg, 1) := by decide +kernel
theorem dQ_imageCheck_8 : decode bQ_imageCheck 8 = .ok (.aload_n 0, 1) := by decide +kernel
theorem dQ_imageCheck_9 : decode bQ_imageCheck 9 = .ok (.getfield 37, 3) := by decide +kernel
theorem dQ_imageCheck_12 : decode bQ_imageCheck 12 = .ok (.bipush 15, 2) := by decide +kernel
theorem dQ_imageCheck_14 : decode bQ_imageCheck 14 = .ok (.iaload, 1) := by decide +kernel
theorem dQ_imageCheck_15 : decode bQ_imageCheck 15 = .ok (.isub, 1) := by decide +kernel
theorem dQ_imageCheck_16 : decode bQ_imageCheck 16 = .ok (.istore_n 1, 1) := by decide +kernel
theorem dQ_imageCheck_17 : decode bQ_imageCheck 17 = .ok (.iconst 0, 1) := by decide +kernel
theorem dQ_imageCheck_18 : decode bQ_imageCheck 18 = .ok (.istore_n 2, 1) := by decide +kernel
theorem dQ_imageCheck_19 : decode bQ_imageCheck 19 = .ok (.iload_n 2, 1) := by decide +kernel
theorem dQ_imageCheck_20 : decode bQ_imageCheck 20 = .ok (.bipush 64, 2) := by decide +kernel
theorem dQ_imageCheck_22 : decode bQ_imageCheck 22 = .ok (.aload_n 0, 1) := by decide +kernel
theorem dQ_imageCheck_23 : decode bQ_imageCheck 23 = .ok (.getfield 114, 3) := by decide +kernel
theorem dQ_imageCheck_26 : decode bQ_imageCheck 26 = .ok (.imul, 1) := by decide +kernel
theorem dQ_imageCheck_27 : decode bQ_imageCheck 27 = .ok (.if_icmp .ge 18, 3) := by decide +kernel
theorem dQ_imageCheck_30 : decode bQ_imageCheck 30 = .ok (.iload_n 1, 1) := by decide +kernel
theorem dQ_imageCheck_31 : decode bQ_imageCheck 31 = .ok (.aload_n 0, 1) := by decide +kernel
theorem dQ_imageCheck_32 : decode bQ_imageCheck 32 = .ok (.getfield 37, 3) := by decide +kernel
theorem dQ_imageCheck_35 : decode bQ_imageCheck 35 = .ok (.iload_n 2, 1) := by decide +kernel
theorem dQ_imageCheck_36 : decode bQ_imageCheck 36 = .ok (.iaload, 1) := by decide +kernel
theorem dQ_imageCheck_37 : decode bQ_imageCheck 37 = .ok (.iadd, 1) := by decide +kernel
theorem dQ_imageCheck_38 : decode bQ_imageCheck 38 = .ok (.istore_n 1, 1) := by decide +kernel
theorem dQ_imageCheck_39 : decode bQ_imageCheck 39 = .ok (.iinc 2 1, 3) := by decide +kernel
theorem dQ_imageCheck_42 : decode bQ_imageCheck 42 = .ok (.goto (-23), 3) := by decide +kernel
theorem dQ_imageCheck_45 : decode bQ_imageCheck 45 = .ok (.iload_n 1, 1) := by decide +kernel
theorem dQ_imageCheck_46 : decode bQ_imageCheck 46 = .ok (.ldc 117, 2) := by decide +kernel
theorem dQ_imageCheck_48 : decode bQ_imageCheck 48 = .ok (.iand, 1) := by decide +kernel
theorem dQ_imageCheck_49 : decode bQ_imageCheck 49 = .ok (.ireturn, 1) := by decide +kernel
theorem dQ_mark_0 : decode bQ_mark 0 = .ok (.iload_n 1, 1) := by decide +kernel
theorem dQ_mark_1 : decode bQ_mark 1 = .ok (.iconst 2, 1) := by decide +kernel
theorem dQ_mark_2 : decode bQ_mark 2 = .ok (.if_icmp .ne 9, 3) := by decide +kernel
theorem dQ_mark_5 : decode bQ_mark 5 = .ok (.sipush 206, 3) := by decide +kernel
theorem dQ_mark_8 : decode bQ_mark 8 = .ok (.goto 60, 3) := by decide +kernel
theorem dQ_mark_11 : decode bQ_mark 11 = .ok (.iload_n 1, 1) := by decide +kernel
theorem dQ_mark_12 : decode bQ_mark 12 = .ok (.iconst 3, 1) := by decide +kernel
theorem dQ_mark_13 : decode bQ_mark 13 = .ok (.if_icmp .ne 9, 3) := by decide +kernel
theorem dQ_mark_16 : decode bQ_mark 16 = .ok (.sipush 237, 3) := by decide +kernel
theorem dQ_mark_19 : decode bQ_mark 19 = .ok (.goto 49, 3) := by decide +kernel
theorem dQ_mark_22 : decode bQ_mark 22 = .ok (.iload_n 1, 1) := by decide +kernel
theorem dQ_mark_23 : decode bQ_mark 23 = .ok (.iconst 4, 1) := by decide +kernel
theorem dQ_mark_24 : decode bQ_mark 24 = .ok (.if_icmp .ne 8, 3) := by decide +kernel
theorem dQ_mark_27 : decode bQ_mark 27 = .ok (.bipush 102, 2) := by decide +kernel
theorem dQ_mark_29 : decode bQ_mark 29 = .ok (.goto 39, 3) := by decide +kernel
theorem dQ_mark_32 : decode bQ_mark 32 = .ok (.iload_n 1, 1) := by decide +kernel
theorem dQ_mark_33 : decode bQ_mark 33 = .ok (.iconst 5, 1) := by decide +kernel
theorem dQ_mark_34 : decode bQ_mark 34 = .ok (.if_icmp .ne 9, 3) := by decide +kernel
theorem dQ_mark_37 : decode bQ_mark 37 = .ok (.sipush 204, 3) := by decide +kernel
theorem dQ_mark_40 : decode bQ_mark 40 = .ok (.goto 28, 3) := by decide +kernel
theorem dQ_mark_43 : decode bQ_mark 43 = .ok (.aload_n 0, 1) := by decide +kernel
theorem dQ_mark_44 : decode bQ_mark 44 = .ok (.getfield 114, 3) := by decide +kernel
theorem dQ_mark_47 : decode bQ_mark 47 = .ok (.iconst 2, 1) := by decide +kernel
theorem dQ_mark_48 : decode bQ_mark 48 = .ok (.if_icmp .ne 7, 3) := by decide +kernel
theorem dQ_mark_51 : decode bQ_mark 51 = .ok (.iconst 0, 1) := by decide +kernel
theorem dQ_mark_52 : decode bQ_mark 52 = .ok (.goto 16, 3) := by decide +kernel
theorem dQ_mark_55 : decode bQ_mark 55 = .ok (.aload_n 0, 1) := by decide +kernel
theorem dQ_mark_56 : decode bQ_mark 56 = .ok (.getfield 114, 3) := by decide +kernel
theorem dQ_mark_59 : decode bQ_mark 59 = .ok (.iconst 4, 1) := by decide +kernel
theorem dQ_mark_60 : decode bQ_mark 60 = .ok (.if_icmp .ne 7, 3) := by decide +kernel
theorem dQ_mark_63 : decode bQ_mark 63 = .ok (.iconst 1, 1) := by decide +kernel
theorem dQ_mark_64 : decode bQ_mark 64 = .ok (.goto 4, 3) := by decide +kernel
theorem dQ_mark_67 : decode bQ_mark 67 = .ok (.iconst 2, 1) := by decide +kernel
theorem dQ_mark_68 : decode bQ_mark 68 = .ok (.ireturn, 1) := by decide +kernel
theorem dQ_headByte_0 : decode bQ_headByte 0 = .ok (.iload_n 1, 1) := by decide +kernel
theorem dQ_headByte_1 : decode bQ_headByte 1 = .ok (.iconst 2, 1) := by decide +kernel
theorem dQ_headByte_2 : decode bQ_headByte 2 = .ok (.if_icmp .ge 20, 3) := by decide +kernel
theorem dQ_headByte_5 : decode bQ_headByte 5 = .ok (.iload_n 1, 1) := by decide +kernel
theorem dQ_headByte_6 : decode bQ_headByte 6 = .ok (.ifCond .ne 9, 3) := by decide +kernel
theorem dQ_headByte_9 : decode bQ_headByte 9 = .ok (.sipush 192, 3) := by decide +kernel
theorem dQ_headByte_12 : decode bQ_headByte 12 = .ok (.goto 9, 3) := by decide +kernel
theorem dQ_headByte_15 : decode bQ_headByte 15 = .ok (.aload_n 0, 1) := by decide +kernel
theorem dQ_headByte_16 : decode bQ_headByte 16 = .ok (.getfield 25, 3) := by decide +kernel
theorem dQ_headByte_19 : decode bQ_headByte 19 = .ok (.iconst 0, 1) := by decide +kernel
theorem dQ_headByte_20 : decode bQ_headByte 20 = .ok (.iaload, 1) := by decide +kernel
theorem dQ_headByte_21 : decode bQ_headByte 21 = .ok (.ireturn, 1) := by decide +kernel
theorem dQ_headByte_22 : decode bQ_headByte 22 = .ok (.iload_n 1, 1) := by decide +kernel
theorem dQ_headByte_23 : decode bQ_headByte 23 = .ok (.bipush 7, 2) := by decide +kernel
theorem dQ_headByte_25 : decode bQ_headByte 25 = .ok (.if_icmp .ge 9, 3) := by decide +kernel
theorem dQ_headByte_28 : decode bQ_headByte 28 = .ok (.aload_n 0, 1) := by decide +kernel
theorem dQ_headByte_29 : decode bQ_headByte 29 = .ok (.iload_n 1, 1) := by decide +kernel
theorem dQ_headByte_30 : decode bQ_headByte 30 = .ok (.invokevirtual 118, 3) := by decide +kernel
theorem dQ_headByte_33 : decode bQ_headByte 33 = .ok (.ireturn, 1) := by decide +kernel
theorem dQ_headByte_34 : decode bQ_headByte 34 = .ok (.iload_n 1, 1) := by decide +kernel
theorem dQ_headByte_35 : decode bQ_headByte 35 = .ok (.bipush 16, 2) := by decide +kernel
theorem dQ_headByte_37 : decode bQ_headByte 37 = .ok (.if_icmp .ge 5, 3) := by decide +kernel
theorem dQ_headByte_40 : decode bQ_headByte 40 = .ok (.iconst 0, 1) := by decide +kernel
theorem dQ_headByte_41 : decode bQ_headByte 41 = .ok (.ireturn, 1) := by decide +kernel
theorem dQ_headByte_42 : decode bQ_headByte 42 = .ok (.iload_n 1, 1) := by decide +kernel
theorem dQ_headByte_43 : decode bQ_headByte 43 = .ok (.iconst 4, 1) := by decide +kernel
theorem dQ_headByte_44 : decode bQ_headByte 44 = .ok (.irem, 1) := by decide +kernel
theorem dQ_headByte_45 : decode bQ_headByte 45 = .ok (.ifCond .ne 7, 3) := by decide +kernel
theorem dQ_headByte_48 : decode bQ_headByte 48 = .ok (.iconst 1, 1) := by decide +kernel
theorem dQ_headByte_49 : decode bQ_headByte 49 = .ok (.goto 16, 3) := by decide +kernel
theorem dQ_headByte_52 : decode bQ_headByte 52 = .ok (.iload_n 1, 1) := by decide +kernel
theorem dQ_headByte_53 : decode bQ_headByte 53 = .ok (.iconst 4, 1) := by decide +kernel
theorem dQ_headByte_54 : decode bQ_headByte 54 = .ok (.irem, 1) := by decide +kernel
theorem dQ_headByte_55 : decode bQ_headByte 55 = .ok (.iconst 1, 1) := by decide +kernel
theorem dQ_headByte_56 : decode bQ_headByte 56 = .ok (.if_icmp .ne 8, 3) := by decide +kernel
theorem dQ_headByte_59 : decode bQ_headByte 59 = .ok (.bipush 10, 2) := by decide +kernel
theorem dQ_headByte_61 : decode bQ_headByte 61 = .ok (.goto 4, 3) := by decide +kernel
theorem dQ_headByte_64 : decode bQ_headByte 64 = .ok (.iconst 0, 1) := by decide +kernel
theorem dQ_headByte_65 : decode bQ_headByte 65 = .ok (.ireturn, 1) := by decide +kernel
theorem dQ_build_0 : decode bQ_build 0 = .ok (.aload_n 0, 1) := by decide +kernel
theorem dQ_build_1 : decode bQ_build 1 = .ok (.iload_n 1, 1) := by decide +kernel
theorem dQ_build_2 : decode bQ_build 2 = .ok (.putfield 114, 3) := by decide +kernel
theorem dQ_build_5 : decode bQ_build 5 = .ok (.iconst 0, 1) := by decide +kernel
theorem dQ_build_6 : decode bQ_build 6 = .ok (.istore_n 2, 1) := by decide +kernel
theorem dQ_build_7 : decode bQ_build 7 = .ok (.iload_n 2, 1) := by decide +kernel
theorem dQ_build_8 : decode bQ_build 8 = .ok (.bipush 64, 2) := by decide +kernel
theorem dQ_build_10 : decode bQ_build 10 = .ok (.iload_n 1, 1) := by decide +kernel
theorem dQ_build_11 : decode bQ_build 11 = .ok (.imul, 1) := by decide +kernel
theorem dQ_build_12 : decode bQ_build 12 = .ok (.if_icmp .ge 32, 3) := by decide +kernel
theorem dQ_build_15 : decode bQ_build 15 = .ok (.aload_n 0, 1) := by decide +kernel
theorem dQ_build_16 : decode bQ_build 16 = .ok (.getfield 37, 3) := by decide +kernel
theorem dQ_build_19 : decode bQ_build 19 = .ok (.iload_n 2, 1) := by decide +kernel
theorem dQ_build_20 : decode bQ_build 20 = .ok (.iload_n 2, 1) := by decide +kernel
theorem dQ_build_21 : decode bQ_build 21 = .ok (.bipush 32, 2) := by decide +kernel
theorem dQ_build_23 : decode bQ_build 23 = .ok (.if_icmp .ge 11, 3) := by decide +kernel
theorem dQ_build_26 : decode bQ_build 26 = .ok (.aload_n 0, 1) := by decide +kernel
theorem dQ_build_27 : decode bQ_build 27 = .ok (.iload_n 2, 1) := by decide +kernel
theorem dQ_build_28 : decode bQ_build 28 = .ok (.invokevirtual 122, 3) := by decide +kernel
theorem dQ_build_31 : decode bQ_build 31 = .ok (.goto 6, 3) := by decide +kernel
theorem dQ_build_34 : decode bQ_build 34 = .ok (.sipush 255, 3) := by decide +kernel
theorem dQ_build_37 : decode bQ_build 37 = .ok (.iastore, 1) := by decide +kernel
theorem dQ_build_38 : decode bQ_build 38 = .ok (.iinc 2 1, 3) := by decide +kernel
theorem dQ_build_41 : decode bQ_build 41 = .ok (.goto (-34), 3) := by decide +kernel
theorem dQ_build_44 : decode bQ_build 44 = .ok (.iconst 0, 1) := by decide +kernel
theorem dQ_build_45 : decode bQ_build 45 = .ok (.istore_n 2, 1) := by decide +kernel
theorem dQ_build_46 : decode bQ_build 46 = .ok (.iload_n 2, 1) := by decide +kernel
theorem dQ_build_47 : decode bQ_build 47 = .ok (.aload_n 0, 1) := by decide +kernel
theorem dQ_build_48 : decode bQ_build 48 = .ok (.getfield 100, 3) := by decide +kernel
theorem dQ_build_51 : decode bQ_build 51 = .ok (.if_icmp .ge 119, 3) := by decide +kernel
theorem dQ_build_54 : decode bQ_build 54 = .ok (.bipush 64, 2) := by decide +kernel
theorem dQ_build_56 : decode bQ_build 56 = .ok (.aload_n 0, 1) := by decide +kernel
theorem dQ_build_57 : decode bQ_build 57 = .ok (.getfield 22, 3) := by decide +kernel
theorem dQ_build_60 : decode bQ_build 60 = .ok (.iload_n 2, 1) := by decide +kernel
theorem dQ_build_61 : decode bQ_build 61 = .ok (.iaload, 1) := by decide +kernel
theorem dQ_build_62 : decode bQ_build 62 = .ok (.imul, 1) := by decide +kernel
theorem dQ_build_63 : decode bQ_build 63 = .ok (.aload_n 0, 1) := by decide +kernel
theorem dQ_build_64 : decode bQ_build 64 = .ok (.getfield 25, 3) := by decide +kernel
theorem dQ_build_67 : decode bQ_build 67 = .ok (.iload_n 2, 1) := by decide +kernel
theorem dQ_build_68 : decode bQ_build 68 = .ok (.iaload, 1) := by decide +kernel
theorem dQ_build_69 : decode bQ_build 69 = .ok (.bipush 64, 2) := by decide +kernel
theorem dQ_build_71 : decode bQ_build 71 = .ok (.irem, 1) := by decide +kernel
theorem dQ_build_72 : decode bQ_build 72 = .ok (.iadd, 1) := by decide +kernel
theorem dQ_build_73 : decode bQ_build 73 = .ok (.istore_n 3, 1) := by decide +kernel
theorem dQ_build_74 : decode bQ_build 74 = .ok (.iconst 0, 1) := by decide +kernel
theorem dQ_build_75 : decode bQ_build 75 = .ok (.istore 4, 2) := by decide +kernel
theorem dQ_build_77 : decode bQ_build 77 = .ok (.iload 4, 2) := by decide +kernel
theorem dQ_build_79 : decode bQ_build 79 = .ok (.aload_n 0, 1) := by decide +kernel
theorem dQ_build_80 : decode bQ_build 80 = .ok (.getfield 13, 3) := by decide +kernel
theorem dQ_build_83 : decode bQ_build 83 = .ok (.iload_n 2, 1) := by decide +kernel
theorem dQ_build_84 : decode bQ_build 84 = .ok (.iaload, 1) := by decide +kernel
theorem dQ_build_85 : decode bQ_build 85 = .ok (.if_icmp .ge 79, 3) := by decide +kernel
theorem dQ_build_88 : decode bQ_build 88 = .ok (.aload_n 0, 1) := by decide +kernel
theorem dQ_build_89 : decode bQ_build 89 = .ok (.getfield 16, 3) := by decide +kernel
theorem dQ_build_92 : decode bQ_build 92 = .ok (.bipush 48, 2) := by decide +kernel
theorem dQ_build_94 : decode bQ_build 94 = .ok (.iload_n 2, 1) := by decide +kernel
theorem dQ_build_95 : decode bQ_build 95 = .ok (.imul, 1) := by decide +kernel
theorem dQ_build_96 : decode bQ_build 96 = .ok (.iload 4, 2) := by decide +kernel
theorem dQ_build_98 : decode bQ_build 98 = .ok (.iadd, 1) := by decide +kernel
theorem dQ_build_99 : decode bQ_build 99 = .ok (.iaload, 1) := by decide +kernel
theorem dQ_build_100 : decode bQ_build 100 = .ok (.istore 5, 2) := by decide +kernel
theorem dQ_build_102 : decode bQ_build 102 = .ok (.aload_n 0, 1) := by decide +kernel
theorem dQ_build_103 : decode bQ_build 103 = .ok (.getfield 19, 3) := by decide +kernel
theorem dQ_build_106 : decode bQ_build 106 = .ok (.bipush 48, 2) := by decide +kernel
theorem dQ_build_108 : decode bQ_build 108 = .ok (.iload_n 2, 1) := by decide +kernel
theorem dQ_build_109 : decode bQ_build 109 = .ok (.imul, 1) := by decide +kernel
theorem dQ_build_110 : decode bQ_build 110 = .ok (.iload 4, 2) := by decide +kernel
theorem dQ_build_112 : decode bQ_build 112 = .ok (.iadd, 1) := by decide +kernel
theorem dQ_build_113 : decode bQ_build 113 = .ok (.iaload, 1) := by decide +kernel
theorem dQ_build_114 : decode bQ_build 114 = .ok (.istore 6, 2) := by decide +kernel
theorem dQ_build_116 : decode bQ_build 116 = .ok (.aload_n 0, 1) := by decide +kernel
theorem dQ_build_117 : decode bQ_build 117 = .ok (.getfield 37, 3) := by decide +kernel
theorem dQ_build_120 : decode bQ_build 120 = .ok (.iload_n 3, 1) := by decide +kernel
theorem dQ_build_121 : decode bQ_build 121 = .ok (.iload 4, 2) := by decide +kernel
theorem dQ_build_123 : decode bQ_build 123 = .ok (.iadd, 1) := by decide +kernel
theorem dQ_build_124 : decode bQ_build 124 = .ok (.iload 6, 2) := by decide +kernel
theorem dQ_build_126 : decode bQ_build 126 = .ok (.ifCond .ne 8, 3) := by decide +kernel
theorem dQ_build_129 : decode bQ_build 129 = .ok (.iload 5, 2) := by decide +kernel
theorem dQ_build_131 : decode bQ_build 131 = .ok (.goto 26, 3) := by decide +kernel
theorem dQ_build_134 : decode bQ_build 134 = .ok (.iload 6, 2) := by decide +kernel
theorem dQ_build_136 : decode bQ_build 136 = .ok (.iconst 1, 1) := by decide +kernel
theorem dQ_build_137 : decode bQ_build 137 = .ok (.if_icmp .ne 13, 3) := by decide +kernel
theorem dQ_build_140 : decode bQ_build 140 = .ok (.aload_n 0, 1) := by decide +kernel
theorem dQ_build_141 : decode bQ_build 141 = .ok (.getfield 25, 3) := by decide +kernel
theorem dQ_build_144 : decode bQ_build 144 = .ok (.iload 5, 2) := by decide +kernel
theorem dQ_build_146 : decode bQ_build 146 = .ok (.iaload, 1) := by decide +kernel
theorem dQ_build_147 : decode bQ_build 147 = .ok (.goto 10, 3) := by decide +kernel
theorem dQ_build_150 : decode bQ_build 150 = .ok (.aload_n 0, 1) := by decide +kernel
theorem dQ_build_151 : decode bQ_build 151 = .ok (.getfield 22, 3) := by decide +kernel
theorem dQ_build_154 : decode bQ_build 154 = .ok (.iload 5, 2) := by decide +kernel
theorem dQ_build_156 : decode bQ_build 156 = .ok (.iaload, 1) := by decide +kernel
theorem dQ_build_157 : decode bQ_build 157 = .ok (.iastore, 1) := by decide +kernel
theorem dQ_build_158 : decode bQ_build 158 = .ok (.iinc 4 1, 3) := by decide +kernel
theorem dQ_build_161 : decode bQ_build 161 = .ok (.goto (-84), 3) := by decide +kernel
theorem dQ_build_164 : decode bQ_build 164 = .ok (.iinc 2 1, 3) := by decide +kernel
theorem dQ_build_167 : decode bQ_build 167 = .ok (.goto (-121), 3) := by decide +kernel
theorem dQ_build_170 : decode bQ_build 170 = .ok (.aload_n 0, 1) := by decide +kernel
theorem dQ_build_171 : decode bQ_build 171 = .ok (.getfield 37, 3) := by decide +kernel
theorem dQ_build_174 : decode bQ_build 174 = .ok (.bipush 13, 2) := by decide +kernel
theorem dQ_build_176 : decode bQ_build 176 = .ok (.aload_n 0, 1) := by decide +kernel
theorem dQ_build_177 : decode bQ_build 177 = .ok (.invokevirtual 125, 3) := by decide +kernel
theorem dQ_build_180 : decode bQ_build 180 = .ok (.iastore, 1) := by decide +kernel
theorem dQ_build_181 : decode bQ_build 181 = .ok (.aload_n 0, 1) := by decide +kernel
theorem dQ_build_182 : decode bQ_build 182 = .ok (.invokevirtual 129, 3) := by decide +kernel
theorem dQ_build_185 : decode bQ_build 185 = .ok (.istore_n 2, 1) := by decide +kernel
theorem dQ_build_186 : decode bQ_build 186 = .ok (.aload_n 0, 1) := by decide +kernel
theorem dQ_build_187 : decode bQ_build 187 = .ok (.getfield 37, 3) := by decide +kernel
theorem dQ_build_190 : decode bQ_build 190 = .ok (.bipush 14, 2) := by decide +kernel
theorem dQ_build_192 : decode bQ_build 192 = .ok (.iload_n 2, 1) := by decide +kernel
theorem dQ_build_193 : decode bQ_build 193 = .ok (.bipush 8, 2) := by decide +kernel
theorem dQ_build_195 : decode bQ_build 195 = .ok (.ishr, 1) := by decide +kernel
theorem dQ_build_196 : decode bQ_build 196 = .ok (.iastore, 1) := by decide +kernel
theorem dQ_build_197 : decode bQ_build 197 = .ok (.aload_n 0, 1) := by decide +kernel
theorem dQ_build_198 : decode bQ_build 198 = .ok (.getfield 37, 3) := by decide +kernel
theorem dQ_build_201 : decode bQ_build 201 = .ok (.bipush 15, 2) := by decide +kernel
theorem dQ_build_203 : decode bQ_build 203 = .ok (.iload_n 2, 1) := by decide +kernel
theorem dQ_build_204 : decode bQ_build 204 = .ok (.sipush 255, 3) := by decide +kernel
theorem dQ_build_207 : decode bQ_build 207 = .ok (.iand, 1) := by decide +kernel
theorem dQ_build_208 : decode bQ_build 208 = .ok (.iastore, 1) := by decide +kernel
theorem dQ_build_209 : decode bQ_build 209 = .ok (.return_, 1) := by decide +kernel
theorem dQ_link_0 : decode bQ_link 0 = .ok (.aload_n 0, 1) := by decide +kernel
theorem dQ_link_1 : decode bQ_link 1 = .ok (.iload_n 1, 1) := by decide +kernel
theorem dQ_link_2 : decode bQ_link 2 = .ok (.iconst 2, 1) := by decide +kernel
theorem dQ_link_3 : decode bQ_link 3 = .ok (.if_icmp .eq 18, 3) := by decide +kernel
theorem dQ_link_6 : decode bQ_link 6 = .ok (.iload_n 1, 1) := by decide +kernel
theorem dQ_link_7 : decode bQ_link 7 = .ok (.iconst 4, 1) := by decide +kernel
theorem dQ_link_8 : decode bQ_link 8 = .ok (.if_icmp .eq 13, 3) := by decide +kernel
theorem dQ_link_11 : decode bQ_link 11 = .ok (.iload_n 1, 1) := by decide +kernel
theorem dQ_link_12 : decode bQ_link 12 = .ok (.bipush 8, 2) := by decide +kernel
theorem dQ_link_14 : decode bQ_link 14 = .ok (.if_icmp .eq 7, 3) := by decide +kernel
theorem dQ_link_17 : decode bQ_link 17 = .ok (.iconst 1, 1) := by decide +kernel
theorem dQ_link_18 : decode bQ_link 18 = .ok (.goto 34, 3) := by decide +kernel
theorem dQ_link_21 : decode bQ_link 21 = .ok (.aload_n 0, 1) := by decide +kernel
theorem dQ_link_22 : decode bQ_link 22 = .ok (.getfield 100, 3) := by decide +kernel
theorem dQ_link_25 : decode bQ_link 25 = .ok (.ifCond .eq 10, 3) := by decide +kernel
theorem dQ_link_28 : decode bQ_link 28 = .ok (.aload_n 0, 1) := by decide +kernel
theorem dQ_link_29 : decode bQ_link 29 = .ok (.invokevirtual 132, 3) := by decide +kernel
theorem dQ_link_32 : decode bQ_link 32 = .ok (.ifCond .ne 7, 3) := by decide +kernel
theorem dQ_link_35 : decode bQ_link 35 = .ok (.iconst 2, 1) := by decide +kernel
theorem dQ_link_36 : decode bQ_link 36 = .ok (.goto 16, 3) := by decide +kernel
theorem dQ_link_39 : decode bQ_link 39 = .ok (.aload_n 0, 1) := by decide +kernel
theorem dQ_link_40 : decode bQ_link 40 = .ok (.iload_n 1, 1) := by decide +kernel
theorem dQ_link_41 : decode bQ_link 41 = .ok (.invokevirtual 136, 3) := by decide +kernel
theorem dQ_link_44 : decode bQ_link 44 = .ok (.ifCond .eq 7, 3) := by decide +kernel
theorem dQ_link_47 : decode bQ_link 47 = .ok (.iconst 0, 1) := by decide +kernel
theorem dQ_link_48 : decode bQ_link 48 = .ok (.goto 4, 3) := by decide +kernel
theorem dQ_link_51 : decode bQ_link 51 = .ok (.iconst 3, 1) := by decide +kernel
theorem dQ_link_52 : decode bQ_link 52 = .ok (.putfield 49, 3) := by decide +kernel
theorem dQ_link_55 : decode bQ_link 55 = .ok (.aload_n 0, 1) := by decide +kernel
theorem dQ_link_56 : decode bQ_link 56 = .ok (.getfield 49, 3) := by decide +kernel
theorem dQ_link_59 : decode bQ_link 59 = .ok (.ifCond .le 5, 3) := by decide +kernel
theorem dQ_link_62 : decode bQ_link 62 = .ok (.iconst 0, 1) := by decide +kernel
theorem dQ_link_63 : decode bQ_link 63 = .ok (.ireturn, 1) := by decide +kernel
theorem dQ_link_64 : decode bQ_link 64 = .ok (.aload_n 0, 1) := by decide +kernel
theorem dQ_link_65 : decode bQ_link 65 = .ok (.iload_n 1, 1) := by decide +kernel
theorem dQ_link_66 : decode bQ_link 66 = .ok (.invokevirtual 139, 3) := by decide +kernel
theorem dQ_link_69 : decode bQ_link 69 = .ok (.aload_n 0, 1) := by decide +kernel
theorem dQ_link_70 : decode bQ_link 70 = .ok (.aload_n 0, 1) := by decide +kernel
theorem dQ_link_71 : decode bQ_link 71 = .ok (.getfield 100, 3) := by decide +kernel
theorem dQ_link_74 : decode bQ_link 74 = .ok (.putfield 143, 3) := by decide +kernel
theorem dQ_link_77 : decode bQ_link 77 = .ok (.iconst 0, 1) := by decide +kernel
theorem dQ_link_78 : decode bQ_link 78 = .ok (.istore_n 2, 1) := by decide +kernel
theorem dQ_link_79 : decode bQ_link 79 = .ok (.iconst 0, 1) := by decide +kernel
theorem dQ_link_80 : decode bQ_link 80 = .ok (.istore_n 3, 1) := by decide +kernel
theorem dQ_link_81 : decode bQ_link 81 = .ok (.iload_n 3, 1) := by decide +kernel
theorem dQ_link_82 : decode bQ_link 82 = .ok (.aload_n 0, 1) := by decide +kernel
theorem dQ_link_83 : decode bQ_link 83 = .ok (.getfield 100, 3) := by decide +kernel
theorem dQ_link_86 : decode bQ_link 86 = .ok (.if_icmp .ge 42, 3) := by decide +kernel
theorem dQ_link_89 : decode bQ_link 89 = .ok (.aload_n 0, 1) := by decide +kernel
theorem dQ_link_90 : decode bQ_link 90 = .ok (.getfield 31, 3) := by decide +kernel
theorem dQ_link_93 : decode bQ_link 93 = .ok (.iload_n 3, 1) := by decide +kernel
theorem dQ_link_94 : decode bQ_link 94 = .ok (.aload_n 0, 1) := by decide +kernel
theorem dQ_link_95 : decode bQ_link 95 = .ok (.getfield 22, 3) := by decide +kernel
theorem dQ_link_98 : decode bQ_link 98 = .ok (.iload_n 3, 1) := by decide +kernel
theorem dQ_link_99 : decode bQ_link 99 = .ok (.iaload, 1) := by decide +kernel
theorem dQ_link_100 : decode bQ_link 100 = .ok (.iastore, 1) := by decide +kernel
theorem dQ_link_101 : decode bQ_link 101 = .ok (.aload_n 0, 1) := by decide +kernel
theorem dQ_link_102 : decode bQ_link 102 = .ok (.getfield 34, 3) := by decide +kernel
theorem dQ_link_105 : decode bQ_link 105 = .ok (.iload_n 3, 1) := by decide +kernel
theorem dQ_link_106 : decode bQ_link 106 = .ok (.aload_n 0, 1) := by decide +kernel
theorem dQ_link_107 : decode bQ_link 107 = .ok (.getfield 25, 3) := by decide +kernel
theorem dQ_link_110 : decode bQ_link 110 = .ok (.iload_n 3, 1) := by decide +kernel
theorem dQ_link_111 : decode bQ_link 111 = .ok (.iaload, 1) := by decide +kernel
theorem dQ_link_112 : decode bQ_link 112 = .ok (.iastore, 1) := by decide +kernel
theorem dQ_link_113 : decode bQ_link 113 = .ok (.iload_n 2, 1) := by decide +kernel
theorem dQ_link_114 : decode bQ_link 114 = .ok (.aload_n 0, 1) := by decide +kernel
theorem dQ_link_115 : decode bQ_link 115 = .ok (.getfield 13, 3) := by decide +kernel
theorem dQ_link_118 : decode bQ_link 118 = .ok (.iload_n 3, 1) := by decide +kernel
theorem dQ_link_119 : decode bQ_link 119 = .ok (.iaload, 1) := by decide +kernel
theorem dQ_link_120 : decode bQ_link 120 = .ok (.iadd, 1) := by decide +kernel
theorem dQ_link_121 : decode bQ_link 121 = .ok (.istore_n 2, 1) := by decide +kernel
theorem dQ_link_122 : decode bQ_link 122 = .ok (.iinc 3 1, 3) := by decide +kernel
theorem dQ_link_125 : decode bQ_link 125 = .ok (.goto (-44), 3) := by decide +kernel
theorem dQ_link_128 : decode bQ_link 128 = .ok (.aload_n 0, 1) := by decide +kernel
theorem dQ_link_129 : decode bQ_link 129 = .ok (.invokevirtual 46, 3) := by decide +kernel
theorem dQ_link_132 : decode bQ_link 132 = .ok (.iload_n 2, 1) := by decide +kernel
theorem dQ_link_133 : decode bQ_link 133 = .ok (.ireturn, 1) := by decide +kernel
theorem dQ_packed_0 : decode bQ_packed 0 = .ok (.iload_n 1, 1) := by decide +kernel
theorem dQ_packed_1 : decode bQ_packed 1 = .ok (.iconst 0, 1) := by decide +kernel
theorem dQ_packed_2 : decode bQ_packed 2 = .ok (.aload_n 0, 1) := by decide +kernel
theorem dQ_packed_3 : decode bQ_packed 3 = .ok (.getfield 143, 3) := by decide +kernel
theorem dQ_packed_6 : decode bQ_packed 6 = .ok (.iconst 1, 1) := by decide +kernel
theorem dQ_packed_7 : decode bQ_packed 7 = .ok (.isub, 1) := by decide +kernel
theorem dQ_packed_8 : decode bQ_packed 8 = .ok (.invokestatic 96, 3) := by decide +kernel
theorem dQ_packed_11 : decode bQ_packed 11 = .ok (.ifCond .ne 12, 3) := by decide +kernel
theorem dQ_packed_14 : decode bQ_packed 14 = .ok (.iload_n 2, 1) := by decide +kernel
theorem dQ_packed_15 : decode bQ_packed 15 = .ok (.iconst 0, 1) := by decide +kernel
theorem dQ_packed_16 : decode bQ_packed 16 = .ok (.iconst 1, 1) := by decide +kernel
theorem dQ_packed_17 : decode bQ_packed 17 = .ok (.invokestatic 96, 3) := by decide +kernel
theorem dQ_packed_20 : decode bQ_packed 20 = .ok (.ifCond .eq 9, 3) := by decide +kernel
theorem dQ_packed_23 : decode bQ_packed 23 = .ok (.aload_n 0, 1) := by decide +kernel
theorem dQ_packed_24 : decode bQ_packed 24 = .ok (.iconst 1, 1) := by decide +kernel
theorem dQ_packed_25 : decode bQ_packed 25 = .ok (.invokevirtual 146, 3) := by decide +kernel
theorem dQ_packed_28 : decode bQ_packed 28 = .ok (.ireturn, 1) := by decide +kernel
theorem dQ_packed_29 : decode bQ_packed 29 = .ok (.aload_n 0, 1) := by decide +kernel
theorem dQ_packed_30 : decode bQ_packed 30 = .ok (.iconst 0, 1) := by decide +kernel
theorem dQ_packed_31 : decode bQ_packed 31 = .ok (.putfield 49, 3) := by decide +kernel
theorem dQ_packed_34 : decode bQ_packed 34 = .ok (.iload_n 2, 1) := by decide +kernel
theorem dQ_packed_35 : decode bQ_packed 35 = .ok (.ifCond .ne 12, 3) := by decide +kernel
theorem dQ_packed_38 : decode bQ_packed 38 = .ok (.aload_n 0, 1) := by decide +kernel
theorem dQ_packed_39 : decode bQ_packed 39 = .ok (.getfield 31, 3) := by decide +kernel
theorem dQ_packed_42 : decode bQ_packed 42 = .ok (.iload_n 1, 1) := by decide +kernel
theorem dQ_packed_43 : decode bQ_packed 43 = .ok (.iaload, 1) := by decide +kernel
theorem dQ_packed_44 : decode bQ_packed 44 = .ok (.goto 9, 3) := by decide +kernel
theorem dQ_packed_47 : decode bQ_packed 47 = .ok (.aload_n 0, 1) := by decide +kernel
theorem dQ_packed_48 : decode bQ_packed 48 = .ok (.getfield 34, 3) := by decide +kernel
theorem dQ_packed_51 : decode bQ_packed 51 = .ok (.iload_n 1, 1) := by decide +kernel
theorem dQ_packed_52 : decode bQ_packed 52 = .ok (.iaload, 1) := by decide +kernel
theorem dQ_packed_53 : decode bQ_packed 53 = .ok (.ireturn, 1) := by decide +kernel
theorem dQ_image_0 : decode bQ_image 0 = .ok (.iload_n 1, 1) := by decide +kernel
theorem dQ_image_1 : decode bQ_image 1 = .ok (.iconst 0, 1) := by decide +kernel
theorem dQ_image_2 : decode bQ_image 2 = .ok (.bipush 64, 2) := by decide +kernel
theorem dQ_image_4 : decode bQ_image 4 = .ok (.aload_n 0, 1) := by decide +kernel
theorem dQ_image_5 : decode bQ_image 5 = .ok (.getfield 114, 3) := by decide +kernel
theorem dQ_image_8 : decode bQ_image 8 = .ok (.imul, 1) := by decide +kernel
theorem dQ_image_9 : decode bQ_image 9 = .ok (.iconst 1, 1) := by decide +kernel
theorem dQ_image_10 : decode bQ_image 10 = .ok (.isub, 1) := by decide +kernel
theorem dQ_image_11 : decode bQ_image 11 = .ok (.invokestatic 96, 3) := by decide +kernel
theorem dQ_image_14 : decode bQ_image 14 = .ok (.ifCond .eq 9, 3) := by decide +kernel
theorem dQ_image_17 : decode bQ_image 17 = .ok (.aload_n 0, 1) := by decide +kernel
theorem dQ_image_18 : decode bQ_image 18 = .ok (.iconst 1, 1) := by decide +kernel
theorem dQ_image_19 : decode bQ_image 19 = .ok (.invokevirtual 146, 3) := by decide +kernel
theorem dQ_image_22 : decode bQ_image 22 = .ok (.ireturn, 1) := by decide +kernel
theorem dQ_image_23 : decode bQ_image 23 = .ok (.aload_n 0, 1) := by decide +kernel
theorem dQ_image_24 : decode bQ_image 24 = .ok (.iconst 0, 1) := by decide +kernel
theorem dQ_image_25 : decode bQ_image 25 = .ok (.putfield 49, 3) := by decide +kernel
theorem dQ_image_28 : decode bQ_image 28 = .ok (.aload_n 0, 1) := by decide +kernel
theorem dQ_image_29 : decode bQ_image 29 = .ok (.getfield 37, 3) := by decide +kernel
theorem dQ_image_32 : decode bQ_image 32 = .ok (.iload_n 1, 1) := by decide +kernel
theorem dQ_image_33 : decode bQ_image 33 = .ok (.iaload, 1) := by decide +kernel
theorem dQ_image_34 : decode bQ_image 34 = .ok (.ireturn, 1) := by decide +kernel
theorem dQ_spoil_0 : decode bQ_spoil 0 = .ok (.aload_n 0, 1) := by decide +kernel
theorem dQ_spoil_1 : decode bQ_spoil 1 = .ok (.iload_n 1, 1) := by decide +kernel
theorem dQ_spoil_2 : decode bQ_spoil 2 = .ok (.iconst 0, 1) := by decide +kernel
theorem dQ_spoil_3 : decode bQ_spoil 3 = .ok (.bipush 64, 2) := by decide +kernel
theorem dQ_spoil_5 : decode bQ_spoil 5 = .ok (.aload_n 0, 1) := by decide +kernel
theorem dQ_spoil_6 : decode bQ_spoil 6 = .ok (.getfield 114, 3) := by decide +kernel
theorem dQ_spoil_9 : decode bQ_spoil 9 = .ok (.imul, 1) := by decide +kernel
theorem dQ_spoil_10 : decode bQ_spoil 10 = .ok (.iconst 1, 1) := by decide +kernel
theorem dQ_spoil_11 : decode bQ_spoil 11 = .ok (.isub, 1) := by decide +kernel
theorem dQ_spoil_12 : decode bQ_spoil 12 = .ok (.invokestatic 96, 3) := by decide +kernel
theorem dQ_spoil_15 : decode bQ_spoil 15 = .ok (.ifCond .eq 7, 3) := by decide +kernel
theorem dQ_spoil_18 : decode bQ_spoil 18 = .ok (.iconst 1, 1) := by decide +kernel
theorem dQ_spoil_19 : decode bQ_spoil 19 = .ok (.goto 4, 3) := by decide +kernel
theorem dQ_spoil_22 : decode bQ_spoil 22 = .ok (.iconst 0, 1) := by decide +kernel
theorem dQ_spoil_23 : decode bQ_spoil 23 = .ok (.putfield 49, 3) := by decide +kernel
theorem dQ_spoil_26 : decode bQ_spoil 26 = .ok (.aload_n 0, 1) := by decide +kernel
theorem dQ_spoil_27 : decode bQ_spoil 27 = .ok (.getfield 49, 3) := by decide +kernel
theorem dQ_spoil_30 : decode bQ_spoil 30 = .ok (.ifCond .ne 14, 3) := by decide +kernel
theorem dQ_spoil_33 : decode bQ_spoil 33 = .ok (.aload_n 0, 1) := by decide +kernel
theorem dQ_spoil_34 : decode bQ_spoil 34 = .ok (.getfield 37, 3) := by decide +kernel
theorem dQ_spoil_37 : decode bQ_spoil 37 = .ok (.iload_n 1, 1) := by decide +kernel
theorem dQ_spoil_38 : decode bQ_spoil 38 = .ok (.iload_n 2, 1) := by decide +kernel
theorem dQ_spoil_39 : decode bQ_spoil 39 = .ok (.sipush 255, 3) := by decide +kernel
theorem dQ_spoil_42 : decode bQ_spoil 42 = .ok (.iand, 1) := by decide +kernel
theorem dQ_spoil_43 : decode bQ_spoil 43 = .ok (.iastore, 1) := by decide +kernel
theorem dQ_spoil_44 : decode bQ_spoil 44 = .ok (.return_, 1) := by decide +kernel
theorem dQ_valid_0 : decode bQ_valid 0 = .ok (.aload_n 0, 1) := by decide +kernel
theorem dQ_valid_1 : decode bQ_valid 1 = .ok (.getfield 143, 3) := by decide +kernel
theorem dQ_valid_4 : decode bQ_valid 4 = .ok (.ifCond .ne 9, 3) := by decide +kernel
theorem dQ_valid_7 : decode bQ_valid 7 = .ok (.aload_n 0, 1) := by decide +kernel
theorem dQ_valid_8 : decode bQ_valid 8 = .ok (.iconst 1, 1) := by decide +kernel
theorem dQ_valid_9 : decode bQ_valid 9 = .ok (.invokevirtual 146, 3) := by decide +kernel
theorem dQ_valid_12 : decode bQ_valid 12 = .ok (.ireturn, 1) := by decide +kernel
theorem dQ_valid_13 : decode bQ_valid 13 = .ok (.aload_n 0, 1) := by decide +kernel
theorem dQ_valid_14 : decode bQ_valid 14 = .ok (.iconst 0, 1) := by decide +kernel
theorem dQ_valid_15 : decode bQ_valid 15 = .ok (.putfield 49, 3) := by decide +kernel
theorem dQ_valid_18 : decode bQ_valid 18 = .ok (.iconst 1, 1) := by decide +kernel
theorem dQ_valid_19 : decode bQ_valid 19 = .ok (.istore_n 1, 1) := by decide +kernel
theorem dQ_valid_20 : decode bQ_valid 20 = .ok (.iconst 2, 1) := by decide +kernel
theorem dQ_valid_21 : decode bQ_valid 21 = .ok (.istore_n 2, 1) := by decide +kernel
theorem dQ_valid_22 : decode bQ_valid 22 = .ok (.iload_n 2, 1) := by decide +kernel
theorem dQ_valid_23 : decode bQ_valid 23 = .ok (.bipush 7, 2) := by decide +kernel
theorem dQ_valid_25 : decode bQ_valid 25 = .ok (.if_icmp .ge 33, 3) := by decide +kernel
theorem dQ_valid_28 : decode bQ_valid 28 = .ok (.iload_n 1, 1) := by decide +kernel
theorem dQ_valid_29 : decode bQ_valid 29 = .ok (.ifCond .eq 21, 3) := by decide +kernel
theorem dQ_valid_32 : decode bQ_valid 32 = .ok (.aload_n 0, 1) := by decide +kernel
theorem dQ_valid_33 : decode bQ_valid 33 = .ok (.getfield 37, 3) := by decide +kernel
theorem dQ_valid_36 : decode bQ_valid 36 = .ok (.iload_n 2, 1) := by decide +kernel
theorem dQ_valid_37 : decode bQ_valid 37 = .ok (.iaload, 1) := by decide +kernel
theorem dQ_valid_38 : decode bQ_valid 38 = .ok (.aload_n 0, 1) := by decide +kernel
theorem dQ_valid_39 : decode bQ_valid 39 = .ok (.iload_n 2, 1) := by decide +kernel
theorem dQ_valid_40 : decode bQ_valid 40 = .ok (.invokevirtual 118, 3) := by decide +kernel
theorem dQ_valid_43 : decode bQ_valid 43 = .ok (.if_icmp .ne 7, 3) := by decide +kernel
theorem dQ_valid_46 : decode bQ_valid 46 = .ok (.iconst 1, 1) := by decide +kernel
theorem dQ_valid_47 : decode bQ_valid 47 = .ok (.goto 4, 3) := by decide +kernel
theorem dQ_valid_50 : decode bQ_valid 50 = .ok (.iconst 0, 1) := by decide +kernel
theorem dQ_valid_51 : decode bQ_valid 51 = .ok (.istore_n 1, 1) := by decide +kernel
theorem dQ_valid_52 : decode bQ_valid 52 = .ok (.iinc 2 1, 3) := by decide +kernel
theorem dQ_valid_55 : decode bQ_valid 55 = .ok (.goto (-33), 3) := by decide +kernel
theorem dQ_valid_58 : decode bQ_valid 58 = .ok (.iload_n 1, 1) := by decide +kernel
theorem dQ_valid_59 : decode bQ_valid 59 = .ok (.ifCond .ne 5, 3) := by decide +kernel
theorem dQ_valid_62 : decode bQ_valid 62 = .ok (.iconst 1, 1) := by decide +kernel
theorem dQ_valid_63 : decode bQ_valid 63 = .ok (.ireturn, 1) := by decide +kernel
theorem dQ_valid_64 : decode bQ_valid 64 = .ok (.aload_n 0, 1) := by decide +kernel
theorem dQ_valid_65 : decode bQ_valid 65 = .ok (.getfield 37, 3) := by decide +kernel
theorem dQ_valid_68 : decode bQ_valid 68 = .ok (.bipush 13, 2) := by decide +kernel
theorem dQ_valid_70 : decode bQ_valid 70 = .ok (.iaload, 1) := by decide +kernel
theorem dQ_valid_71 : decode bQ_valid 71 = .ok (.aload_n 0, 1) := by decide +kernel
theorem dQ_valid_72 : decode bQ_valid 72 = .ok (.invokevirtual 125, 3) := by decide +kernel
theorem dQ_valid_75 : decode bQ_valid 75 = .ok (.if_icmp .eq 7, 3) := by decide +kernel
theorem dQ_valid_78 : decode bQ_valid 78 = .ok (.iconst 2, 1) := by decide +kernel
theorem dQ_valid_79 : decode bQ_valid 79 = .ok (.goto 34, 3) := by decide +kernel
theorem dQ_valid_82 : decode bQ_valid 82 = .ok (.sipush 256, 3) := by decide +kernel
theorem dQ_valid_85 : decode bQ_valid 85 = .ok (.aload_n 0, 1) := by decide +kernel
theorem dQ_valid_86 : decode bQ_valid 86 = .ok (.getfield 37, 3) := by decide +kernel
theorem dQ_valid_89 : decode bQ_valid 89 = .ok (.bipush 14, 2) := by decide +kernel
theorem dQ_valid_91 : decode bQ_valid 91 = .ok (.iaload, 1) := by decide +kernel
theorem dQ_valid_92 : decode bQ_valid 92 = .ok (.imul, 1) := by decide +kernel
theorem dQ_valid_93 : decode bQ_valid 93 = .ok (.aload_n 0, 1) := by decide +kernel
theorem dQ_valid_94 : decode bQ_valid 94 = .ok (.getfield 37, 3) := by decide +kernel
theorem dQ_valid_97 : decode bQ_valid 97 = .ok (.bipush 15, 2) := by decide +kernel
theorem dQ_valid_99 : decode bQ_valid 99 = .ok (.iaload, 1) := by decide +kernel
theorem dQ_valid_100 : decode bQ_valid 100 = .ok (.iadd, 1) := by decide +kernel
theorem dQ_valid_101 : decode bQ_valid 101 = .ok (.aload_n 0, 1) := by decide +kernel
theorem dQ_valid_102 : decode bQ_valid 102 = .ok (.invokevirtual 129, 3) := by decide +kernel
theorem dQ_valid_105 : decode bQ_valid 105 = .ok (.if_icmp .eq 7, 3) := by decide +kernel
theorem dQ_valid_108 : decode bQ_valid 108 = .ok (.iconst 3, 1) := by decide +kernel
theorem dQ_valid_109 : decode bQ_valid 109 = .ok (.goto 4, 3) := by decide +kernel
theorem dQ_valid_112 : decode bQ_valid 112 = .ok (.iconst 0, 1) := by decide +kernel
theorem dQ_valid_113 : decode bQ_valid 113 = .ok (.ireturn, 1) := by decide +kernel
theorem dQ_where_0 : decode bQ_where 0 = .ok (.iload_n 1, 1) := by decide +kernel
theorem dQ_where_1 : decode bQ_where 1 = .ok (.bipush 64, 2) := by decide +kernel
theorem dQ_where_3 : decode bQ_where 3 = .ok (.if_icmp .ge 32, 3) := by decide +kernel
theorem dQ_where_6 : decode bQ_where 6 = .ok (.aload_n 0, 1) := by decide +kernel
theorem dQ_where_7 : decode bQ_where 7 = .ok (.getfield 87, 3) := by decide +kernel
theorem dQ_where_10 : decode bQ_where 10 = .ok (.iconst 1, 1) := by decide +kernel
theorem dQ_where_11 : decode bQ_where 11 = .ok (.if_icmp .ne 22, 3) := by decide +kernel
theorem dQ_where_14 : decode bQ_where 14 = .ok (.bipush 64, 2) := by decide +kernel
theorem dQ_where_16 : decode bQ_where 16 = .ok (.iconst 4, 1) := by decide +kernel
theorem dQ_where_17 : decode bQ_where 17 = .ok (.aload_n 0, 1) := by decide +kernel
theorem dQ_where_18 : decode bQ_where 18 = .ok (.getfield 84, 3) := by decide +kernel
theorem dQ_where_21 : decode bQ_where 21 = .ok (.imul, 1) := by decide +kernel
theorem dQ_where_22 : decode bQ_where 22 = .ok (.aload_n 0, 1) := by decide +kernel
theorem dQ_where_23 : decode bQ_where 23 = .ok (.getfield 114, 3) := by decide +kernel
theorem dQ_where_26 : decode bQ_where 26 = .ok (.irem, 1) := by decide +kernel
theorem dQ_where_27 : decode bQ_where 27 = .ok (.imul, 1) := by decide +kernel
theorem dQ_where_28 : decode bQ_where 28 = .ok (.iload_n 1, 1) := by decide +kernel
theorem dQ_where_29 : decode bQ_where 29 = .ok (.iadd, 1) := by decide +kernel
theorem dQ_where_30 : decode bQ_where 30 = .ok (.goto 4, 3) := by decide +kernel
theorem dQ_where_33 : decode bQ_where 33 = .ok (.iload_n 1, 1) := by decide +kernel
theorem dQ_where_34 : decode bQ_where 34 = .ok (.ireturn, 1) := by decide +kernel
theorem dQ_where_35 : decode bQ_where 35 = .ok (.iload_n 1, 1) := by decide +kernel
theorem dQ_where_36 : decode bQ_where 36 = .ok (.sipush 128, 3) := by decide +kernel
theorem dQ_where_39 : decode bQ_where 39 = .ok (.if_icmp .ge 28, 3) := by decide +kernel
theorem dQ_where_42 : decode bQ_where 42 = .ok (.bipush 64, 2) := by decide +kernel
theorem dQ_where_44 : decode bQ_where 44 = .ok (.iconst 4, 1) := by decide +kernel
theorem dQ_where_45 : decode bQ_where 45 = .ok (.aload_n 0, 1) := by decide +kernel
theorem dQ_where_46 : decode bQ_where 46 = .ok (.getfield 84, 3) := by decide +kernel
theorem dQ_where_49 : decode bQ_where 49 = .ok (.imul, 1) := by decide +kernel
theorem dQ_where_50 : decode bQ_where 50 = .ok (.aload_n 0, 1) := by decide +kernel
theorem dQ_where_51 : decode bQ_where 51 = .ok (.getfield 81, 3) := by decide +kernel
theorem dQ_where_54 : decode bQ_where 54 = .ok (.iadd, 1) := by decide +kernel
theorem dQ_where_55 : decode bQ_where 55 = .ok (.aload_n 0, 1) := by decide +kernel
theorem dQ_where_56 : decode bQ_where 56 = .ok (.getfield 114, 3) := by decide +kernel
theorem dQ_where_59 : decode bQ_where 59 = .ok (.irem, 1) := by decide +kernel
theorem dQ_where_60 : decode bQ_where 60 = .ok (.imul, 1) := by decide +kernel
theorem dQ_where_61 : decode bQ_where 61 = .ok (.iload_n 1, 1) := by decide +kernel
theorem dQ_where_62 : decode bQ_where 62 = .ok (.iadd, 1) := by decide +kernel
theorem dQ_where_63 : decode bQ_where 63 = .ok (.bipush 64, 2) := by decide +kernel
theorem dQ_where_65 : decode bQ_where 65 = .ok (.isub, 1) := by decide +kernel
theorem dQ_where_66 : decode bQ_where 66 = .ok (.ireturn, 1) := by decide +kernel
theorem dQ_where_67 : decode bQ_where 67 = .ok (.iload_n 1, 1) := by decide +kernel
theorem dQ_where_68 : decode bQ_where 68 = .ok (.sipush 192, 3) := by decide +kernel
theorem dQ_where_71 : decode bQ_where 71 = .ok (.if_icmp .ge 46, 3) := by decide +kernel
theorem dQ_where_74 : decode bQ_where 74 = .ok (.aload_n 0, 1) := by decide +kernel
theorem dQ_where_75 : decode bQ_where 75 = .ok (.getfield 78, 3) := by decide +kernel
theorem dQ_where_78 : decode bQ_where 78 = .ok (.ifCond .ne 9, 3) := by decide +kernel
theorem dQ_where_81 : decode bQ_where 81 = .ok (.sipush 704, 3) := by decide +kernel
theorem dQ_where_84 : decode bQ_where 84 = .ok (.goto 32, 3) := by decide +kernel
theorem dQ_where_87 : decode bQ_where 87 = .ok (.sipush 512, 3) := by decide +kernel
theorem dQ_where_90 : decode bQ_where 90 = .ok (.iload_n 1, 1) := by decide +kernel
theorem dQ_where_91 : decode bQ_where 91 = .ok (.iadd, 1) := by decide +kernel
theorem dQ_where_92 : decode bQ_where 92 = .ok (.sipush 128, 3) := by decide +kernel
theorem dQ_where_95 : decode bQ_where 95 = .ok (.isub, 1) := by decide +kernel
theorem dQ_where_96 : decode bQ_where 96 = .ok (.aload_n 0, 1) := by decide +kernel
theorem dQ_where_97 : decode bQ_where 97 = .ok (.getfield 87, 3) := by decide +kernel
theorem dQ_where_100 : decode bQ_where 100 = .ok (.iconst 1, 1) := by decide +kernel
theorem dQ_where_101 : decode bQ_where 101 = .ok (.if_icmp .ne 13, 3) := by decide +kernel
theorem dQ_where_104 : decode bQ_where 104 = .ok (.bipush 64, 2) := by decide +kernel
theorem dQ_where_106 : decode bQ_where 106 = .ok (.aload_n 0, 1) := by decide +kernel
theorem dQ_where_107 : decode bQ_where 107 = .ok (.getfield 84, 3) := by decide +kernel
theorem dQ_where_110 : decode bQ_where 110 = .ok (.imul, 1) := by decide +kernel
theorem dQ_where_111 : decode bQ_where 111 = .ok (.goto 4, 3) := by decide +kernel
theorem dQ_where_114 : decode bQ_where 114 = .ok (.iconst 0, 1) := by decide +kernel
theorem dQ_where_115 : decode bQ_where 115 = .ok (.iadd, 1) := by decide +kernel
theorem dQ_where_116 : decode bQ_where 116 = .ok (.ireturn, 1) := by decide +kernel
theorem dQ_where_117 : decode bQ_where 117 = .ok (.sipush 640, 3) := by decide +kernel
theorem dQ_where_120 : decode bQ_where 120 = .ok (.iload_n 1, 1) := by decide +kernel
theorem dQ_where_121 : decode bQ_where 121 = .ok (.iadd, 1) := by decide +kernel
theorem dQ_where_122 : decode bQ_where 122 = .ok (.sipush 192, 3) := by decide +kernel
theorem dQ_where_125 : decode bQ_where 125 = .ok (.isub, 1) := by decide +kernel
theorem dQ_where_126 : decode bQ_where 126 = .ok (.ireturn, 1) := by decide +kernel
theorem dQ_read_0 : decode bQ_read 0 = .ok (.aload_n 0, 1) := by decide +kernel
theorem dQ_read_1 : decode bQ_read 1 = .ok (.getfield 37, 3) := by decide +kernel
theorem dQ_read_4 : decode bQ_read 4 = .ok (.aload_n 0, 1) := by decide +kernel
theorem dQ_read_5 : decode bQ_read 5 = .ok (.iload_n 1, 1) := by decide +kernel
theorem dQ_read_6 : decode bQ_read 6 = .ok (.invokevirtual 149, 3) := by decide +kernel
theorem dQ_read_9 : decode bQ_read 9 = .ok (.iaload, 1) := by decide +kernel
theorem dQ_read_10 : decode bQ_read 10 = .ok (.ireturn, 1) := by decide +kernel
theorem dQ_write_0 : decode bQ_write 0 = .ok (.iload_n 1, 1) := by decide +kernel
theorem dQ_write_1 : decode bQ_write 1 = .ok (.bipush 32, 2) := by decide +kernel
theorem dQ_write_3 : decode bQ_write 3 = .ok (.if_icmp .ge 24, 3) := by decide +kernel
theorem dQ_write_6 : decode bQ_write 6 = .ok (.aload_n 0, 1) := by decide +kernel
theorem dQ_write_7 : decode bQ_write 7 = .ok (.iload_n 2, 1) := by decide +kernel
theorem dQ_write_8 : decode bQ_write 8 = .ok (.bipush 16, 2) := by decide +kernel
theorem dQ_write_10 : decode bQ_write 10 = .ok (.irem, 1) := by decide +kernel
theorem dQ_write_11 : decode bQ_write 11 = .ok (.bipush 10, 2) := by decide +kernel
theorem dQ_write_13 : decode bQ_write 13 = .ok (.if_icmp .ne 7, 3) := by decide +kernel
theorem dQ_write_16 : decode bQ_write 16 = .ok (.iconst 1, 1) := by decide +kernel
theorem dQ_write_17 : decode bQ_write 17 = .ok (.goto 4, 3) := by decide +kernel
theorem dQ_write_20 : decode bQ_write 20 = .ok (.iconst 0, 1) := by decide +kernel
theorem dQ_write_21 : decode bQ_write 21 = .ok (.putfield 78, 3) := by decide +kernel
theorem dQ_write_24 : decode bQ_write 24 = .ok (.goto 108, 3) := by decide +kernel
theorem dQ_write_27 : decode bQ_write 27 = .ok (.iload_n 1, 1) := by decide +kernel
theorem dQ_write_28 : decode bQ_write 28 = .ok (.bipush 64, 2) := by decide +kernel
theorem dQ_write_30 : decode bQ_write 30 = .ok (.if_icmp .ge 23, 3) := by decide +kernel
theorem dQ_write_33 : decode bQ_write 33 = .ok (.aload_n 0, 1) := by decide +kernel
theorem dQ_write_34 : decode bQ_write 34 = .ok (.iload_n 2, 1) := by decide +kernel
theorem dQ_write_35 : decode bQ_write 35 = .ok (.iconst 4, 1) := by decide +kernel
theorem dQ_write_36 : decode bQ_write 36 = .ok (.irem, 1) := by decide +kernel
theorem dQ_write_37 : decode bQ_write 37 = .ok (.ifCond .le 9, 3) := by decide +kernel
theorem dQ_write_40 : decode bQ_write 40 = .ok (.iload_n 2, 1) := by decide +kernel
theorem dQ_write_41 : decode bQ_write 41 = .ok (.iconst 4, 1) := by decide +kernel
theorem dQ_write_42 : decode bQ_write 42 = .ok (.irem, 1) := by decide +kernel
theorem dQ_write_43 : decode bQ_write 43 = .ok (.goto 4, 3) := by decide +kernel
theorem dQ_write_46 : decode bQ_write 46 = .ok (.iconst 1, 1) := by decide +kernel
theorem dQ_write_47 : decode bQ_write 47 = .ok (.putfield 81, 3) := by decide +kernel
theorem dQ_write_50 : decode bQ_write 50 = .ok (.goto 82, 3) := by decide +kernel
theorem dQ_write_53 : decode bQ_write 53 = .ok (.iload_n 1, 1) := by decide +kernel
theorem dQ_write_54 : decode bQ_write 54 = .ok (.bipush 96, 2) := by decide +kernel
theorem dQ_write_56 : decode bQ_write 56 = .ok (.if_icmp .ge 13, 3) := by decide +kernel
theorem dQ_write_59 : decode bQ_write 59 = .ok (.aload_n 0, 1) := by decide +kernel
theorem dQ_write_60 : decode bQ_write 60 = .ok (.iload_n 2, 1) := by decide +kernel
theorem dQ_write_61 : decode bQ_write 61 = .ok (.iconst 2, 1) := by decide +kernel
theorem dQ_write_62 : decode bQ_write 62 = .ok (.irem, 1) := by decide +kernel
theorem dQ_write_63 : decode bQ_write 63 = .ok (.putfield 84, 3) := by decide +kernel
theorem dQ_write_66 : decode bQ_write 66 = .ok (.goto 66, 3) := by decide +kernel
theorem dQ_write_69 : decode bQ_write 69 = .ok (.iload_n 1, 1) := by decide +kernel
theorem dQ_write_70 : decode bQ_write 70 = .ok (.sipush 128, 3) := by decide +kernel
theorem dQ_write_73 : decode bQ_write 73 = .ok (.if_icmp .ge 13, 3) := by decide +kernel
theorem dQ_write_76 : decode bQ_write 76 = .ok (.aload_n 0, 1) := by decide +kernel
theorem dQ_write_77 : decode bQ_write 77 = .ok (.iload_n 2, 1) := by decide +kernel
theorem dQ_write_78 : decode bQ_write 78 = .ok (.iconst 2, 1) := by decide +kernel
theorem dQ_write_79 : decode bQ_write 79 = .ok (.irem, 1) := by decide +kernel
theorem dQ_write_80 : decode bQ_write 80 = .ok (.putfield 87, 3) := by decide +kernel
theorem dQ_write_83 : decode bQ_write 83 = .ok (.goto 49, 3) := by decide +kernel
theorem dQ_write_86 : decode bQ_write 86 = .ok (.iload_n 1, 1) := by decide +kernel
theorem dQ_write_87 : decode bQ_write 87 = .ok (.sipush 192, 3) := by decide +kernel
theorem dQ_write_90 : decode bQ_write 90 = .ok (.if_icmp .ge 10, 3) := by decide +kernel
theorem dQ_write_93 : decode bQ_write 93 = .ok (.aload_n 0, 1) := by decide +kernel
theorem dQ_write_94 : decode bQ_write 94 = .ok (.getfield 78, 3) := by decide +kernel
theorem dQ_write_97 : decode bQ_write 97 = .ok (.ifCond .ne 10, 3) := by decide +kernel
theorem dQ_write_100 : decode bQ_write 100 = .ok (.iload_n 1, 1) := by decide +kernel
theorem dQ_write_101 : decode bQ_write 101 = .ok (.sipush 191, 3) := by decide +kernel
theorem dQ_write_104 : decode bQ_write 104 = .ok (.if_icmp .le 28, 3) := by decide +kernel
theorem dQ_write_107 : decode bQ_write 107 = .ok (.aload_n 0, 1) := by decide +kernel
theorem dQ_write_108 : decode bQ_write 108 = .ok (.getfield 37, 3) := by decide +kernel
theorem dQ_write_111 : decode bQ_write 111 = .ok (.aload_n 0, 1) := by decide +kernel
theorem dQ_write_112 : decode bQ_write 112 = .ok (.iload_n 1, 1) := by decide +kernel
theorem dQ_write_113 : decode bQ_write 113 = .ok (.invokevirtual 149, 3) := by decide +kernel
theorem dQ_write_116 : decode bQ_write 116 = .ok (.iload_n 1, 1) := by decide +kernel
theorem dQ_write_117 : decode bQ_write 117 = .ok (.sipush 253, 3) := by decide +kernel
theorem dQ_write_120 : decode bQ_write 120 = .ok (.if_icmp .le 10, 3) := by decide +kernel
theorem dQ_write_123 : decode bQ_write 123 = .ok (.iload_n 2, 1) := by decide +kernel
theorem dQ_write_124 : decode bQ_write 124 = .ok (.bipush 16, 2) := by decide +kernel
theorem dQ_write_126 : decode bQ_write 126 = .ok (.irem, 1) := by decide +kernel
theorem dQ_write_127 : decode bQ_write 127 = .ok (.goto 4, 3) := by decide +kernel
theorem dQ_write_130 : decode bQ_write 130 = .ok (.iload_n 2, 1) := by decide +kernel
theorem dQ_write_131 : decode bQ_write 131 = .ok (.iastore, 1) := by decide +kernel
theorem dQ_write_132 : decode bQ_write 132 = .ok (.return_, 1) := by decide +kernel
theorem dQ_get_0 : decode bQ_get 0 = .ok (.iload_n 1, 1) := by decide +kernel
theorem dQ_get_1 : decode bQ_get 1 = .ok (.bipush 6, 2) := by decide +kernel
theorem dQ_get_3 : decode bQ_get 3 = .ok (.if_icmp .ne 16, 3) := by decide +kernel
theorem dQ_get_6 : decode bQ_get 6 = .ok (.aload_n 0, 1) := by decide +kernel
theorem dQ_get_7 : decode bQ_get 7 = .ok (.aload_n 0, 1) := by decide +kernel
theorem dQ_get_8 : decode bQ_get 8 = .ok (.getfield 40, 3) := by decide +kernel
theorem dQ_get_11 : decode bQ_get 11 = .ok (.iconst 5, 1) := by decide +kernel
theorem dQ_get_12 : decode bQ_get 12 = .ok (.iaload, 1) := by decide +kernel
theorem dQ_get_13 : decode bQ_get 13 = .ok (.invokevirtual 152, 3) := by decide +kernel
theorem dQ_get_16 : decode bQ_get 16 = .ok (.goto 9, 3) := by decide +kernel
theorem dQ_get_19 : decode bQ_get 19 = .ok (.aload_n 0, 1) := by decide +kernel
theorem dQ_get_20 : decode bQ_get 20 = .ok (.getfield 40, 3) := by decide +kernel
theorem dQ_get_23 : decode bQ_get 23 = .ok (.iload_n 1, 1) := by decide +kernel
theorem dQ_get_24 : decode bQ_get 24 = .ok (.iaload, 1) := by decide +kernel
theorem dQ_get_25 : decode bQ_get 25 = .ok (.ireturn, 1) := by decide +kernel
theorem dQ_set_0 : decode bQ_set 0 = .ok (.iload_n 1, 1) := by decide +kernel
theorem dQ_set_1 : decode bQ_set 1 = .ok (.bipush 6, 2) := by decide +kernel
theorem dQ_set_3 : decode bQ_set 3 = .ok (.if_icmp .ne 21, 3) := by decide +kernel
theorem dQ_set_6 : decode bQ_set 6 = .ok (.aload_n 0, 1) := by decide +kernel
theorem dQ_set_7 : decode bQ_set 7 = .ok (.aload_n 0, 1) := by decide +kernel
theorem dQ_set_8 : decode bQ_set 8 = .ok (.getfield 40, 3) := by decide +kernel
theorem dQ_set_11 : decode bQ_set 11 = .ok (.iconst 5, 1) := by decide +kernel
theorem dQ_set_12 : decode bQ_set 12 = .ok (.iaload, 1) := by decide +kernel
theorem dQ_set_13 : decode bQ_set 13 = .ok (.iload_n 2, 1) := by decide +kernel
theorem dQ_set_14 : decode bQ_set 14 = .ok (.sipush 255, 3) := by decide +kernel
theorem dQ_set_17 : decode bQ_set 17 = .ok (.iand, 1) := by decide +kernel
theorem dQ_set_18 : decode bQ_set 18 = .ok (.invokevirtual 155, 3) := by decide +kernel
theorem dQ_set_21 : decode bQ_set 21 = .ok (.goto 14, 3) := by decide +kernel
theorem dQ_set_24 : decode bQ_set 24 = .ok (.aload_n 0, 1) := by decide +kernel
theorem dQ_set_25 : decode bQ_set 25 = .ok (.getfield 40, 3) := by decide +kernel
theorem dQ_set_28 : decode bQ_set 28 = .ok (.iload_n 1, 1) := by decide +kernel
theorem dQ_set_29 : decode bQ_set 29 = .ok (.iload_n 2, 1) := by decide +kernel
theorem dQ_set_30 : decode bQ_set 30 = .ok (.sipush 255, 3) := by decide +kernel
theorem dQ_set_33 : decode bQ_set 33 = .ok (.iand, 1) := by decide +kernel
theorem dQ_set_34 : decode bQ_set 34 = .ok (.iastore, 1) := by decide +kernel
theorem dQ_set_35 : decode bQ_set 35 = .ok (.return_, 1) := by decide +kernel
theorem dQ_next_0 : decode bQ_next 0 = .ok (.aload_n 0, 1) := by decide +kernel
theorem dQ_next_1 : decode bQ_next 1 = .ok (.aload_n 0, 1) := by decide +kernel
theorem dQ_next_2 : decode bQ_next 2 = .ok (.getfield 56, 3) := by decide +kernel
theorem dQ_next_5 : decode bQ_next 5 = .ok (.invokevirtual 152, 3) := by decide +kernel
theorem dQ_next_8 : decode bQ_next 8 = .ok (.istore_n 1, 1) := by decide +kernel
theorem dQ_next_9 : decode bQ_next 9 = .ok (.aload_n 0, 1) := by decide +kernel
theorem dQ_next_10 : decode bQ_next 10 = .ok (.aload_n 0, 1) := by decide +kernel
theorem dQ_next_11 : decode bQ_next 11 = .ok (.getfield 56, 3) := by decide +kernel
theorem dQ_next_14 : decode bQ_next 14 = .ok (.iconst 1, 1) := by decide +kernel
theorem dQ_next_15 : decode bQ_next 15 = .ok (.iadd, 1) := by decide +kernel
theorem dQ_next_16 : decode bQ_next 16 = .ok (.sipush 256, 3) := by decide +kernel
theorem dQ_next_19 : decode bQ_next 19 = .ok (.irem, 1) := by decide +kernel
theorem dQ_next_20 : decode bQ_next 20 = .ok (.putfield 56, 3) := by decide +kernel
theorem dQ_next_23 : decode bQ_next 23 = .ok (.iload_n 1, 1) := by decide +kernel
theorem dQ_next_24 : decode bQ_next 24 = .ok (.ireturn, 1) := by decide +kernel
theorem dQ_push_0 : decode bQ_push 0 = .ok (.aload_n 0, 1) := by decide +kernel
theorem dQ_push_1 : decode bQ_push 1 = .ok (.aload_n 0, 1) := by decide +kernel
theorem dQ_push_2 : decode bQ_push 2 = .ok (.getfield 53, 3) := by decide +kernel
theorem dQ_push_5 : decode bQ_push 5 = .ok (.sipush 255, 3) := by decide +kernel
theorem dQ_push_8 : decode bQ_push 8 = .ok (.iadd, 1) := by decide +kernel
theorem dQ_push_9 : decode bQ_push 9 = .ok (.sipush 256, 3) := by decide +kernel
theorem dQ_push_12 : decode bQ_push 12 = .ok (.irem, 1) := by decide +kernel
theorem dQ_push_13 : decode bQ_push 13 = .ok (.putfield 53, 3) := by decide +kernel
theorem dQ_push_16 : decode bQ_push 16 = .ok (.aload_n 0, 1) := by decide +kernel
theorem dQ_push_17 : decode bQ_push 17 = .ok (.aload_n 0, 1) := by decide +kernel
theorem dQ_push_18 : decode bQ_push 18 = .ok (.getfield 53, 3) := by decide +kernel
theorem dQ_push_21 : decode bQ_push 21 = .ok (.iload_n 1, 1) := by decide +kernel
theorem dQ_push_22 : decode bQ_push 22 = .ok (.invokevirtual 155, 3) := by decide +kernel
theorem dQ_push_25 : decode bQ_push 25 = .ok (.return_, 1) := by decide +kernel
theorem dQ_pop_0 : decode bQ_pop 0 = .ok (.aload_n 0, 1) := by decide +kernel
theorem dQ_pop_1 : decode bQ_pop 1 = .ok (.aload_n 0, 1) := by decide +kernel
theorem dQ_pop_2 : decode bQ_pop 2 = .ok (.getfield 53, 3) := by decide +kernel
theorem dQ_pop_5 : decode bQ_pop 5 = .ok (.invokevirtual 152, 3) := by decide +kernel
theorem dQ_pop_8 : decode bQ_pop 8 = .ok (.istore_n 1, 1) := by decide +kernel
theorem dQ_pop_9 : decode bQ_pop 9 = .ok (.aload_n 0, 1) := by decide +kernel
theorem dQ_pop_10 : decode bQ_pop 10 = .ok (.aload_n 0, 1) := by decide +kernel
theorem dQ_pop_11 : decode bQ_pop 11 = .ok (.getfield 53, 3) := by decide +kernel
theorem dQ_pop_14 : decode bQ_pop 14 = .ok (.iconst 1, 1) := by decide +kernel
theorem dQ_pop_15 : decode bQ_pop 15 = .ok (.iadd, 1) := by decide +kernel
theorem dQ_pop_16 : decode bQ_pop 16 = .ok (.sipush 256, 3) := by decide +kernel
theorem dQ_pop_19 : decode bQ_pop 19 = .ok (.irem, 1) := by decide +kernel
theorem dQ_pop_20 : decode bQ_pop 20 = .ok (.putfield 53, 3) := by decide +kernel
theorem dQ_pop_23 : decode bQ_pop 23 = .ok (.iload_n 1, 1) := by decide +kernel
theorem dQ_pop_24 : decode bQ_pop 24 = .ok (.ireturn, 1) := by decide +kernel
theorem dQ_add_0 : decode bQ_add 0 = .ok (.iload_n 1, 1) := by decide +kernel
theorem dQ_add_1 : decode bQ_add 1 = .ok (.bipush 16, 2) := by decide +kernel
theorem dQ_add_3 : decode bQ_add 3 = .ok (.irem, 1) := by decide +kernel
theorem dQ_add_4 : decode bQ_add 4 = .ok (.iload_n 2, 1) := by decide +kernel
theorem dQ_add_5 : decode bQ_add 5 = .ok (.bipush 16, 2) := by decide +kernel
theorem dQ_add_7 : decode bQ_add 7 = .ok (.irem, 1) := by decide +kernel
theorem dQ_add_8 : decode bQ_add 8 = .ok (.iadd, 1) := by decide +kernel
theorem dQ_add_9 : decode bQ_add 9 = .ok (.iload_n 3, 1) := by decide +kernel
theorem dQ_add_10 : decode bQ_add 10 = .ok (.iadd, 1) := by decide +kernel
theorem dQ_add_11 : decode bQ_add 11 = .ok (.istore 4, 2) := by decide +kernel
theorem dQ_add_13 : decode bQ_add 13 = .ok (.iload_n 1, 1) := by decide +kernel
theorem dQ_add_14 : decode bQ_add 14 = .ok (.bipush 16, 2) := by decide +kernel
theorem dQ_add_16 : decode bQ_add 16 = .ok (.idiv, 1) := by decide +kernel
theorem dQ_add_17 : decode bQ_add 17 = .ok (.iload_n 2, 1) := by decide +kernel
theorem dQ_add_18 : decode bQ_add 18 = .ok (.bipush 16, 2) := by decide +kernel
theorem dQ_add_20 : decode bQ_add 20 = .ok (.idiv, 1) := by decide +kernel
theorem dQ_add_21 : decode bQ_add 21 = .ok (.iadd, 1) := by decide +kernel
theorem dQ_add_22 : decode bQ_add 22 = .ok (.iload 4, 2) := by decide +kernel
theorem dQ_add_24 : decode bQ_add 24 = .ok (.bipush 16, 2) := by decide +kernel
theorem dQ_add_26 : decode bQ_add 26 = .ok (.idiv, 1) := by decide +kernel
theorem dQ_add_27 : decode bQ_add 27 = .ok (.iadd, 1) := by decide +kernel
theorem dQ_add_28 : decode bQ_add 28 = .ok (.istore 5, 2) := by decide +kernel
theorem dQ_add_30 : decode bQ_add 30 = .ok (.aload_n 0, 1) := by decide +kernel
theorem dQ_add_31 : decode bQ_add 31 = .ok (.iload 4, 2) := by decide +kernel
theorem dQ_add_33 : decode bQ_add 33 = .ok (.bipush 15, 2) := by decide +kernel
theorem dQ_add_35 : decode bQ_add 35 = .ok (.if_icmp .le 7, 3) := by decide +kernel
theorem dQ_add_38 : decode bQ_add 38 = .ok (.iconst 1, 1) := by decide +kernel
theorem dQ_add_39 : decode bQ_add 39 = .ok (.goto 4, 3) := by decide +kernel
theorem dQ_add_42 : decode bQ_add 42 = .ok (.iconst 0, 1) := by decide +kernel
theorem dQ_add_43 : decode bQ_add 43 = .ok (.putfield 66, 3) := by decide +kernel
theorem dQ_add_46 : decode bQ_add 46 = .ok (.aload_n 0, 1) := by decide +kernel
theorem dQ_add_47 : decode bQ_add 47 = .ok (.iload 5, 2) := by decide +kernel
theorem dQ_add_49 : decode bQ_add 49 = .ok (.bipush 15, 2) := by decide +kernel
theorem dQ_add_51 : decode bQ_add 51 = .ok (.if_icmp .le 7, 3) := by decide +kernel
theorem dQ_add_54 : decode bQ_add 54 = .ok (.iconst 1, 1) := by decide +kernel
theorem dQ_add_55 : decode bQ_add 55 = .ok (.goto 4, 3) := by decide +kernel
theorem dQ_add_58 : decode bQ_add 58 = .ok (.iconst 0, 1) := by decide +kernel
theorem dQ_add_59 : decode bQ_add 59 = .ok (.putfield 69, 3) := by decide +kernel
theorem dQ_add_62 : decode bQ_add 62 = .ok (.aload_n 0, 1) := by decide +kernel
theorem dQ_add_63 : decode bQ_add 63 = .ok (.iconst 0, 1) := by decide +kernel
theorem dQ_add_64 : decode bQ_add 64 = .ok (.putfield 63, 3) := by decide +kernel
theorem dQ_add_67 : decode bQ_add 67 = .ok (.iload 5, 2) := by decide +kernel
theorem dQ_add_69 : decode bQ_add 69 = .ok (.bipush 16, 2) := by decide +kernel
theorem dQ_add_71 : decode bQ_add 71 = .ok (.irem, 1) := by decide +kernel
theorem dQ_add_72 : decode bQ_add 72 = .ok (.bipush 16, 2) := by decide +kernel
theorem dQ_add_74 : decode bQ_add 74 = .ok (.imul, 1) := by decide +kernel
theorem dQ_add_75 : decode bQ_add 75 = .ok (.iload 4, 2) := by decide +kernel
theorem dQ_add_77 : decode bQ_add 77 = .ok (.bipush 16, 2) := by decide +kernel
theorem dQ_add_79 : decode bQ_add 79 = .ok (.irem, 1) := by decide +kernel
theorem dQ_add_80 : decode bQ_add 80 = .ok (.iadd, 1) := by decide +kernel
theorem dQ_add_81 : decode bQ_add 81 = .ok (.istore 6, 2) := by decide +kernel
theorem dQ_add_83 : decode bQ_add 83 = .ok (.aload_n 0, 1) := by decide +kernel
theorem dQ_add_84 : decode bQ_add 84 = .ok (.iload 6, 2) := by decide +kernel
theorem dQ_add_86 : decode bQ_add 86 = .ok (.ifCond .ne 7, 3) := by decide +kernel
theorem dQ_add_89 : decode bQ_add 89 = .ok (.iconst 1, 1) := by decide +kernel
theorem dQ_add_90 : decode bQ_add 90 = .ok (.goto 4, 3) := by decide +kernel
theorem dQ_add_93 : decode bQ_add 93 = .ok (.iconst 0, 1) := by decide +kernel
theorem dQ_add_94 : decode bQ_add 94 = .ok (.putfield 59, 3) := by decide +kernel
theorem dQ_add_97 : decode bQ_add 97 = .ok (.iload 6, 2) := by decide +kernel
theorem dQ_add_99 : decode bQ_add 99 = .ok (.ireturn, 1) := by decide +kernel
theorem dQ_take_0 : decode bQ_take 0 = .ok (.iload_n 1, 1) := by decide +kernel
theorem dQ_take_1 : decode bQ_take 1 = .ok (.bipush 16, 2) := by decide +kernel
theorem dQ_take_3 : decode bQ_take 3 = .ok (.irem, 1) := by decide +kernel
theorem dQ_take_4 : decode bQ_take 4 = .ok (.iload_n 2, 1) := by decide +kernel
theorem dQ_take_5 : decode bQ_take 5 = .ok (.bipush 16, 2) := by decide +kernel
theorem dQ_take_7 : decode bQ_take 7 = .ok (.irem, 1) := by decide +kernel
theorem dQ_take_8 : decode bQ_take 8 = .ok (.isub, 1) := by decide +kernel
theorem dQ_take_9 : decode bQ_take 9 = .ok (.iload_n 3, 1) := by decide +kernel
theorem dQ_take_10 : decode bQ_take 10 = .ok (.isub, 1) := by decide +kernel
theorem dQ_take_11 : decode bQ_take 11 = .ok (.istore 4, 2) := by decide +kernel
theorem dQ_take_13 : decode bQ_take 13 = .ok (.aload_n 0, 1) := by decide +kernel
theorem dQ_take_14 : decode bQ_take 14 = .ok (.iload 4, 2) := by decide +kernel
theorem dQ_take_16 : decode bQ_take 16 = .ok (.ifCond .ge 7, 3) := by decide +kernel
theorem dQ_take_19 : decode bQ_take 19 = .ok (.iconst 1, 1) := by decide +kernel
theorem dQ_take_20 : decode bQ_take 20 = .ok (.goto 4, 3) := by decide +kernel
theorem dQ_take_23 : decode bQ_take 23 = .ok (.iconst 0, 1) := by decide +kernel
theorem dQ_take_24 : decode bQ_take 24 = .ok (.putfield 66, 3) := by decide +kernel
theorem dQ_take_27 : decode bQ_take 27 = .ok (.iload_n 1, 1) := by decide +kernel
theorem dQ_take_28 : decode bQ_take 28 = .ok (.bipush 16, 2) := by decide +kernel
theorem dQ_take_30 : decode bQ_take 30 = .ok (.idiv, 1) := by decide +kernel
theorem dQ_take_31 : decode bQ_take 31 = .ok (.iload_n 2, 1) := by decide +kernel
theorem dQ_take_32 : decode bQ_take 32 = .ok (.bipush 16, 2) := by decide +kernel
theorem dQ_take_34 : decode bQ_take 34 = .ok (.idiv, 1) := by decide +kernel
theorem dQ_take_35 : decode bQ_take 35 = .ok (.isub, 1) := by decide +kernel
theorem dQ_take_36 : decode bQ_take 36 = .ok (.aload_n 0, 1) := by decide +kernel
theorem dQ_take_37 : decode bQ_take 37 = .ok (.getfield 66, 3) := by decide +kernel
theorem dQ_take_40 : decode bQ_take 40 = .ok (.ifCond .eq 7, 3) := by decide +kernel
theorem dQ_take_43 : decode bQ_take 43 = .ok (.iconst 1, 1) := by decide +kernel
theorem dQ_take_44 : decode bQ_take 44 = .ok (.goto 4, 3) := by decide +kernel
theorem dQ_take_47 : decode bQ_take 47 = .ok (.iconst 0, 1) := by decide +kernel
theorem dQ_take_48 : decode bQ_take 48 = .ok (.isub, 1) := by decide +kernel
theorem dQ_take_49 : decode bQ_take 49 = .ok (.istore 5, 2) := by decide +kernel
theorem dQ_take_51 : decode bQ_take 51 = .ok (.aload_n 0, 1) := by decide +kernel
theorem dQ_take_52 : decode bQ_take 52 = .ok (.iload 5, 2) := by decide +kernel
theorem dQ_take_54 : decode bQ_take 54 = .ok (.ifCond .ge 7, 3) := by decide +kernel
theorem dQ_take_57 : decode bQ_take 57 = .ok (.iconst 1, 1) := by decide +kernel
theorem dQ_take_58 : decode bQ_take 58 = .ok (.goto 4, 3) := by decide +kernel
theorem dQ_take_61 : decode bQ_take 61 = .ok (.iconst 0, 1) := by decide +kernel
theorem dQ_take_62 : decode bQ_take 62 = .ok (.putfield 69, 3) := by decide +kernel
theorem dQ_take_65 : decode bQ_take 65 = .ok (.aload_n 0, 1) := by decide +kernel
theorem dQ_take_66 : decode bQ_take 66 = .ok (.iconst 1, 1) := by decide +kernel
theorem dQ_take_67 : decode bQ_take 67 = .ok (.putfield 63, 3) := by decide +kernel
theorem dQ_take_70 : decode bQ_take 70 = .ok (.iload 5, 2) := by decide +kernel
theorem dQ_take_72 : decode bQ_take 72 = .ok (.bipush 16, 2) := by decide +kernel
theorem dQ_take_74 : decode bQ_take 74 = .ok (.iadd, 1) := by decide +kernel
theorem dQ_take_75 : decode bQ_take 75 = .ok (.bipush 16, 2) := by decide +kernel
theorem dQ_take_77 : decode bQ_take 77 = .ok (.irem, 1) := by decide +kernel
theorem dQ_take_78 : decode bQ_take 78 = .ok (.bipush 16, 2) := by decide +kernel
theorem dQ_take_80 : decode bQ_take 80 = .ok (.imul, 1) := by decide +kernel
theorem dQ_take_81 : decode bQ_take 81 = .ok (.iload 4, 2) := by decide +kernel
theorem dQ_take_83 : decode bQ_take 83 = .ok (.bipush 16, 2) := by decide +kernel
theorem dQ_take_85 : decode bQ_take 85 = .ok (.iadd, 1) := by decide +kernel
theorem dQ_take_86 : decode bQ_take 86 = .ok (.bipush 16, 2) := by decide +kernel
theorem dQ_take_88 : decode bQ_take 88 = .ok (.irem, 1) := by decide +kernel
theorem dQ_take_89 : decode bQ_take 89 = .ok (.iadd, 1) := by decide +kernel
theorem dQ_take_90 : decode bQ_take 90 = .ok (.istore 6, 2) := by decide +kernel
theorem dQ_take_92 : decode bQ_take 92 = .ok (.aload_n 0, 1) := by decide +kernel
theorem dQ_take_93 : decode bQ_take 93 = .ok (.iload 6, 2) := by decide +kernel
theorem dQ_take_95 : decode bQ_take 95 = .ok (.ifCond .ne 7, 3) := by decide +kernel
theorem dQ_take_98 : decode bQ_take 98 = .ok (.iconst 1, 1) := by decide +kernel
theorem dQ_take_99 : decode bQ_take 99 = .ok (.goto 4, 3) := by decide +kernel
theorem dQ_take_102 : decode bQ_take 102 = .ok (.iconst 0, 1) := by decide +kernel
theorem dQ_take_103 : decode bQ_take 103 = .ok (.putfield 59, 3) := by decide +kernel
theorem dQ_take_106 : decode bQ_take 106 = .ok (.iload 6, 2) := by decide +kernel
theorem dQ_take_108 : decode bQ_take 108 = .ok (.ireturn, 1) := by decide +kernel
theorem dQ_plain_0 : decode bQ_plain 0 = .ok (.aload_n 0, 1) := by decide +kernel
theorem dQ_plain_1 : decode bQ_plain 1 = .ok (.iload_n 1, 1) := by decide +kernel
theorem dQ_plain_2 : decode bQ_plain 2 = .ok (.ifCond .ne 7, 3) := by decide +kernel
theorem dQ_plain_5 : decode bQ_plain 5 = .ok (.iconst 1, 1) := by decide +kernel
theorem dQ_plain_6 : decode bQ_plain 6 = .ok (.goto 4, 3) := by decide +kernel
theorem dQ_plain_9 : decode bQ_plain 9 = .ok (.iconst 0, 1) := by decide +kernel
theorem dQ_plain_10 : decode bQ_plain 10 = .ok (.putfield 59, 3) := by decide +kernel
theorem dQ_plain_13 : decode bQ_plain 13 = .ok (.aload_n 0, 1) := by decide +kernel
theorem dQ_plain_14 : decode bQ_plain 14 = .ok (.iconst 0, 1) := by decide +kernel
theorem dQ_plain_15 : decode bQ_plain 15 = .ok (.putfield 63, 3) := by decide +kernel
theorem dQ_plain_18 : decode bQ_plain 18 = .ok (.aload_n 0, 1) := by decide +kernel
theorem dQ_plain_19 : decode bQ_plain 19 = .ok (.iload_n 2, 1) := by decide +kernel
theorem dQ_plain_20 : decode bQ_plain 20 = .ok (.putfield 66, 3) := by decide +kernel
theorem dQ_plain_23 : decode bQ_plain 23 = .ok (.aload_n 0, 1) := by decide +kernel
theorem dQ_plain_24 : decode bQ_plain 24 = .ok (.iconst 0, 1) := by decide +kernel
theorem dQ_plain_25 : decode bQ_plain 25 = .ok (.putfield 69, 3) := by decide +kernel
theorem dQ_plain_28 : decode bQ_plain 28 = .ok (.iload_n 1, 1) := by decide +kernel
theorem dQ_plain_29 : decode bQ_plain 29 = .ok (.ireturn, 1) := by decide +kernel
theorem dQ_reckon_0 : decode bQ_reckon 0 = .ok (.aload_n 0, 1) := by decide +kernel
theorem dQ_reckon_1 : decode bQ_reckon 1 = .ok (.getfield 40, 3) := by decide +kernel
theorem dQ_reckon_4 : decode bQ_reckon 4 = .ok (.bipush 7, 2) := by decide +kernel
theorem dQ_reckon_6 : decode bQ_reckon 6 = .ok (.iaload, 1) := by decide +kernel
theorem dQ_reckon_7 : decode bQ_reckon 7 = .ok (.istore_n 3, 1) := by decide +kernel
theorem dQ_reckon_8 : decode bQ_reckon 8 = .ok (.aload_n 0, 1) := by decide +kernel
theorem dQ_reckon_9 : decode bQ_reckon 9 = .ok (.getfield 69, 3) := by decide +kernel
theorem dQ_reckon_12 : decode bQ_reckon 12 = .ok (.ifCond .eq 7, 3) := by decide +kernel
theorem dQ_reckon_15 : decode bQ_reckon 15 = .ok (.iconst 1, 1) := by decide +kernel
theorem dQ_reckon_16 : decode bQ_reckon 16 = .ok (.goto 4, 3) := by decide +kernel
theorem dQ_reckon_19 : decode bQ_reckon 19 = .ok (.iconst 0, 1) := by decide +kernel
theorem dQ_reckon_20 : decode bQ_reckon 20 = .ok (.istore 4, 2) := by decide +kernel
theorem dQ_reckon_22 : decode bQ_reckon 22 = .ok (.iload_n 1, 1) := by decide +kernel
theorem dQ_reckon_23 : decode bQ_reckon 23 = .ok (.iconst 2, 1) := by decide +kernel
theorem dQ_reckon_24 : decode bQ_reckon 24 = .ok (.if_icmp .ge 23, 3) := by decide +kernel
theorem dQ_reckon_27 : decode bQ_reckon 27 = .ok (.aload_n 0, 1) := by decide +kernel
theorem dQ_reckon_28 : decode bQ_reckon 28 = .ok (.getfield 40, 3) := by decide +kernel
theorem dQ_reckon_31 : decode bQ_reckon 31 = .ok (.bipush 7, 2) := by decide +kernel
theorem dQ_reckon_33 : decode bQ_reckon 33 = .ok (.aload_n 0, 1) := by decide +kernel
theorem dQ_reckon_34 : decode bQ_reckon 34 = .ok (.iload_n 3, 1) := by decide +kernel
theorem dQ_reckon_35 : decode bQ_reckon 35 = .ok (.iload_n 2, 1) := by decide +kernel
theorem dQ_reckon_36 : decode bQ_reckon 36 = .ok (.iload_n 1, 1) := by decide +kernel
theorem dQ_reckon_37 : decode bQ_reckon 37 = .ok (.iload 4, 2) := by decide +kernel
theorem dQ_reckon_39 : decode bQ_reckon 39 = .ok (.imul, 1) := by decide +kernel
theorem dQ_reckon_40 : decode bQ_reckon 40 = .ok (.invokevirtual 158, 3) := by decide +kernel
theorem dQ_reckon_43 : decode bQ_reckon 43 = .ok (.iastore, 1) := by decide +kernel
theorem dQ_reckon_44 : decode bQ_reckon 44 = .ok (.goto 108, 3) := by decide +kernel
theorem dQ_reckon_47 : decode bQ_reckon 47 = .ok (.iload_n 1, 1) := by decide +kernel
theorem dQ_reckon_48 : decode bQ_reckon 48 = .ok (.iconst 4, 1) := by decide +kernel
theorem dQ_reckon_49 : decode bQ_reckon 49 = .ok (.if_icmp .ge 25, 3) := by decide +kernel
theorem dQ_reckon_52 : decode bQ_reckon 52 = .ok (.aload_n 0, 1) := by decide +kernel
theorem dQ_reckon_53 : decode bQ_reckon 53 = .ok (.getfield 40, 3) := by decide +kernel
theorem dQ_reckon_56 : decode bQ_reckon 56 = .ok (.bipush 7, 2) := by decide +kernel
theorem dQ_reckon_58 : decode bQ_reckon 58 = .ok (.aload_n 0, 1) := by decide +kernel
theorem dQ_reckon_59 : decode bQ_reckon 59 = .ok (.iload_n 3, 1) := by decide +kernel
theorem dQ_reckon_60 : decode bQ_reckon 60 = .ok (.iload_n 2, 1) := by decide +kernel
theorem dQ_reckon_61 : decode bQ_reckon 61 = .ok (.iload_n 1, 1) := by decide +kernel
theorem dQ_reckon_62 : decode bQ_reckon 62 = .ok (.iconst 2, 1) := by decide +kernel
theorem dQ_reckon_63 : decode bQ_reckon 63 = .ok (.isub, 1) := by decide +kernel
theorem dQ_reckon_64 : decode bQ_reckon 64 = .ok (.iload 4, 2) := by decide +kernel
theorem dQ_reckon_66 : decode bQ_reckon 66 = .ok (.imul, 1) := by decide +kernel
theorem dQ_reckon_67 : decode bQ_reckon 67 = .ok (.invokevirtual 162, 3) := by decide +kernel
theorem dQ_reckon_70 : decode bQ_reckon 70 = .ok (.iastore, 1) := by decide +kernel
theorem dQ_reckon_71 : decode bQ_reckon 71 = .ok (.goto 81, 3) := by decide +kernel
theorem dQ_reckon_74 : decode bQ_reckon 74 = .ok (.iload_n 1, 1) := by decide +kernel
theorem dQ_reckon_75 : decode bQ_reckon 75 = .ok (.iconst 4, 1) := by decide +kernel
theorem dQ_reckon_76 : decode bQ_reckon 76 = .ok (.if_icmp .ne 21, 3) := by decide +kernel
theorem dQ_reckon_79 : decode bQ_reckon 79 = .ok (.aload_n 0, 1) := by decide +kernel
theorem dQ_reckon_80 : decode bQ_reckon 80 = .ok (.getfield 40, 3) := by decide +kernel
theorem dQ_reckon_83 : decode bQ_reckon 83 = .ok (.bipush 7, 2) := by decide +kernel
theorem dQ_reckon_85 : decode bQ_reckon 85 = .ok (.aload_n 0, 1) := by decide +kernel
theorem dQ_reckon_86 : decode bQ_reckon 86 = .ok (.iload_n 3, 1) := by decide +kernel
theorem dQ_reckon_87 : decode bQ_reckon 87 = .ok (.iload_n 2, 1) := by decide +kernel
theorem dQ_reckon_88 : decode bQ_reckon 88 = .ok (.iand, 1) := by decide +kernel
theorem dQ_reckon_89 : decode bQ_reckon 89 = .ok (.iconst 1, 1) := by decide +kernel
theorem dQ_reckon_90 : decode bQ_reckon 90 = .ok (.invokevirtual 165, 3) := by decide +kernel
theorem dQ_reckon_93 : decode bQ_reckon 93 = .ok (.iastore, 1) := by decide +kernel
theorem dQ_reckon_94 : decode bQ_reckon 94 = .ok (.goto 58, 3) := by decide +kernel
theorem dQ_reckon_97 : decode bQ_reckon 97 = .ok (.iload_n 1, 1) := by decide +kernel
theorem dQ_reckon_98 : decode bQ_reckon 98 = .ok (.iconst 5, 1) := by decide +kernel
theorem dQ_reckon_99 : decode bQ_reckon 99 = .ok (.if_icmp .ne 21, 3) := by decide +kernel
theorem dQ_reckon_102 : decode bQ_reckon 102 = .ok (.aload_n 0, 1) := by decide +kernel
theorem dQ_reckon_103 : decode bQ_reckon 103 = .ok (.getfield 40, 3) := by decide +kernel
theorem dQ_reckon_106 : decode bQ_reckon 106 = .ok (.bipush 7, 2) := by decide +kernel
theorem dQ_reckon_108 : decode bQ_reckon 108 = .ok (.aload_n 0, 1) := by decide +kernel
theorem dQ_reckon_109 : decode bQ_reckon 109 = .ok (.iload_n 3, 1) := by decide +kernel
theorem dQ_reckon_110 : decode bQ_reckon 110 = .ok (.iload_n 2, 1) := by decide +kernel
theorem dQ_reckon_111 : decode bQ_reckon 111 = .ok (.ixor, 1) := by decide +kernel
theorem dQ_reckon_112 : decode bQ_reckon 112 = .ok (.iconst 0, 1) := by decide +kernel
theorem dQ_reckon_113 : decode bQ_reckon 113 = .ok (.invokevirtual 165, 3) := by decide +kernel
theorem dQ_reckon_116 : decode bQ_reckon 116 = .ok (.iastore, 1) := by decide +kernel
theorem dQ_reckon_117 : decode bQ_reckon 117 = .ok (.goto 35, 3) := by decide +kernel
theorem dQ_reckon_120 : decode bQ_reckon 120 = .ok (.iload_n 1, 1) := by decide +kernel
theorem dQ_reckon_121 : decode bQ_reckon 121 = .ok (.bipush 6, 2) := by decide +kernel
theorem dQ_reckon_123 : decode bQ_reckon 123 = .ok (.if_icmp .ne 21, 3) := by decide +kernel
theorem dQ_reckon_126 : decode bQ_reckon 126 = .ok (.aload_n 0, 1) := by decide +kernel
theorem dQ_reckon_127 : decode bQ_reckon 127 = .ok (.getfield 40, 3) := by decide +kernel
theorem dQ_reckon_130 : decode bQ_reckon 130 = .ok (.bipush 7, 2) := by decide +kernel
theorem dQ_reckon_132 : decode bQ_reckon 132 = .ok (.aload_n 0, 1) := by decide +kernel
theorem dQ_reckon_133 : decode bQ_reckon 133 = .ok (.iload_n 3, 1) := by decide +kernel
theorem dQ_reckon_134 : decode bQ_reckon 134 = .ok (.iload_n 2, 1) := by decide +kernel
theorem dQ_reckon_135 : decode bQ_reckon 135 = .ok (.ior, 1) := by decide +kernel
theorem dQ_reckon_136 : decode bQ_reckon 136 = .ok (.iconst 0, 1) := by decide +kernel
theorem dQ_reckon_137 : decode bQ_reckon 137 = .ok (.invokevirtual 165, 3) := by decide +kernel
theorem dQ_reckon_140 : decode bQ_reckon 140 = .ok (.iastore, 1) := by decide +kernel
theorem dQ_reckon_141 : decode bQ_reckon 141 = .ok (.goto 11, 3) := by decide +kernel
theorem dQ_reckon_144 : decode bQ_reckon 144 = .ok (.aload_n 0, 1) := by decide +kernel
theorem dQ_reckon_145 : decode bQ_reckon 145 = .ok (.iload_n 3, 1) := by decide +kernel
theorem dQ_reckon_146 : decode bQ_reckon 146 = .ok (.iload_n 2, 1) := by decide +kernel
theorem dQ_reckon_147 : decode bQ_reckon 147 = .ok (.iconst 0, 1) := by decide +kernel
theorem dQ_reckon_148 : decode bQ_reckon 148 = .ok (.invokevirtual 162, 3) := by decide +kernel
theorem dQ_reckon_151 : decode bQ_reckon 151 = .ok (.pop, 1) := by decide +kernel
theorem dQ_reckon_152 : decode bQ_reckon 152 = .ok (.return_, 1) := by decide +kernel
theorem dQ_count_0 : decode bQ_count 0 = .ok (.aload_n 0, 1) := by decide +kernel
theorem dQ_count_1 : decode bQ_count 1 = .ok (.getfield 69, 3) := by decide +kernel
theorem dQ_count_4 : decode bQ_count 4 = .ok (.istore_n 3, 1) := by decide +kernel
theorem dQ_count_5 : decode bQ_count 5 = .ok (.iload_n 2, 1) := by decide +kernel
theorem dQ_count_6 : decode bQ_count 6 = .ok (.ifCond .eq 13, 3) := by decide +kernel
theorem dQ_count_9 : decode bQ_count 9 = .ok (.aload_n 0, 1) := by decide +kernel
theorem dQ_count_10 : decode bQ_count 10 = .ok (.iload_n 1, 1) := by decide +kernel
theorem dQ_count_11 : decode bQ_count 11 = .ok (.iconst 1, 1) := by decide +kernel
theorem dQ_count_12 : decode bQ_count 12 = .ok (.iconst 0, 1) := by decide +kernel
theorem dQ_count_13 : decode bQ_count 13 = .ok (.invokevirtual 158, 3) := by decide +kernel
theorem dQ_count_16 : decode bQ_count 16 = .ok (.goto 10, 3) := by decide +kernel
theorem dQ_count_19 : decode bQ_count 19 = .ok (.aload_n 0, 1) := by decide +kernel
theorem dQ_count_20 : decode bQ_count 20 = .ok (.iload_n 1, 1) := by decide +kernel
theorem dQ_count_21 : decode bQ_count 21 = .ok (.iconst 1, 1) := by decide +kernel
theorem dQ_count_22 : decode bQ_count 22 = .ok (.iconst 0, 1) := by decide +kernel
theorem dQ_count_23 : decode bQ_count 23 = .ok (.invokevirtual 162, 3) := by decide +kernel
theorem dQ_count_26 : decode bQ_count 26 = .ok (.istore 4, 2) := by decide +kernel
theorem dQ_count_28 : decode bQ_count 28 = .ok (.aload_n 0, 1) := by decide +kernel
theorem dQ_count_29 : decode bQ_count 29 = .ok (.iload_n 3, 1) := by decide +kernel
theorem dQ_count_30 : decode bQ_count 30 = .ok (.putfield 69, 3) := by decide +kernel
theorem dQ_count_33 : decode bQ_count 33 = .ok (.iload 4, 2) := by decide +kernel
theorem dQ_count_35 : decode bQ_count 35 = .ok (.ireturn, 1) := by decide +kernel
theorem dQ_adjust_0 : decode bQ_adjust 0 = .ok (.aload_n 0, 1) := by decide +kernel
theorem dQ_adjust_1 : decode bQ_adjust 1 = .ok (.getfield 40, 3) := by decide +kernel
theorem dQ_adjust_4 : decode bQ_adjust 4 = .ok (.bipush 7, 2) := by decide +kernel
theorem dQ_adjust_6 : decode bQ_adjust 6 = .ok (.iaload, 1) := by decide +kernel
theorem dQ_adjust_7 : decode bQ_adjust 7 = .ok (.istore_n 1, 1) := by decide +kernel
theorem dQ_adjust_8 : decode bQ_adjust 8 = .ok (.aload_n 0, 1) := by decide +kernel
theorem dQ_adjust_9 : decode bQ_adjust 9 = .ok (.getfield 66, 3) := by decide +kernel
theorem dQ_adjust_12 : decode bQ_adjust 12 = .ok (.ifCond .ne 19, 3) := by decide +kernel
theorem dQ_adjust_15 : decode bQ_adjust 15 = .ok (.aload_n 0, 1) := by decide +kernel
theorem dQ_adjust_16 : decode bQ_adjust 16 = .ok (.getfield 63, 3) := by decide +kernel
theorem dQ_adjust_19 : decode bQ_adjust 19 = .ok (.ifCond .ne 17, 3) := by decide +kernel
theorem dQ_adjust_22 : decode bQ_adjust 22 = .ok (.iload_n 1, 1) := by decide +kernel
theorem dQ_adjust_23 : decode bQ_adjust 23 = .ok (.bipush 16, 2) := by decide +kernel
theorem dQ_adjust_25 : decode bQ_adjust 25 = .ok (.irem, 1) := by decide +kernel
theorem dQ_adjust_26 : decode bQ_adjust 26 = .ok (.bipush 9, 2) := by decide +kernel
theorem dQ_adjust_28 : decode bQ_adjust 28 = .ok (.if_icmp .le 8, 3) := by decide +kernel
theorem dQ_adjust_31 : decode bQ_adjust 31 = .ok (.bipush 6, 2) := by decide +kernel
theorem dQ_adjust_33 : decode bQ_adjust 33 = .ok (.goto 4, 3) := by decide +kernel
theorem dQ_adjust_36 : decode bQ_adjust 36 = .ok (.iconst 0, 1) := by decide +kernel
theorem dQ_adjust_37 : decode bQ_adjust 37 = .ok (.istore_n 2, 1) := by decide +kernel
theorem dQ_adjust_38 : decode bQ_adjust 38 = .ok (.aload_n 0, 1) := by decide +kernel
theorem dQ_adjust_39 : decode bQ_adjust 39 = .ok (.getfield 69, 3) := by decide +kernel
theorem dQ_adjust_42 : decode bQ_adjust 42 = .ok (.ifCond .ne 17, 3) := by decide +kernel
theorem dQ_adjust_45 : decode bQ_adjust 45 = .ok (.aload_n 0, 1) := by decide +kernel
theorem dQ_adjust_46 : decode bQ_adjust 46 = .ok (.getfield 63, 3) := by decide +kernel
theorem dQ_adjust_49 : decode bQ_adjust 49 = .ok (.ifCond .ne 14, 3) := by decide +kernel
theorem dQ_adjust_52 : decode bQ_adjust 52 = .ok (.iload_n 1, 1) := by decide +kernel
theorem dQ_adjust_53 : decode bQ_adjust 53 = .ok (.sipush 153, 3) := by decide +kernel
theorem dQ_adjust_56 : decode bQ_adjust 56 = .ok (.if_icmp .le 7, 3) := by decide +kernel
theorem dQ_adjust_59 : decode bQ_adjust 59 = .ok (.iconst 1, 1) := by decide +kernel
theorem dQ_adjust_60 : decode bQ_adjust 60 = .ok (.goto 4, 3) := by decide +kernel
theorem dQ_adjust_63 : decode bQ_adjust 63 = .ok (.iconst 0, 1) := by decide +kernel
theorem dQ_adjust_64 : decode bQ_adjust 64 = .ok (.istore_n 3, 1) := by decide +kernel
theorem dQ_adjust_65 : decode bQ_adjust 65 = .ok (.iload_n 3, 1) := by decide +kernel
theorem dQ_adjust_66 : decode bQ_adjust 66 = .ok (.ifCond .eq 10, 3) := by decide +kernel
theorem dQ_adjust_69 : decode bQ_adjust 69 = .ok (.iload_n 2, 1) := by decide +kernel
theorem dQ_adjust_70 : decode bQ_adjust 70 = .ok (.bipush 96, 2) := by decide +kernel
theorem dQ_adjust_72 : decode bQ_adjust 72 = .ok (.iadd, 1) := by decide +kernel
theorem dQ_adjust_73 : decode bQ_adjust 73 = .ok (.goto 4, 3) := by decide +kernel
theorem dQ_adjust_76 : decode bQ_adjust 76 = .ok (.iload_n 2, 1) := by decide +kernel
theorem dQ_adjust_77 : decode bQ_adjust 77 = .ok (.istore_n 2, 1) := by decide +kernel
theorem dQ_adjust_78 : decode bQ_adjust 78 = .ok (.aload_n 0, 1) := by decide +kernel
theorem dQ_adjust_79 : decode bQ_adjust 79 = .ok (.getfield 40, 3) := by decide +kernel
theorem dQ_adjust_82 : decode bQ_adjust 82 = .ok (.bipush 7, 2) := by decide +kernel
theorem dQ_adjust_84 : decode bQ_adjust 84 = .ok (.aload_n 0, 1) := by decide +kernel
theorem dQ_adjust_85 : decode bQ_adjust 85 = .ok (.getfield 63, 3) := by decide +kernel
theorem dQ_adjust_88 : decode bQ_adjust 88 = .ok (.ifCond .eq 9, 3) := by decide +kernel
theorem dQ_adjust_91 : decode bQ_adjust 91 = .ok (.iload_n 1, 1) := by decide +kernel
theorem dQ_adjust_92 : decode bQ_adjust 92 = .ok (.iload_n 2, 1) := by decide +kernel
theorem dQ_adjust_93 : decode bQ_adjust 93 = .ok (.isub, 1) := by decide +kernel
theorem dQ_adjust_94 : decode bQ_adjust 94 = .ok (.goto 6, 3) := by decide +kernel
theorem dQ_adjust_97 : decode bQ_adjust 97 = .ok (.iload_n 1, 1) := by decide +kernel
theorem dQ_adjust_98 : decode bQ_adjust 98 = .ok (.iload_n 2, 1) := by decide +kernel
theorem dQ_adjust_99 : decode bQ_adjust 99 = .ok (.iadd, 1) := by decide +kernel
theorem dQ_adjust_100 : decode bQ_adjust 100 = .ok (.sipush 255, 3) := by decide +kernel
theorem dQ_adjust_103 : decode bQ_adjust 103 = .ok (.iand, 1) := by decide +kernel
theorem dQ_adjust_104 : decode bQ_adjust 104 = .ok (.iastore, 1) := by decide +kernel
theorem dQ_adjust_105 : decode bQ_adjust 105 = .ok (.aload_n 0, 1) := by decide +kernel
theorem dQ_adjust_106 : decode bQ_adjust 106 = .ok (.aload_n 0, 1) := by decide +kernel
theorem dQ_adjust_107 : decode bQ_adjust 107 = .ok (.getfield 40, 3) := by decide +kernel
theorem dQ_adjust_110 : decode bQ_adjust 110 = .ok (.bipush 7, 2) := by decide +kernel
theorem dQ_adjust_112 : decode bQ_adjust 112 = .ok (.iaload, 1) := by decide +kernel
theorem dQ_adjust_113 : decode bQ_adjust 113 = .ok (.ifCond .ne 7, 3) := by decide +kernel
theorem dQ_adjust_116 : decode bQ_adjust 116 = .ok (.iconst 1, 1) := by decide +kernel
theorem dQ_adjust_117 : decode bQ_adjust 117 = .ok (.goto 4, 3) := by decide +kernel
theorem dQ_adjust_120 : decode bQ_adjust 120 = .ok (.iconst 0, 1) := by decide +kernel
theorem dQ_adjust_121 : decode bQ_adjust 121 = .ok (.putfield 59, 3) := by decide +kernel
theorem dQ_adjust_124 : decode bQ_adjust 124 = .ok (.aload_n 0, 1) := by decide +kernel
theorem dQ_adjust_125 : decode bQ_adjust 125 = .ok (.iconst 0, 1) := by decide +kernel
theorem dQ_adjust_126 : decode bQ_adjust 126 = .ok (.putfield 66, 3) := by decide +kernel
theorem dQ_adjust_129 : decode bQ_adjust 129 = .ok (.aload_n 0, 1) := by decide +kernel
theorem dQ_adjust_130 : decode bQ_adjust 130 = .ok (.iload_n 3, 1) := by decide +kernel
theorem dQ_adjust_131 : decode bQ_adjust 131 = .ok (.putfield 69, 3) := by decide +kernel
theorem dQ_adjust_134 : decode bQ_adjust 134 = .ok (.return_, 1) := by decide +kernel
theorem dQ_turned_0 : decode bQ_turned 0 = .ok (.iload_n 1, 1) := by decide +kernel
theorem dQ_turned_1 : decode bQ_turned 1 = .ok (.iconst 2, 1) := by decide +kernel
theorem dQ_turned_2 : decode bQ_turned 2 = .ok (.irem, 1) := by decide +kernel
theorem dQ_turned_3 : decode bQ_turned 3 = .ok (.ifCond .ne 13, 3) := by decide +kernel
theorem dQ_turned_6 : decode bQ_turned 6 = .ok (.iload_n 1, 1) := by decide +kernel
theorem dQ_turned_7 : decode bQ_turned 7 = .ok (.bipush 6, 2) := by decide +kernel
theorem dQ_turned_9 : decode bQ_turned 9 = .ok (.if_icmp .ge 7, 3) := by decide +kernel
theorem dQ_turned_12 : decode bQ_turned 12 = .ok (.iconst 1, 1) := by decide +kernel
theorem dQ_turned_13 : decode bQ_turned 13 = .ok (.goto 4, 3) := by decide +kernel
theorem dQ_turned_16 : decode bQ_turned 16 = .ok (.iconst 0, 1) := by decide +kernel
theorem dQ_turned_17 : decode bQ_turned 17 = .ok (.istore_n 3, 1) := by decide +kernel
theorem dQ_turned_18 : decode bQ_turned 18 = .ok (.iload_n 3, 1) := by decide +kernel
theorem dQ_turned_19 : decode bQ_turned 19 = .ok (.ifCond .eq 11, 3) := by decide +kernel
theorem dQ_turned_22 : decode bQ_turned 22 = .ok (.iload_n 2, 1) := by decide +kernel
theorem dQ_turned_23 : decode bQ_turned 23 = .ok (.sipush 128, 3) := by decide +kernel
theorem dQ_turned_26 : decode bQ_turned 26 = .ok (.idiv, 1) := by decide +kernel
theorem dQ_turned_27 : decode bQ_turned 27 = .ok (.goto 6, 3) := by decide +kernel
theorem dQ_turned_30 : decode bQ_turned 30 = .ok (.iload_n 2, 1) := by decide +kernel
theorem dQ_turned_31 : decode bQ_turned 31 = .ok (.iconst 2, 1) := by decide +kernel
theorem dQ_turned_32 : decode bQ_turned 32 = .ok (.irem, 1) := by decide +kernel
theorem dQ_turned_33 : decode bQ_turned 33 = .ok (.istore 4, 2) := by decide +kernel
theorem dQ_turned_35 : decode bQ_turned 35 = .ok (.iload_n 1, 1) := by decide +kernel
theorem dQ_turned_36 : decode bQ_turned 36 = .ok (.iconst 2, 1) := by decide +kernel
theorem dQ_turned_37 : decode bQ_turned 37 = .ok (.if_icmp .ge 8, 3) := by decide +kernel
theorem dQ_turned_40 : decode bQ_turned 40 = .ok (.iload 4, 2) := by decide +kernel
theorem dQ_turned_42 : decode bQ_turned 42 = .ok (.goto 37, 3) := by decide +kernel
theorem dQ_turned_45 : decode bQ_turned 45 = .ok (.iload_n 1, 1) := by decide +kernel
theorem dQ_turned_46 : decode bQ_turned 46 = .ok (.iconst 4, 1) := by decide +kernel
theorem dQ_turned_47 : decode bQ_turned 47 = .ok (.if_icmp .ge 18, 3) := by decide +kernel
theorem dQ_turned_50 : decode bQ_turned 50 = .ok (.aload_n 0, 1) := by decide +kernel
theorem dQ_turned_51 : decode bQ_turned 51 = .ok (.getfield 69, 3) := by decide +kernel
theorem dQ_turned_54 : decode bQ_turned 54 = .ok (.ifCond .eq 7, 3) := by decide +kernel
theorem dQ_turned_57 : decode bQ_turned 57 = .ok (.iconst 1, 1) := by decide +kernel
theorem dQ_turned_58 : decode bQ_turned 58 = .ok (.goto 21, 3) := by decide +kernel
theorem dQ_turned_61 : decode bQ_turned 61 = .ok (.iconst 0, 1) := by decide +kernel
theorem dQ_turned_62 : decode bQ_turned 62 = .ok (.goto 17, 3) := by decide +kernel
theorem dQ_turned_65 : decode bQ_turned 65 = .ok (.iload_n 1, 1) := by decide +kernel
theorem dQ_turned_66 : decode bQ_turned 66 = .ok (.iconst 5, 1) := by decide +kernel
theorem dQ_turned_67 : decode bQ_turned 67 = .ok (.if_icmp .ne 11, 3) := by decide +kernel
theorem dQ_turned_70 : decode bQ_turned 70 = .ok (.iload_n 2, 1) := by decide +kernel
theorem dQ_turned_71 : decode bQ_turned 71 = .ok (.sipush 128, 3) := by decide +kernel
theorem dQ_turned_74 : decode bQ_turned 74 = .ok (.idiv, 1) := by decide +kernel
theorem dQ_turned_75 : decode bQ_turned 75 = .ok (.goto 4, 3) := by decide +kernel
theorem dQ_turned_78 : decode bQ_turned 78 = .ok (.iconst 0, 1) := by decide +kernel
theorem dQ_turned_79 : decode bQ_turned 79 = .ok (.istore 5, 2) := by decide +kernel
theorem dQ_turned_81 : decode bQ_turned 81 = .ok (.aload_n 0, 1) := by decide +kernel
theorem dQ_turned_82 : decode bQ_turned 82 = .ok (.iload_n 3, 1) := by decide +kernel
theorem dQ_turned_83 : decode bQ_turned 83 = .ok (.ifCond .eq 16, 3) := by decide +kernel
theorem dQ_turned_86 : decode bQ_turned 86 = .ok (.iload_n 2, 1) := by decide +kernel
theorem dQ_turned_87 : decode bQ_turned 87 = .ok (.iconst 2, 1) := by decide +kernel
theorem dQ_turned_88 : decode bQ_turned 88 = .ok (.imul, 1) := by decide +kernel
theorem dQ_turned_89 : decode bQ_turned 89 = .ok (.sipush 256, 3) := by decide +kernel
theorem dQ_turned_92 : decode bQ_turned 92 = .ok (.irem, 1) := by decide +kernel
theorem dQ_turned_93 : decode bQ_turned 93 = .ok (.iload 5, 2) := by decide +kernel
theorem dQ_turned_95 : decode bQ_turned 95 = .ok (.iadd, 1) := by decide +kernel
theorem dQ_turned_96 : decode bQ_turned 96 = .ok (.goto 13, 3) := by decide +kernel
theorem dQ_turned_99 : decode bQ_turned 99 = .ok (.iload_n 2, 1) := by decide +kernel
theorem dQ_turned_100 : decode bQ_turned 100 = .ok (.iconst 2, 1) := by decide +kernel
theorem dQ_turned_101 : decode bQ_turned 101 = .ok (.idiv, 1) := by decide +kernel
theorem dQ_turned_102 : decode bQ_turned 102 = .ok (.sipush 128, 3) := by decide +kernel
theorem dQ_turned_105 : decode bQ_turned 105 = .ok (.iload 5, 2) := by decide +kernel
theorem dQ_turned_107 : decode bQ_turned 107 = .ok (.imul, 1) := by decide +kernel
theorem dQ_turned_108 : decode bQ_turned 108 = .ok (.iadd, 1) := by decide +kernel
theorem dQ_turned_109 : decode bQ_turned 109 = .ok (.iconst 0, 1) := by decide +kernel
theorem dQ_turned_110 : decode bQ_turned 110 = .ok (.invokevirtual 165, 3) := by decide +kernel
theorem dQ_turned_113 : decode bQ_turned 113 = .ok (.istore 6, 2) := by decide +kernel
theorem dQ_turned_115 : decode bQ_turned 115 = .ok (.aload_n 0, 1) := by decide +kernel
theorem dQ_turned_116 : decode bQ_turned 116 = .ok (.iload 4, 2) := by decide +kernel
theorem dQ_turned_118 : decode bQ_turned 118 = .ok (.iconst 1, 1) := by decide +kernel
theorem dQ_turned_119 : decode bQ_turned 119 = .ok (.if_icmp .ne 7, 3) := by decide +kernel
theorem dQ_turned_122 : decode bQ_turned 122 = .ok (.iconst 1, 1) := by decide +kernel
theorem dQ_turned_123 : decode bQ_turned 123 = .ok (.goto 4, 3) := by decide +kernel
theorem dQ_turned_126 : decode bQ_turned 126 = .ok (.iconst 0, 1) := by decide +kernel
theorem dQ_turned_127 : decode bQ_turned 127 = .ok (.putfield 69, 3) := by decide +kernel
theorem dQ_turned_130 : decode bQ_turned 130 = .ok (.iload 6, 2) := by decide +kernel
theorem dQ_turned_132 : decode bQ_turned 132 = .ok (.ireturn, 1) := by decide +kernel
theorem dQ_bits_0 : decode bQ_bits 0 = .ok (.iload_n 1, 1) := by decide +kernel
theorem dQ_bits_1 : decode bQ_bits 1 = .ok (.bipush 8, 2) := by decide +kernel
theorem dQ_bits_3 : decode bQ_bits 3 = .ok (.irem, 1) := by decide +kernel
theorem dQ_bits_4 : decode bQ_bits 4 = .ok (.istore_n 2, 1) := by decide +kernel
theorem dQ_bits_5 : decode bQ_bits 5 = .ok (.iload_n 1, 1) := by decide +kernel
theorem dQ_bits_6 : decode bQ_bits 6 = .ok (.bipush 8, 2) := by decide +kernel
theorem dQ_bits_8 : decode bQ_bits 8 = .ok (.idiv, 1) := by decide +kernel
theorem dQ_bits_9 : decode bQ_bits 9 = .ok (.istore_n 3, 1) := by decide +kernel
theorem dQ_bits_10 : decode bQ_bits 10 = .ok (.iconst 1, 1) := by decide +kernel
theorem dQ_bits_11 : decode bQ_bits 11 = .ok (.iload_n 3, 1) := by decide +kernel
theorem dQ_bits_12 : decode bQ_bits 12 = .ok (.bipush 8, 2) := by decide +kernel
theorem dQ_bits_14 : decode bQ_bits 14 = .ok (.irem, 1) := by decide +kernel
theorem dQ_bits_15 : decode bQ_bits 15 = .ok (.ishl, 1) := by decide +kernel
theorem dQ_bits_16 : decode bQ_bits 16 = .ok (.istore 4, 2) := by decide +kernel
theorem dQ_bits_18 : decode bQ_bits 18 = .ok (.iload_n 3, 1) := by decide +kernel
theorem dQ_bits_19 : decode bQ_bits 19 = .ok (.bipush 7, 2) := by decide +kernel
theorem dQ_bits_21 : decode bQ_bits 21 = .ok (.if_icmp .ne 4, 3) := by decide +kernel
theorem dQ_bits_24 : decode bQ_bits 24 = .ok (.return_, 1) := by decide +kernel
theorem dQ_bits_25 : decode bQ_bits 25 = .ok (.aload_n 0, 1) := by decide +kernel
theorem dQ_bits_26 : decode bQ_bits 26 = .ok (.iload_n 2, 1) := by decide +kernel
theorem dQ_bits_27 : decode bQ_bits 27 = .ok (.invokevirtual 169, 3) := by decide +kernel
theorem dQ_bits_30 : decode bQ_bits 30 = .ok (.istore 5, 2) := by decide +kernel
theorem dQ_bits_32 : decode bQ_bits 32 = .ok (.iload_n 3, 1) := by decide +kernel
theorem dQ_bits_33 : decode bQ_bits 33 = .ok (.bipush 7, 2) := by decide +kernel
theorem dQ_bits_35 : decode bQ_bits 35 = .ok (.if_icmp .ge 18, 3) := by decide +kernel
theorem dQ_bits_38 : decode bQ_bits 38 = .ok (.aload_n 0, 1) := by decide +kernel
theorem dQ_bits_39 : decode bQ_bits 39 = .ok (.iload_n 2, 1) := by decide +kernel
theorem dQ_bits_40 : decode bQ_bits 40 = .ok (.aload_n 0, 1) := by decide +kernel
theorem dQ_bits_41 : decode bQ_bits 41 = .ok (.iload_n 3, 1) := by decide +kernel
theorem dQ_bits_42 : decode bQ_bits 42 = .ok (.iload 5, 2) := by decide +kernel
theorem dQ_bits_44 : decode bQ_bits 44 = .ok (.invokevirtual 172, 3) := by decide +kernel
theorem dQ_bits_47 : decode bQ_bits 47 = .ok (.invokevirtual 176, 3) := by decide +kernel
theorem dQ_bits_50 : decode bQ_bits 50 = .ok (.goto 67, 3) := by decide +kernel
theorem dQ_bits_53 : decode bQ_bits 53 = .ok (.iload_n 3, 1) := by decide +kernel
theorem dQ_bits_54 : decode bQ_bits 54 = .ok (.bipush 16, 2) := by decide +kernel
theorem dQ_bits_56 : decode bQ_bits 56 = .ok (.if_icmp .ge 33, 3) := by decide +kernel
theorem dQ_bits_59 : decode bQ_bits 59 = .ok (.aload_n 0, 1) := by decide +kernel
theorem dQ_bits_60 : decode bQ_bits 60 = .ok (.iload 5, 2) := by decide +kernel
theorem dQ_bits_62 : decode bQ_bits 62 = .ok (.iload 4, 2) := by decide +kernel
theorem dQ_bits_64 : decode bQ_bits 64 = .ok (.iand, 1) := by decide +kernel
theorem dQ_bits_65 : decode bQ_bits 65 = .ok (.ifCond .ne 7, 3) := by decide +kernel
theorem dQ_bits_68 : decode bQ_bits 68 = .ok (.iconst 1, 1) := by decide +kernel
theorem dQ_bits_69 : decode bQ_bits 69 = .ok (.goto 4, 3) := by decide +kernel
theorem dQ_bits_72 : decode bQ_bits 72 = .ok (.iconst 0, 1) := by decide +kernel
theorem dQ_bits_73 : decode bQ_bits 73 = .ok (.putfield 59, 3) := by decide +kernel
theorem dQ_bits_76 : decode bQ_bits 76 = .ok (.aload_n 0, 1) := by decide +kernel
theorem dQ_bits_77 : decode bQ_bits 77 = .ok (.iconst 0, 1) := by decide +kernel
theorem dQ_bits_78 : decode bQ_bits 78 = .ok (.putfield 63, 3) := by decide +kernel
theorem dQ_bits_81 : decode bQ_bits 81 = .ok (.aload_n 0, 1) := by decide +kernel
theorem dQ_bits_82 : decode bQ_bits 82 = .ok (.iconst 1, 1) := by decide +kernel
theorem dQ_bits_83 : decode bQ_bits 83 = .ok (.putfield 66, 3) := by decide +kernel
theorem dQ_bits_86 : decode bQ_bits 86 = .ok (.goto 31, 3) := by decide +kernel
theorem dQ_bits_89 : decode bQ_bits 89 = .ok (.aload_n 0, 1) := by decide +kernel
theorem dQ_bits_90 : decode bQ_bits 90 = .ok (.iload_n 2, 1) := by decide +kernel
theorem dQ_bits_91 : decode bQ_bits 91 = .ok (.iload_n 3, 1) := by decide +kernel
theorem dQ_bits_92 : decode bQ_bits 92 = .ok (.bipush 24, 2) := by decide +kernel
theorem dQ_bits_94 : decode bQ_bits 94 = .ok (.if_icmp .ge 15, 3) := by decide +kernel
theorem dQ_bits_97 : decode bQ_bits 97 = .ok (.iload 5, 2) := by decide +kernel
theorem dQ_bits_99 : decode bQ_bits 99 = .ok (.sipush 255, 3) := by decide +kernel
theorem dQ_bits_102 : decode bQ_bits 102 = .ok (.iload 4, 2) := by decide +kernel
theorem dQ_bits_104 : decode bQ_bits 104 = .ok (.isub, 1) := by decide +kernel
theorem dQ_bits_105 : decode bQ_bits 105 = .ok (.iand, 1) := by decide +kernel
theorem dQ_bits_106 : decode bQ_bits 106 = .ok (.goto 8, 3) := by decide +kernel
theorem dQ_bits_109 : decode bQ_bits 109 = .ok (.iload 5, 2) := by decide +kernel
theorem dQ_bits_111 : decode bQ_bits 111 = .ok (.iload 4, 2) := by decide +kernel
theorem dQ_bits_113 : decode bQ_bits 113 = .ok (.ior, 1) := by decide +kernel
theorem dQ_bits_114 : decode bQ_bits 114 = .ok (.invokevirtual 176, 3) := by decide +kernel
theorem dQ_bits_117 : decode bQ_bits 117 = .ok (.return_, 1) := by decide +kernel
theorem dQ_stand_0 : decode bQ_stand 0 = .ok (.aload_n 0, 1) := by decide +kernel
theorem dQ_stand_1 : decode bQ_stand 1 = .ok (.iload_n 1, 1) := by decide +kernel
theorem dQ_stand_2 : decode bQ_stand 2 = .ok (.putfield 90, 3) := by decide +kernel
theorem dQ_stand_5 : decode bQ_stand 5 = .ok (.aload_n 0, 1) := by decide +kernel
theorem dQ_stand_6 : decode bQ_stand 6 = .ok (.aload_n 0, 1) := by decide +kernel
theorem dQ_stand_7 : decode bQ_stand 7 = .ok (.getfield 56, 3) := by decide +kernel
theorem dQ_stand_10 : decode bQ_stand 10 = .ok (.sipush 255, 3) := by decide +kernel
theorem dQ_stand_13 : decode bQ_stand 13 = .ok (.iadd, 1) := by decide +kernel
theorem dQ_stand_14 : decode bQ_stand 14 = .ok (.sipush 256, 3) := by decide +kernel
theorem dQ_stand_17 : decode bQ_stand 17 = .ok (.irem, 1) := by decide +kernel
theorem dQ_stand_18 : decode bQ_stand 18 = .ok (.putfield 56, 3) := by decide +kernel
theorem dQ_stand_21 : decode bQ_stand 21 = .ok (.return_, 1) := by decide +kernel
theorem dQ_few_0 : decode bQ_few 0 = .ok (.iload_n 1, 1) := by decide +kernel
theorem dQ_few_1 : decode bQ_few 1 = .ok (.tableswitch 241 0 11 #[63, 66, 74, 82, 90, 171, 98, 105, 136, 136, 171, 203], 63) := by decide +kernel
theorem dQ_few_64 : decode bQ_few 64 = .ok (.goto 183, 3) := by decide +kernel
theorem dQ_few_67 : decode bQ_few 67 = .ok (.aload_n 0, 1) := by decide +kernel
theorem dQ_few_68 : decode bQ_few 68 = .ok (.iconst 1, 1) := by decide +kernel
theorem dQ_few_69 : decode bQ_few 69 = .ok (.invokevirtual 179, 3) := by decide +kernel
theorem dQ_few_72 : decode bQ_few 72 = .ok (.goto 175, 3) := by decide +kernel
theorem dQ_few_75 : decode bQ_few 75 = .ok (.aload_n 0, 1) := by decide +kernel
theorem dQ_few_76 : decode bQ_few 76 = .ok (.iconst 2, 1) := by decide +kernel
theorem dQ_few_77 : decode bQ_few 77 = .ok (.invokevirtual 179, 3) := by decide +kernel
theorem dQ_few_80 : decode bQ_few 80 = .ok (.goto 167, 3) := by decide +kernel
theorem dQ_few_83 : decode bQ_few 83 = .ok (.aload_n 0, 1) := by decide +kernel
theorem dQ_few_84 : decode bQ_few 84 = .ok (.iconst 0, 1) := by decide +kernel
theorem dQ_few_85 : decode bQ_few 85 = .ok (.putfield 72, 3) := by decide +kernel
theorem dQ_few_88 : decode bQ_few 88 = .ok (.goto 159, 3) := by decide +kernel
theorem dQ_few_91 : decode bQ_few 91 = .ok (.aload_n 0, 1) := by decide +kernel
theorem dQ_few_92 : decode bQ_few 92 = .ok (.iconst 1, 1) := by decide +kernel
theorem dQ_few_93 : decode bQ_few 93 = .ok (.putfield 75, 3) := by decide +kernel
theorem dQ_few_96 : decode bQ_few 96 = .ok (.goto 151, 3) := by decide +kernel
theorem dQ_few_99 : decode bQ_few 99 = .ok (.aload_n 0, 1) := by decide +kernel
theorem dQ_few_100 : decode bQ_few 100 = .ok (.invokevirtual 182, 3) := by decide +kernel
theorem dQ_few_103 : decode bQ_few 103 = .ok (.goto 144, 3) := by decide +kernel
theorem dQ_few_106 : decode bQ_few 106 = .ok (.aload_n 0, 1) := by decide +kernel
theorem dQ_few_107 : decode bQ_few 107 = .ok (.getfield 40, 3) := by decide +kernel
theorem dQ_few_110 : decode bQ_few 110 = .ok (.bipush 7, 2) := by decide +kernel
theorem dQ_few_112 : decode bQ_few 112 = .ok (.sipush 255, 3) := by decide +kernel
theorem dQ_few_115 : decode bQ_few 115 = .ok (.aload_n 0, 1) := by decide +kernel
theorem dQ_few_116 : decode bQ_few 116 = .ok (.getfield 40, 3) := by decide +kernel
theorem dQ_few_119 : decode bQ_few 119 = .ok (.bipush 7, 2) := by decide +kernel
theorem dQ_few_121 : decode bQ_few 121 = .ok (.iaload, 1) := by decide +kernel
theorem dQ_few_122 : decode bQ_few 122 = .ok (.isub, 1) := by decide +kernel
theorem dQ_few_123 : decode bQ_few 123 = .ok (.iastore, 1) := by decide +kernel
theorem dQ_few_124 : decode bQ_few 124 = .ok (.aload_n 0, 1) := by decide +kernel
theorem dQ_few_125 : decode bQ_few 125 = .ok (.iconst 1, 1) := by decide +kernel
theorem dQ_few_126 : decode bQ_few 126 = .ok (.putfield 63, 3) := by decide +kernel
theorem dQ_few_129 : decode bQ_few 129 = .ok (.aload_n 0, 1) := by decide +kernel
theorem dQ_few_130 : decode bQ_few 130 = .ok (.iconst 1, 1) := by decide +kernel
theorem dQ_few_131 : decode bQ_few 131 = .ok (.putfield 66, 3) := by decide +kernel
theorem dQ_few_134 : decode bQ_few 134 = .ok (.goto 113, 3) := by decide +kernel
theorem dQ_few_137 : decode bQ_few 137 = .ok (.aload_n 0, 1) := by decide +kernel
theorem dQ_few_138 : decode bQ_few 138 = .ok (.iload_n 1, 1) := by decide +kernel
theorem dQ_few_139 : decode bQ_few 139 = .ok (.bipush 8, 2) := by decide +kernel
theorem dQ_few_141 : decode bQ_few 141 = .ok (.if_icmp .eq 10, 3) := by decide +kernel
theorem dQ_few_144 : decode bQ_few 144 = .ok (.aload_n 0, 1) := by decide +kernel
theorem dQ_few_145 : decode bQ_few 145 = .ok (.getfield 69, 3) := by decide +kernel
theorem dQ_few_148 : decode bQ_few 148 = .ok (.ifCond .ne 7, 3) := by decide +kernel
theorem dQ_few_151 : decode bQ_few 151 = .ok (.iconst 1, 1) := by decide +kernel
theorem dQ_few_152 : decode bQ_few 152 = .ok (.goto 4, 3) := by decide +kernel
theorem dQ_few_155 : decode bQ_few 155 = .ok (.iconst 0, 1) := by decide +kernel
theorem dQ_few_156 : decode bQ_few 156 = .ok (.putfield 69, 3) := by decide +kernel
theorem dQ_few_159 : decode bQ_few 159 = .ok (.aload_n 0, 1) := by decide +kernel
theorem dQ_few_160 : decode bQ_few 160 = .ok (.iconst 0, 1) := by decide +kernel
theorem dQ_few_161 : decode bQ_few 161 = .ok (.putfield 63, 3) := by decide +kernel
theorem dQ_few_164 : decode bQ_few 164 = .ok (.aload_n 0, 1) := by decide +kernel
theorem dQ_few_165 : decode bQ_few 165 = .ok (.iconst 0, 1) := by decide +kernel
theorem dQ_few_166 : decode bQ_few 166 = .ok (.putfield 66, 3) := by decide +kernel
theorem dQ_few_169 : decode bQ_few 169 = .ok (.goto 78, 3) := by decide +kernel
theorem dQ_few_172 : decode bQ_few 172 = .ok (.aload_n 0, 1) := by decide +kernel
theorem dQ_few_173 : decode bQ_few 173 = .ok (.aload_n 0, 1) := by decide +kernel
theorem dQ_few_174 : decode bQ_few 174 = .ok (.invokevirtual 185, 3) := by decide +kernel
theorem dQ_few_177 : decode bQ_few 177 = .ok (.putfield 56, 3) := by decide +kernel
theorem dQ_few_180 : decode bQ_few 180 = .ok (.aload_n 0, 1) := by decide +kernel
theorem dQ_few_181 : decode bQ_few 181 = .ok (.aload_n 0, 1) := by decide +kernel
theorem dQ_few_182 : decode bQ_few 182 = .ok (.getfield 72, 3) := by decide +kernel
theorem dQ_few_185 : decode bQ_few 185 = .ok (.ifCond .ne 8, 3) := by decide +kernel
theorem dQ_few_188 : decode bQ_few 188 = .ok (.iload_n 1, 1) := by decide +kernel
theorem dQ_few_189 : decode bQ_few 189 = .ok (.iconst 5, 1) := by decide +kernel
theorem dQ_few_190 : decode bQ_few 190 = .ok (.if_icmp .ne 7, 3) := by decide +kernel
theorem dQ_few_193 : decode bQ_few 193 = .ok (.iconst 1, 1) := by decide +kernel
theorem dQ_few_194 : decode bQ_few 194 = .ok (.goto 4, 3) := by decide +kernel
theorem dQ_few_197 : decode bQ_few 197 = .ok (.iconst 0, 1) := by decide +kernel
theorem dQ_few_198 : decode bQ_few 198 = .ok (.putfield 72, 3) := by decide +kernel
theorem dQ_few_201 : decode bQ_few 201 = .ok (.goto 46, 3) := by decide +kernel
theorem dQ_few_204 : decode bQ_few 204 = .ok (.aload_n 0, 1) := by decide +kernel
theorem dQ_few_205 : decode bQ_few 205 = .ok (.getfield 93, 3) := by decide +kernel
theorem dQ_few_208 : decode bQ_few 208 = .ok (.bipush 100, 2) := by decide +kernel
theorem dQ_few_210 : decode bQ_few 210 = .ok (.if_icmp .ge 19, 3) := by decide +kernel
theorem dQ_few_213 : decode bQ_few 213 = .ok (.aload_n 0, 1) := by decide +kernel
theorem dQ_few_214 : decode bQ_few 214 = .ok (.getfield 43, 3) := by decide +kernel
theorem dQ_few_217 : decode bQ_few 217 = .ok (.aload_n 0, 1) := by decide +kernel
theorem dQ_few_218 : decode bQ_few 218 = .ok (.getfield 93, 3) := by decide +kernel
theorem dQ_few_221 : decode bQ_few 221 = .ok (.aload_n 0, 1) := by decide +kernel
theorem dQ_few_222 : decode bQ_few 222 = .ok (.getfield 40, 3) := by decide +kernel
theorem dQ_few_225 : decode bQ_few 225 = .ok (.bipush 7, 2) := by decide +kernel
theorem dQ_few_227 : decode bQ_few 227 = .ok (.iaload, 1) := by decide +kernel
theorem dQ_few_228 : decode bQ_few 228 = .ok (.iastore, 1) := by decide +kernel
theorem dQ_few_229 : decode bQ_few 229 = .ok (.aload_n 0, 1) := by decide +kernel
theorem dQ_few_230 : decode bQ_few 230 = .ok (.dup, 1) := by decide +kernel
theorem dQ_few_231 : decode bQ_few 231 = .ok (.getfield 93, 3) := by decide +kernel
theorem dQ_few_234 : decode bQ_few 234 = .ok (.iconst 1, 1) := by decide +kernel
theorem dQ_few_235 : decode bQ_few 235 = .ok (.iadd, 1) := by decide +kernel
theorem dQ_few_236 : decode bQ_few 236 = .ok (.putfield 93, 3) := by decide +kernel
theorem dQ_few_239 : decode bQ_few 239 = .ok (.goto 8, 3) := by decide +kernel
theorem dQ_few_242 : decode bQ_few 242 = .ok (.aload_n 0, 1) := by decide +kernel
theorem dQ_few_243 : decode bQ_few 243 = .ok (.iconst 3, 1) := by decide +kernel
theorem dQ_few_244 : decode bQ_few 244 = .ok (.invokevirtual 179, 3) := by decide +kernel
theorem dQ_few_247 : decode bQ_few 247 = .ok (.return_, 1) := by decide +kernel
theorem dQ_single_0 : decode bQ_single 0 = .ok (.iload_n 1, 1) := by decide +kernel
theorem dQ_single_1 : decode bQ_single 1 = .ok (.iconst 2, 1) := by decide +kernel
theorem dQ_single_2 : decode bQ_single 2 = .ok (.if_icmp .eq 8, 3) := by decide +kernel
theorem dQ_single_5 : decode bQ_single 5 = .ok (.iload_n 1, 1) := by decide +kernel
theorem dQ_single_6 : decode bQ_single 6 = .ok (.iconst 3, 1) := by decide +kernel
theorem dQ_single_7 : decode bQ_single 7 = .ok (.if_icmp .ne 27, 3) := by decide +kernel
theorem dQ_single_10 : decode bQ_single 10 = .ok (.aload_n 0, 1) := by decide +kernel
theorem dQ_single_11 : decode bQ_single 11 = .ok (.iload_n 2, 1) := by decide +kernel
theorem dQ_single_12 : decode bQ_single 12 = .ok (.aload_n 0, 1) := by decide +kernel
theorem dQ_single_13 : decode bQ_single 13 = .ok (.aload_n 0, 1) := by decide +kernel
theorem dQ_single_14 : decode bQ_single 14 = .ok (.iload_n 2, 1) := by decide +kernel
theorem dQ_single_15 : decode bQ_single 15 = .ok (.invokevirtual 169, 3) := by decide +kernel
theorem dQ_single_18 : decode bQ_single 18 = .ok (.iload_n 1, 1) := by decide +kernel
theorem dQ_single_19 : decode bQ_single 19 = .ok (.iconst 2, 1) := by decide +kernel
theorem dQ_single_20 : decode bQ_single 20 = .ok (.if_icmp .ne 7, 3) := by decide +kernel
theorem dQ_single_23 : decode bQ_single 23 = .ok (.iconst 1, 1) := by decide +kernel
theorem dQ_single_24 : decode bQ_single 24 = .ok (.goto 4, 3) := by decide +kernel
theorem dQ_single_27 : decode bQ_single 27 = .ok (.iconst 0, 1) := by decide +kernel
theorem dQ_single_28 : decode bQ_single 28 = .ok (.invokevirtual 188, 3) := by decide +kernel
theorem dQ_single_31 : decode bQ_single 31 = .ok (.invokevirtual 176, 3) := by decide +kernel
theorem dQ_single_34 : decode bQ_single 34 = .ok (.iload_n 1, 1) := by decide +kernel
theorem dQ_single_35 : decode bQ_single 35 = .ok (.iconst 4, 1) := by decide +kernel
theorem dQ_single_36 : decode bQ_single 36 = .ok (.if_icmp .ne 12, 3) := by decide +kernel
theorem dQ_single_39 : decode bQ_single 39 = .ok (.aload_n 0, 1) := by decide +kernel
theorem dQ_single_40 : decode bQ_single 40 = .ok (.aload_n 0, 1) := by decide +kernel
theorem dQ_single_41 : decode bQ_single 41 = .ok (.iload_n 2, 1) := by decide +kernel
theorem dQ_single_42 : decode bQ_single 42 = .ok (.invokevirtual 169, 3) := by decide +kernel
theorem dQ_single_45 : decode bQ_single 45 = .ok (.invokevirtual 191, 3) := by decide +kernel
theorem dQ_single_48 : decode bQ_single 48 = .ok (.iload_n 1, 1) := by decide +kernel
theorem dQ_single_49 : decode bQ_single 49 = .ok (.iconst 5, 1) := by decide +kernel
theorem dQ_single_50 : decode bQ_single 50 = .ok (.if_icmp .ne 12, 3) := by decide +kernel
theorem dQ_single_53 : decode bQ_single 53 = .ok (.aload_n 0, 1) := by decide +kernel
theorem dQ_single_54 : decode bQ_single 54 = .ok (.iload_n 2, 1) := by decide +kernel
theorem dQ_single_55 : decode bQ_single 55 = .ok (.aload_n 0, 1) := by decide +kernel
theorem dQ_single_56 : decode bQ_single 56 = .ok (.invokevirtual 185, 3) := by decide +kernel
theorem dQ_single_59 : decode bQ_single 59 = .ok (.invokevirtual 176, 3) := by decide +kernel
theorem dQ_single_62 : decode bQ_single 62 = .ok (.iload_n 1, 1) := by decide +kernel
theorem dQ_single_63 : decode bQ_single 63 = .ok (.bipush 6, 2) := by decide +kernel
theorem dQ_single_65 : decode bQ_single 65 = .ok (.if_icmp .ne 12, 3) := by decide +kernel
theorem dQ_single_68 : decode bQ_single 68 = .ok (.aload_n 0, 1) := by decide +kernel
theorem dQ_single_69 : decode bQ_single 69 = .ok (.iload_n 2, 1) := by decide +kernel
theorem dQ_single_70 : decode bQ_single 70 = .ok (.aload_n 0, 1) := by decide +kernel
theorem dQ_single_71 : decode bQ_single 71 = .ok (.invokevirtual 194, 3) := by decide +kernel
theorem dQ_single_74 : decode bQ_single 74 = .ok (.invokevirtual 176, 3) := by decide +kernel
theorem dQ_single_77 : decode bQ_single 77 = .ok (.iload_n 1, 1) := by decide +kernel
theorem dQ_single_78 : decode bQ_single 78 = .ok (.bipush 7, 2) := by decide +kernel
theorem dQ_single_80 : decode bQ_single 80 = .ok (.if_icmp .ne 31, 3) := by decide +kernel
theorem dQ_single_83 : decode bQ_single 83 = .ok (.aload_n 0, 1) := by decide +kernel
theorem dQ_single_84 : decode bQ_single 84 = .ok (.iload_n 2, 1) := by decide +kernel
theorem dQ_single_85 : decode bQ_single 85 = .ok (.invokevirtual 169, 3) := by decide +kernel
theorem dQ_single_88 : decode bQ_single 88 = .ok (.istore_n 3, 1) := by decide +kernel
theorem dQ_single_89 : decode bQ_single 89 = .ok (.aload_n 0, 1) := by decide +kernel
theorem dQ_single_90 : decode bQ_single 90 = .ok (.iload_n 2, 1) := by decide +kernel
theorem dQ_single_91 : decode bQ_single 91 = .ok (.aload_n 0, 1) := by decide +kernel
theorem dQ_single_92 : decode bQ_single 92 = .ok (.iload_n 3, 1) := by decide +kernel
theorem dQ_single_93 : decode bQ_single 93 = .ok (.bipush 16, 2) := by decide +kernel
theorem dQ_single_95 : decode bQ_single 95 = .ok (.irem, 1) := by decide +kernel
theorem dQ_single_96 : decode bQ_single 96 = .ok (.bipush 16, 2) := by decide +kernel
theorem dQ_single_98 : decode bQ_single 98 = .ok (.imul, 1) := by decide +kernel
theorem dQ_single_99 : decode bQ_single 99 = .ok (.iload_n 3, 1) := by decide +kernel
theorem dQ_single_100 : decode bQ_single 100 = .ok (.bipush 16, 2) := by decide +kernel
theorem dQ_single_102 : decode bQ_single 102 = .ok (.idiv, 1) := by decide +kernel
theorem dQ_single_103 : decode bQ_single 103 = .ok (.iadd, 1) := by decide +kernel
theorem dQ_single_104 : decode bQ_single 104 = .ok (.iconst 0, 1) := by decide +kernel
theorem dQ_single_105 : decode bQ_single 105 = .ok (.invokevirtual 165, 3) := by decide +kernel
theorem dQ_single_108 : decode bQ_single 108 = .ok (.invokevirtual 176, 3) := by decide +kernel
theorem dQ_single_111 : decode bQ_single 111 = .ok (.return_, 1) := by decide +kernel
theorem dQ_holds_0 : decode bQ_holds 0 = .ok (.iload_n 1, 1) := by decide +kernel
theorem dQ_holds_1 : decode bQ_holds 1 = .ok (.ifCond .eq 51, 3) := by decide +kernel
theorem dQ_holds_4 : decode bQ_holds 4 = .ok (.iload_n 1, 1) := by decide +kernel
theorem dQ_holds_5 : decode bQ_holds 5 = .ok (.iconst 1, 1) := by decide +kernel
theorem dQ_holds_6 : decode bQ_holds 6 = .ok (.if_icmp .ne 10, 3) := by decide +kernel
theorem dQ_holds_9 : decode bQ_holds 9 = .ok (.aload_n 0, 1) := by decide +kernel
theorem dQ_holds_10 : decode bQ_holds 10 = .ok (.getfield 59, 3) := by decide +kernel
theorem dQ_holds_13 : decode bQ_holds 13 = .ok (.ifCond .eq 39, 3) := by decide +kernel
theorem dQ_holds_16 : decode bQ_holds 16 = .ok (.iload_n 1, 1) := by decide +kernel
theorem dQ_holds_17 : decode bQ_holds 17 = .ok (.iconst 2, 1) := by decide +kernel
theorem dQ_holds_18 : decode bQ_holds 18 = .ok (.if_icmp .ne 10, 3) := by decide +kernel
theorem dQ_holds_21 : decode bQ_holds 21 = .ok (.aload_n 0, 1) := by decide +kernel
theorem dQ_holds_22 : decode bQ_holds 22 = .ok (.getfield 59, 3) := by decide +kernel
theorem dQ_holds_25 : decode bQ_holds 25 = .ok (.ifCond .ne 27, 3) := by decide +kernel
theorem dQ_holds_28 : decode bQ_holds 28 = .ok (.iload_n 1, 1) := by decide +kernel
theorem dQ_holds_29 : decode bQ_holds 29 = .ok (.iconst 3, 1) := by decide +kernel
theorem dQ_holds_30 : decode bQ_holds 30 = .ok (.if_icmp .ne 10, 3) := by decide +kernel
theorem dQ_holds_33 : decode bQ_holds 33 = .ok (.aload_n 0, 1) := by decide +kernel
theorem dQ_holds_34 : decode bQ_holds 34 = .ok (.getfield 69, 3) := by decide +kernel
theorem dQ_holds_37 : decode bQ_holds 37 = .ok (.ifCond .eq 15, 3) := by decide +kernel
theorem dQ_holds_40 : decode bQ_holds 40 = .ok (.iload_n 1, 1) := by decide +kernel
theorem dQ_holds_41 : decode bQ_holds 41 = .ok (.iconst 4, 1) := by decide +kernel
theorem dQ_holds_42 : decode bQ_holds 42 = .ok (.if_icmp .ne 14, 3) := by decide +kernel
theorem dQ_holds_45 : decode bQ_holds 45 = .ok (.aload_n 0, 1) := by decide +kernel
theorem dQ_holds_46 : decode bQ_holds 46 = .ok (.getfield 69, 3) := by decide +kernel
theorem dQ_holds_49 : decode bQ_holds 49 = .ok (.ifCond .eq 7, 3) := by decide +kernel
theorem dQ_holds_52 : decode bQ_holds 52 = .ok (.iconst 1, 1) := by decide +kernel
theorem dQ_holds_53 : decode bQ_holds 53 = .ok (.goto 4, 3) := by decide +kernel
theorem dQ_holds_56 : decode bQ_holds 56 = .ok (.iconst 0, 1) := by decide +kernel
theorem dQ_holds_57 : decode bQ_holds 57 = .ok (.ireturn, 1) := by decide +kernel
theorem dQ_lead_0 : decode bQ_lead 0 = .ok (.iload_n 1, 1) := by decide +kernel
theorem dQ_lead_1 : decode bQ_lead 1 = .ok (.bipush 8, 2) := by decide +kernel
theorem dQ_lead_3 : decode bQ_lead 3 = .ok (.irem, 1) := by decide +kernel
theorem dQ_lead_4 : decode bQ_lead 4 = .ok (.istore_n 2, 1) := by decide +kernel
theorem dQ_lead_5 : decode bQ_lead 5 = .ok (.iload_n 1, 1) := by decide +kernel
theorem dQ_lead_6 : decode bQ_lead 6 = .ok (.bipush 8, 2) := by decide +kernel
theorem dQ_lead_8 : decode bQ_lead 8 = .ok (.idiv, 1) := by decide +kernel
theorem dQ_lead_9 : decode bQ_lead 9 = .ok (.iconst 4, 1) := by decide +kernel
theorem dQ_lead_10 : decode bQ_lead 10 = .ok (.irem, 1) := by decide +kernel
theorem dQ_lead_11 : decode bQ_lead 11 = .ok (.istore_n 3, 1) := by decide +kernel
theorem dQ_lead_12 : decode bQ_lead 12 = .ok (.iload_n 2, 1) := by decide +kernel
theorem dQ_lead_13 : decode bQ_lead 13 = .ok (.iconst 4, 1) := by decide +kernel
theorem dQ_lead_14 : decode bQ_lead 14 = .ok (.if_icmp .le 9, 3) := by decide +kernel
theorem dQ_lead_17 : decode bQ_lead 17 = .ok (.aload_n 0, 1) := by decide +kernel
theorem dQ_lead_18 : decode bQ_lead 18 = .ok (.iconst 3, 1) := by decide +kernel
theorem dQ_lead_19 : decode bQ_lead 19 = .ok (.invokevirtual 179, 3) := by decide +kernel
theorem dQ_lead_22 : decode bQ_lead 22 = .ok (.return_, 1) := by decide +kernel
theorem dQ_lead_23 : decode bQ_lead 23 = .ok (.iload_n 3, 1) := by decide +kernel
theorem dQ_lead_24 : decode bQ_lead 24 = .ok (.iconst 2, 1) := by decide +kernel
theorem dQ_lead_25 : decode bQ_lead 25 = .ok (.if_icmp .ne 7, 3) := by decide +kernel
theorem dQ_lead_28 : decode bQ_lead 28 = .ok (.iconst 0, 1) := by decide +kernel
theorem dQ_lead_29 : decode bQ_lead 29 = .ok (.goto 7, 3) := by decide +kernel
theorem dQ_lead_32 : decode bQ_lead 32 = .ok (.aload_n 0, 1) := by decide +kernel
theorem dQ_lead_33 : decode bQ_lead 33 = .ok (.invokevirtual 194, 3) := by decide +kernel
theorem dQ_lead_36 : decode bQ_lead 36 = .ok (.istore 4, 2) := by decide +kernel
theorem dQ_lead_38 : decode bQ_lead 38 = .ok (.aload_n 0, 1) := by decide +kernel
theorem dQ_lead_39 : decode bQ_lead 39 = .ok (.iload_n 2, 1) := by decide +kernel
theorem dQ_lead_40 : decode bQ_lead 40 = .ok (.invokevirtual 197, 3) := by decide +kernel
theorem dQ_lead_43 : decode bQ_lead 43 = .ok (.ifCond .ne 4, 3) := by decide +kernel
theorem dQ_lead_46 : decode bQ_lead 46 = .ok (.return_, 1) := by decide +kernel
theorem dQ_lead_47 : decode bQ_lead 47 = .ok (.iload_n 3, 1) := by decide +kernel
theorem dQ_lead_48 : decode bQ_lead 48 = .ok (.iconst 1, 1) := by decide +kernel
theorem dQ_lead_49 : decode bQ_lead 49 = .ok (.if_icmp .ne 11, 3) := by decide +kernel
theorem dQ_lead_52 : decode bQ_lead 52 = .ok (.aload_n 0, 1) := by decide +kernel
theorem dQ_lead_53 : decode bQ_lead 53 = .ok (.aload_n 0, 1) := by decide +kernel
theorem dQ_lead_54 : decode bQ_lead 54 = .ok (.getfield 56, 3) := by decide +kernel
theorem dQ_lead_57 : decode bQ_lead 57 = .ok (.invokevirtual 191, 3) := by decide +kernel
theorem dQ_lead_60 : decode bQ_lead 60 = .ok (.iload 4, 2) := by decide +kernel
theorem dQ_lead_62 : decode bQ_lead 62 = .ok (.bipush 127, 2) := by decide +kernel
theorem dQ_lead_64 : decode bQ_lead 64 = .ok (.if_icmp .le 12, 3) := by decide +kernel
theorem dQ_lead_67 : decode bQ_lead 67 = .ok (.iload 4, 2) := by decide +kernel
theorem dQ_lead_69 : decode bQ_lead 69 = .ok (.sipush 256, 3) := by decide +kernel
theorem dQ_lead_72 : decode bQ_lead 72 = .ok (.isub, 1) := by decide +kernel
theorem dQ_lead_73 : decode bQ_lead 73 = .ok (.goto 5, 3) := by decide +kernel
theorem dQ_lead_76 : decode bQ_lead 76 = .ok (.iload 4, 2) := by decide +kernel
theorem dQ_lead_78 : decode bQ_lead 78 = .ok (.istore 5, 2) := by decide +kernel
theorem dQ_lead_80 : decode bQ_lead 80 = .ok (.aload_n 0, 1) := by decide +kernel
theorem dQ_lead_81 : decode bQ_lead 81 = .ok (.iload_n 3, 1) := by decide +kernel
theorem dQ_lead_82 : decode bQ_lead 82 = .ok (.iconst 2, 1) := by decide +kernel
theorem dQ_lead_83 : decode bQ_lead 83 = .ok (.if_icmp .ne 10, 3) := by decide +kernel
theorem dQ_lead_86 : decode bQ_lead 86 = .ok (.aload_n 0, 1) := by decide +kernel
theorem dQ_lead_87 : decode bQ_lead 87 = .ok (.invokevirtual 185, 3) := by decide +kernel
theorem dQ_lead_90 : decode bQ_lead 90 = .ok (.goto 28, 3) := by decide +kernel
theorem dQ_lead_93 : decode bQ_lead 93 = .ok (.iload_n 3, 1) := by decide +kernel
theorem dQ_lead_94 : decode bQ_lead 94 = .ok (.iconst 3, 1) := by decide +kernel
theorem dQ_lead_95 : decode bQ_lead 95 = .ok (.if_icmp .ne 21, 3) := by decide +kernel
theorem dQ_lead_98 : decode bQ_lead 98 = .ok (.aload_n 0, 1) := by decide +kernel
theorem dQ_lead_99 : decode bQ_lead 99 = .ok (.getfield 56, 3) := by decide +kernel
theorem dQ_lead_102 : decode bQ_lead 102 = .ok (.iload 5, 2) := by decide +kernel
theorem dQ_lead_104 : decode bQ_lead 104 = .ok (.iadd, 1) := by decide +kernel
theorem dQ_lead_105 : decode bQ_lead 105 = .ok (.sipush 256, 3) := by decide +kernel
theorem dQ_lead_108 : decode bQ_lead 108 = .ok (.iadd, 1) := by decide +kernel
theorem dQ_lead_109 : decode bQ_lead 109 = .ok (.sipush 256, 3) := by decide +kernel
theorem dQ_lead_112 : decode bQ_lead 112 = .ok (.irem, 1) := by decide +kernel
theorem dQ_lead_113 : decode bQ_lead 113 = .ok (.goto 5, 3) := by decide +kernel
theorem dQ_lead_116 : decode bQ_lead 116 = .ok (.iload 4, 2) := by decide +kernel
theorem dQ_lead_118 : decode bQ_lead 118 = .ok (.putfield 56, 3) := by decide +kernel
theorem dQ_lead_121 : decode bQ_lead 121 = .ok (.return_, 1) := by decide +kernel
theorem dQ_instruction_0 : decode bQ_instruction 0 = .ok (.aload_n 0, 1) := by decide +kernel
theorem dQ_instruction_1 : decode bQ_instruction 1 = .ok (.invokevirtual 194, 3) := by decide +kernel
theorem dQ_instruction_4 : decode bQ_instruction 4 = .ok (.istore_n 1, 1) := by decide +kernel
theorem dQ_instruction_5 : decode bQ_instruction 5 = .ok (.iload_n 1, 1) := by decide +kernel
theorem dQ_instruction_6 : decode bQ_instruction 6 = .ok (.bipush 16, 2) := by decide +kernel
theorem dQ_instruction_8 : decode bQ_instruction 8 = .ok (.if_icmp .ge 11, 3) := by decide +kernel
theorem dQ_instruction_11 : decode bQ_instruction 11 = .ok (.aload_n 0, 1) := by decide +kernel
theorem dQ_instruction_12 : decode bQ_instruction 12 = .ok (.iload_n 1, 1) := by decide +kernel
theorem dQ_instruction_13 : decode bQ_instruction 13 = .ok (.invokevirtual 200, 3) := by decide +kernel
theorem dQ_instruction_16 : decode bQ_instruction 16 = .ok (.goto 142, 3) := by decide +kernel
theorem dQ_instruction_19 : decode bQ_instruction 19 = .ok (.iload_n 1, 1) := by decide +kernel
theorem dQ_instruction_20 : decode bQ_instruction 20 = .ok (.bipush 64, 2) := by decide +kernel
theorem dQ_instruction_22 : decode bQ_instruction 22 = .ok (.if_icmp .ge 18, 3) := by decide +kernel
theorem dQ_instruction_25 : decode bQ_instruction 25 = .ok (.aload_n 0, 1) := by decide +kernel
theorem dQ_instruction_26 : decode bQ_instruction 26 = .ok (.iload_n 1, 1) := by decide +kernel
theorem dQ_instruction_27 : decode bQ_instruction 27 = .ok (.bipush 8, 2) := by decide +kernel
theorem dQ_instruction_29 : decode bQ_instruction 29 = .ok (.idiv, 1) := by decide +kernel
theorem dQ_instruction_30 : decode bQ_instruction 30 = .ok (.iload_n 1, 1) := by decide +kernel
theorem dQ_instruction_31 : decode bQ_instruction 31 = .ok (.bipush 8, 2) := by decide +kernel
theorem dQ_instruction_33 : decode bQ_instruction 33 = .ok (.irem, 1) := by decide +kernel
theorem dQ_instruction_34 : decode bQ_instruction 34 = .ok (.invokevirtual 203, 3) := by decide +kernel
theorem dQ_instruction_37 : decode bQ_instruction 37 = .ok (.goto 121, 3) := by decide +kernel
theorem dQ_instruction_40 : decode bQ_instruction 40 = .ok (.iload_n 1, 1) := by decide +kernel
theorem dQ_instruction_41 : decode bQ_instruction 41 = .ok (.sipush 128, 3) := by decide +kernel
theorem dQ_instruction_44 : decode bQ_instruction 44 = .ok (.if_icmp .ge 25, 3) := by decide +kernel
theorem dQ_instruction_47 : decode bQ_instruction 47 = .ok (.aload_n 0, 1) := by decide +kernel
theorem dQ_instruction_48 : decode bQ_instruction 48 = .ok (.iload_n 1, 1) := by decide +kernel
theorem dQ_instruction_49 : decode bQ_instruction 49 = .ok (.bipush 8, 2) := by decide +kernel
theorem dQ_instruction_51 : decode bQ_instruction 51 = .ok (.idiv, 1) := by decide +kernel
theorem dQ_instruction_52 : decode bQ_instruction 52 = .ok (.bipush 8, 2) := by decide +kernel
theorem dQ_instruction_54 : decode bQ_instruction 54 = .ok (.irem, 1) := by decide +kernel
theorem dQ_instruction_55 : decode bQ_instruction 55 = .ok (.aload_n 0, 1) := by decide +kernel
theorem dQ_instruction_56 : decode bQ_instruction 56 = .ok (.iload_n 1, 1) := by decide +kernel
theorem dQ_instruction_57 : decode bQ_instruction 57 = .ok (.bipush 8, 2) := by decide +kernel
theorem dQ_instruction_59 : decode bQ_instruction 59 = .ok (.irem, 1) := by decide +kernel
theorem dQ_instruction_60 : decode bQ_instruction 60 = .ok (.invokevirtual 169, 3) := by decide +kernel
theorem dQ_instruction_63 : decode bQ_instruction 63 = .ok (.invokevirtual 176, 3) := by decide +kernel
theorem dQ_instruction_66 : decode bQ_instruction 66 = .ok (.goto 92, 3) := by decide +kernel
theorem dQ_instruction_69 : decode bQ_instruction 69 = .ok (.iload_n 1, 1) := by decide +kernel
theorem dQ_instruction_70 : decode bQ_instruction 70 = .ok (.sipush 192, 3) := by decide +kernel
theorem dQ_instruction_73 : decode bQ_instruction 73 = .ok (.if_icmp .ge 25, 3) := by decide +kernel
theorem dQ_instruction_76 : decode bQ_instruction 76 = .ok (.aload_n 0, 1) := by decide +kernel
theorem dQ_instruction_77 : decode bQ_instruction 77 = .ok (.iload_n 1, 1) := by decide +kernel
theorem dQ_instruction_78 : decode bQ_instruction 78 = .ok (.bipush 8, 2) := by decide +kernel
theorem dQ_instruction_80 : decode bQ_instruction 80 = .ok (.idiv, 1) := by decide +kernel
theorem dQ_instruction_81 : decode bQ_instruction 81 = .ok (.bipush 8, 2) := by decide +kernel
theorem dQ_instruction_83 : decode bQ_instruction 83 = .ok (.irem, 1) := by decide +kernel
theorem dQ_instruction_84 : decode bQ_instruction 84 = .ok (.aload_n 0, 1) := by decide +kernel
theorem dQ_instruction_85 : decode bQ_instruction 85 = .ok (.iload_n 1, 1) := by decide +kernel
theorem dQ_instruction_86 : decode bQ_instruction 86 = .ok (.bipush 8, 2) := by decide +kernel
theorem dQ_instruction_88 : decode bQ_instruction 88 = .ok (.irem, 1) := by decide +kernel
theorem dQ_instruction_89 : decode bQ_instruction 89 = .ok (.invokevirtual 169, 3) := by decide +kernel
theorem dQ_instruction_92 : decode bQ_instruction 92 = .ok (.invokevirtual 206, 3) := by decide +kernel
theorem dQ_instruction_95 : decode bQ_instruction 95 = .ok (.goto 63, 3) := by decide +kernel
theorem dQ_instruction_98 : decode bQ_instruction 98 = .ok (.iload_n 1, 1) := by decide +kernel
theorem dQ_instruction_99 : decode bQ_instruction 99 = .ok (.sipush 224, 3) := by decide +kernel
theorem dQ_instruction_102 : decode bQ_instruction 102 = .ok (.if_icmp .ge 11, 3) := by decide +kernel
theorem dQ_instruction_105 : decode bQ_instruction 105 = .ok (.aload_n 0, 1) := by decide +kernel
theorem dQ_instruction_106 : decode bQ_instruction 106 = .ok (.iload_n 1, 1) := by decide +kernel
theorem dQ_instruction_107 : decode bQ_instruction 107 = .ok (.invokevirtual 209, 3) := by decide +kernel
theorem dQ_instruction_110 : decode bQ_instruction 110 = .ok (.goto 48, 3) := by decide +kernel
theorem dQ_instruction_113 : decode bQ_instruction 113 = .ok (.iload_n 1, 1) := by decide +kernel
theorem dQ_instruction_114 : decode bQ_instruction 114 = .ok (.sipush 232, 3) := by decide +kernel
theorem dQ_instruction_117 : decode bQ_instruction 117 = .ok (.if_icmp .ge 18, 3) := by decide +kernel
theorem dQ_instruction_120 : decode bQ_instruction 120 = .ok (.aload_n 0, 1) := by decide +kernel
theorem dQ_instruction_121 : decode bQ_instruction 121 = .ok (.iload_n 1, 1) := by decide +kernel
theorem dQ_instruction_122 : decode bQ_instruction 122 = .ok (.bipush 8, 2) := by decide +kernel
theorem dQ_instruction_124 : decode bQ_instruction 124 = .ok (.irem, 1) := by decide +kernel
theorem dQ_instruction_125 : decode bQ_instruction 125 = .ok (.aload_n 0, 1) := by decide +kernel
theorem dQ_instruction_126 : decode bQ_instruction 126 = .ok (.invokevirtual 194, 3) := by decide +kernel
theorem dQ_instruction_129 : decode bQ_instruction 129 = .ok (.invokevirtual 206, 3) := by decide +kernel
theorem dQ_instruction_132 : decode bQ_instruction 132 = .ok (.goto 26, 3) := by decide +kernel
theorem dQ_instruction_135 : decode bQ_instruction 135 = .ok (.iload_n 1, 1) := by decide +kernel
theorem dQ_instruction_136 : decode bQ_instruction 136 = .ok (.sipush 240, 3) := by decide +kernel
theorem dQ_instruction_139 : decode bQ_instruction 139 = .ok (.if_icmp .ne 14, 3) := by decide +kernel
theorem dQ_instruction_142 : decode bQ_instruction 142 = .ok (.aload_n 0, 1) := by decide +kernel
theorem dQ_instruction_143 : decode bQ_instruction 143 = .ok (.aload_n 0, 1) := by decide +kernel
theorem dQ_instruction_144 : decode bQ_instruction 144 = .ok (.invokevirtual 194, 3) := by decide +kernel
theorem dQ_instruction_147 : decode bQ_instruction 147 = .ok (.invokevirtual 212, 3) := by decide +kernel
theorem dQ_instruction_150 : decode bQ_instruction 150 = .ok (.goto 8, 3) := by decide +kernel
theorem dQ_instruction_153 : decode bQ_instruction 153 = .ok (.aload_n 0, 1) := by decide +kernel
theorem dQ_instruction_154 : decode bQ_instruction 154 = .ok (.iconst 3, 1) := by decide +kernel
theorem dQ_instruction_155 : decode bQ_instruction 155 = .ok (.invokevirtual 179, 3) := by decide +kernel
theorem dQ_instruction_158 : decode bQ_instruction 158 = .ok (.return_, 1) := by decide +kernel
theorem dQ_interrupt_0 : decode bQ_interrupt 0 = .ok (.iconst 0, 1) := by decide +kernel
theorem dQ_interrupt_1 : decode bQ_interrupt 1 = .ok (.istore_n 2, 1) := by decide +kernel
theorem dQ_interrupt_2 : decode bQ_interrupt 2 = .ok (.iload_n 1, 1) := by decide +kernel
theorem dQ_interrupt_3 : decode bQ_interrupt 3 = .ok (.iload_n 2, 1) := by decide +kernel
theorem dQ_interrupt_4 : decode bQ_interrupt 4 = .ok (.ishr, 1) := by decide +kernel
theorem dQ_interrupt_5 : decode bQ_interrupt 5 = .ok (.iconst 1, 1) := by decide +kernel
theorem dQ_interrupt_6 : decode bQ_interrupt 6 = .ok (.iand, 1) := by decide +kernel
theorem dQ_interrupt_7 : decode bQ_interrupt 7 = .ok (.ifCond .ne 9, 3) := by decide +kernel
theorem dQ_interrupt_10 : decode bQ_interrupt 10 = .ok (.iinc 2 1, 3) := by decide +kernel
theorem dQ_interrupt_13 : decode bQ_interrupt 13 = .ok (.goto (-11), 3) := by decide +kernel
theorem dQ_interrupt_16 : decode bQ_interrupt 16 = .ok (.aload_n 0, 1) := by decide +kernel
theorem dQ_interrupt_17 : decode bQ_interrupt 17 = .ok (.getfield 37, 3) := by decide +kernel
theorem dQ_interrupt_20 : decode bQ_interrupt 20 = .ok (.sipush 703, 3) := by decide +kernel
theorem dQ_interrupt_23 : decode bQ_interrupt 23 = .ok (.dup2, 1) := by decide +kernel
theorem dQ_interrupt_24 : decode bQ_interrupt 24 = .ok (.iaload, 1) := by decide +kernel
theorem dQ_interrupt_25 : decode bQ_interrupt 25 = .ok (.iconst 1, 1) := by decide +kernel
theorem dQ_interrupt_26 : decode bQ_interrupt 26 = .ok (.iload_n 2, 1) := by decide +kernel
theorem dQ_interrupt_27 : decode bQ_interrupt 27 = .ok (.ishl, 1) := by decide +kernel
theorem dQ_interrupt_28 : decode bQ_interrupt 28 = .ok (.isub, 1) := by decide +kernel
theorem dQ_interrupt_29 : decode bQ_interrupt 29 = .ok (.iastore, 1) := by decide +kernel
theorem dQ_interrupt_30 : decode bQ_interrupt 30 = .ok (.aload_n 0, 1) := by decide +kernel
theorem dQ_interrupt_31 : decode bQ_interrupt 31 = .ok (.iconst 0, 1) := by decide +kernel
theorem dQ_interrupt_32 : decode bQ_interrupt 32 = .ok (.putfield 72, 3) := by decide +kernel
theorem dQ_interrupt_35 : decode bQ_interrupt 35 = .ok (.aload_n 0, 1) := by decide +kernel
theorem dQ_interrupt_36 : decode bQ_interrupt 36 = .ok (.aload_n 0, 1) := by decide +kernel
theorem dQ_interrupt_37 : decode bQ_interrupt 37 = .ok (.getfield 56, 3) := by decide +kernel
theorem dQ_interrupt_40 : decode bQ_interrupt 40 = .ok (.invokevirtual 191, 3) := by decide +kernel
theorem dQ_interrupt_43 : decode bQ_interrupt 43 = .ok (.aload_n 0, 1) := by decide +kernel
theorem dQ_interrupt_44 : decode bQ_interrupt 44 = .ok (.bipush 16, 2) := by decide +kernel
theorem dQ_interrupt_46 : decode bQ_interrupt 46 = .ok (.iconst 4, 1) := by decide +kernel
theorem dQ_interrupt_47 : decode bQ_interrupt 47 = .ok (.iload_n 2, 1) := by decide +kernel
theorem dQ_interrupt_48 : decode bQ_interrupt 48 = .ok (.imul, 1) := by decide +kernel
theorem dQ_interrupt_49 : decode bQ_interrupt 49 = .ok (.iadd, 1) := by decide +kernel
theorem dQ_interrupt_50 : decode bQ_interrupt 50 = .ok (.putfield 56, 3) := by decide +kernel
theorem dQ_interrupt_53 : decode bQ_interrupt 53 = .ok (.return_, 1) := by decide +kernel
theorem dQ_step_0 : decode bQ_step 0 = .ok (.aload_n 0, 1) := by decide +kernel
theorem dQ_step_1 : decode bQ_step 1 = .ok (.getfield 37, 3) := by decide +kernel
theorem dQ_step_4 : decode bQ_step 4 = .ok (.sipush 702, 3) := by decide +kernel
theorem dQ_step_7 : decode bQ_step 7 = .ok (.iaload, 1) := by decide +kernel
theorem dQ_step_8 : decode bQ_step 8 = .ok (.aload_n 0, 1) := by decide +kernel
theorem dQ_step_9 : decode bQ_step 9 = .ok (.getfield 37, 3) := by decide +kernel
theorem dQ_step_12 : decode bQ_step 12 = .ok (.sipush 703, 3) := by decide +kernel
theorem dQ_step_15 : decode bQ_step 15 = .ok (.iaload, 1) := by decide +kernel
theorem dQ_step_16 : decode bQ_step 16 = .ok (.iand, 1) := by decide +kernel
theorem dQ_step_17 : decode bQ_step 17 = .ok (.istore_n 1, 1) := by decide +kernel
theorem dQ_step_18 : decode bQ_step 18 = .ok (.aload_n 0, 1) := by decide +kernel
theorem dQ_step_19 : decode bQ_step 19 = .ok (.getfield 90, 3) := by decide +kernel
theorem dQ_step_22 : decode bQ_step 22 = .ok (.iconst 1, 1) := by decide +kernel
theorem dQ_step_23 : decode bQ_step 23 = .ok (.if_icmp .ne 44, 3) := by decide +kernel
theorem dQ_step_26 : decode bQ_step 26 = .ok (.aload_n 0, 1) := by decide +kernel
theorem dQ_step_27 : decode bQ_step 27 = .ok (.iload_n 1, 1) := by decide +kernel
theorem dQ_step_28 : decode bQ_step 28 = .ok (.ifCond .ne 10, 3) := by decide +kernel
theorem dQ_step_31 : decode bQ_step 31 = .ok (.aload_n 0, 1) := by decide +kernel
theorem dQ_step_32 : decode bQ_step 32 = .ok (.getfield 56, 3) := by decide +kernel
theorem dQ_step_35 : decode bQ_step 35 = .ok (.goto 13, 3) := by decide +kernel
theorem dQ_step_38 : decode bQ_step 38 = .ok (.aload_n 0, 1) := by decide +kernel
theorem dQ_step_39 : decode bQ_step 39 = .ok (.getfield 56, 3) := by decide +kernel
theorem dQ_step_42 : decode bQ_step 42 = .ok (.iconst 1, 1) := by decide +kernel
theorem dQ_step_43 : decode bQ_step 43 = .ok (.iadd, 1) := by decide +kernel
theorem dQ_step_44 : decode bQ_step 44 = .ok (.sipush 256, 3) := by decide +kernel
theorem dQ_step_47 : decode bQ_step 47 = .ok (.irem, 1) := by decide +kernel
theorem dQ_step_48 : decode bQ_step 48 = .ok (.putfield 56, 3) := by decide +kernel
theorem dQ_step_51 : decode bQ_step 51 = .ok (.aload_n 0, 1) := by decide +kernel
theorem dQ_step_52 : decode bQ_step 52 = .ok (.iload_n 1, 1) := by decide +kernel
theorem dQ_step_53 : decode bQ_step 53 = .ok (.ifCond .ne 7, 3) := by decide +kernel
theorem dQ_step_56 : decode bQ_step 56 = .ok (.iconst 1, 1) := by decide +kernel
theorem dQ_step_57 : decode bQ_step 57 = .ok (.goto 4, 3) := by decide +kernel
theorem dQ_step_60 : decode bQ_step 60 = .ok (.iconst 0, 1) := by decide +kernel
theorem dQ_step_61 : decode bQ_step 61 = .ok (.putfield 90, 3) := by decide +kernel
theorem dQ_step_64 : decode bQ_step 64 = .ok (.goto 56, 3) := by decide +kernel
theorem dQ_step_67 : decode bQ_step 67 = .ok (.aload_n 0, 1) := by decide +kernel
theorem dQ_step_68 : decode bQ_step 68 = .ok (.getfield 72, 3) := by decide +kernel
theorem dQ_step_71 : decode bQ_step 71 = .ok (.ifCond .eq 15, 3) := by decide +kernel
theorem dQ_step_74 : decode bQ_step 74 = .ok (.iload_n 1, 1) := by decide +kernel
theorem dQ_step_75 : decode bQ_step 75 = .ok (.ifCond .eq 11, 3) := by decide +kernel
theorem dQ_step_78 : decode bQ_step 78 = .ok (.aload_n 0, 1) := by decide +kernel
theorem dQ_step_79 : decode bQ_step 79 = .ok (.iload_n 1, 1) := by decide +kernel
theorem dQ_step_80 : decode bQ_step 80 = .ok (.invokevirtual 215, 3) := by decide +kernel
theorem dQ_step_83 : decode bQ_step 83 = .ok (.goto 37, 3) := by decide +kernel
theorem dQ_step_86 : decode bQ_step 86 = .ok (.aload_n 0, 1) := by decide +kernel
theorem dQ_step_87 : decode bQ_step 87 = .ok (.getfield 75, 3) := by decide +kernel
theorem dQ_step_90 : decode bQ_step 90 = .ok (.istore_n 2, 1) := by decide +kernel
theorem dQ_step_91 : decode bQ_step 91 = .ok (.aload_n 0, 1) := by decide +kernel
theorem dQ_step_92 : decode bQ_step 92 = .ok (.iconst 0, 1) := by decide +kernel
theorem dQ_step_93 : decode bQ_step 93 = .ok (.putfield 75, 3) := by decide +kernel
theorem dQ_step_96 : decode bQ_step 96 = .ok (.aload_n 0, 1) := by decide +kernel
theorem dQ_step_97 : decode bQ_step 97 = .ok (.invokevirtual 218, 3) := by decide +kernel
theorem dQ_step_100 : decode bQ_step 100 = .ok (.aload_n 0, 1) := by decide +kernel
theorem dQ_step_101 : decode bQ_step 101 = .ok (.aload_n 0, 1) := by decide +kernel
theorem dQ_step_102 : decode bQ_step 102 = .ok (.getfield 72, 3) := by decide +kernel
theorem dQ_step_105 : decode bQ_step 105 = .ok (.ifCond .ne 7, 3) := by decide +kernel
theorem dQ_step_108 : decode bQ_step 108 = .ok (.iload_n 2, 1) := by decide +kernel
theorem dQ_step_109 : decode bQ_step 109 = .ok (.ifCond .eq 7, 3) := by decide +kernel
theorem dQ_step_112 : decode bQ_step 112 = .ok (.iconst 1, 1) := by decide +kernel
theorem dQ_step_113 : decode bQ_step 113 = .ok (.goto 4, 3) := by decide +kernel
theorem dQ_step_116 : decode bQ_step 116 = .ok (.iconst 0, 1) := by decide +kernel
theorem dQ_step_117 : decode bQ_step 117 = .ok (.putfield 72, 3) := by decide +kernel
theorem dQ_step_120 : decode bQ_step 120 = .ok (.return_, 1) := by decide +kernel
theorem dQ_restart_0 : decode bQ_restart 0 = .ok (.aload_n 0, 1) := by decide +kernel
theorem dQ_restart_1 : decode bQ_restart 1 = .ok (.iconst 0, 1) := by decide +kernel
theorem dQ_restart_2 : decode bQ_restart 2 = .ok (.putfield 49, 3) := by decide +kernel
theorem dQ_restart_5 : decode bQ_restart 5 = .ok (.aload_n 0, 1) := by decide +kernel
theorem dQ_restart_6 : decode bQ_restart 6 = .ok (.invokevirtual 46, 3) := by decide +kernel
theorem dQ_restart_9 : decode bQ_restart 9 = .ok (.return_, 1) := by decide +kernel
theorem dQ_raise_0 : decode bQ_raise 0 = .ok (.aload_n 0, 1) := by decide +kernel
theorem dQ_raise_1 : decode bQ_raise 1 = .ok (.iload_n 1, 1) := by decide +kernel
theorem dQ_raise_2 : decode bQ_raise 2 = .ok (.iconst 0, 1) := by decide +kernel
theorem dQ_raise_3 : decode bQ_raise 3 = .ok (.iconst 3, 1) := by decide +kernel
theorem dQ_raise_4 : decode bQ_raise 4 = .ok (.invokestatic 96, 3) := by decide +kernel
theorem dQ_raise_7 : decode bQ_raise 7 = .ok (.ifCond .eq 7, 3) := by decide +kernel
theorem dQ_raise_10 : decode bQ_raise 10 = .ok (.iconst 1, 1) := by decide +kernel
theorem dQ_raise_11 : decode bQ_raise 11 = .ok (.goto 4, 3) := by decide +kernel
theorem dQ_raise_14 : decode bQ_raise 14 = .ok (.iconst 0, 1) := by decide +kernel
theorem dQ_raise_15 : decode bQ_raise 15 = .ok (.putfield 49, 3) := by decide +kernel
theorem dQ_raise_18 : decode bQ_raise 18 = .ok (.aload_n 0, 1) := by decide +kernel
theorem dQ_raise_19 : decode bQ_raise 19 = .ok (.getfield 49, 3) := by decide +kernel
theorem dQ_raise_22 : decode bQ_raise 22 = .ok (.ifCond .ne 17, 3) := by decide +kernel
theorem dQ_raise_25 : decode bQ_raise 25 = .ok (.aload_n 0, 1) := by decide +kernel
theorem dQ_raise_26 : decode bQ_raise 26 = .ok (.getfield 37, 3) := by decide +kernel
theorem dQ_raise_29 : decode bQ_raise 29 = .ok (.sipush 703, 3) := by decide +kernel
theorem dQ_raise_32 : decode bQ_raise 32 = .ok (.dup2, 1) := by decide +kernel
theorem dQ_raise_33 : decode bQ_raise 33 = .ok (.iaload, 1) := by decide +kernel
theorem dQ_raise_34 : decode bQ_raise 34 = .ok (.iconst 1, 1) := by decide +kernel
theorem dQ_raise_35 : decode bQ_raise 35 = .ok (.iload_n 1, 1) := by decide +kernel
theorem dQ_raise_36 : decode bQ_raise 36 = .ok (.ishl, 1) := by decide +kernel
theorem dQ_raise_37 : decode bQ_raise 37 = .ok (.ior, 1) := by decide +kernel
theorem dQ_raise_38 : decode bQ_raise 38 = .ok (.iastore, 1) := by decide +kernel
theorem dQ_raise_39 : decode bQ_raise 39 = .ok (.return_, 1) := by decide +kernel
theorem dQ_run_0 : decode bQ_run 0 = .ok (.aload_n 0, 1) := by decide +kernel
theorem dQ_run_1 : decode bQ_run 1 = .ok (.getfield 143, 3) := by decide +kernel
theorem dQ_run_4 : decode bQ_run 4 = .ok (.ifCond .ne 9, 3) := by decide +kernel
theorem dQ_run_7 : decode bQ_run 7 = .ok (.aload_n 0, 1) := by decide +kernel
theorem dQ_run_8 : decode bQ_run 8 = .ok (.iconst 1, 1) := by decide +kernel
theorem dQ_run_9 : decode bQ_run 9 = .ok (.invokevirtual 146, 3) := by decide +kernel
theorem dQ_run_12 : decode bQ_run 12 = .ok (.ireturn, 1) := by decide +kernel
theorem dQ_run_13 : decode bQ_run 13 = .ok (.aload_n 0, 1) := by decide +kernel
theorem dQ_run_14 : decode bQ_run 14 = .ok (.iconst 0, 1) := by decide +kernel
theorem dQ_run_15 : decode bQ_run 15 = .ok (.putfield 49, 3) := by decide +kernel
theorem dQ_run_18 : decode bQ_run 18 = .ok (.iconst 0, 1) := by decide +kernel
theorem dQ_run_19 : decode bQ_run 19 = .ok (.istore_n 2, 1) := by decide +kernel
theorem dQ_run_20 : decode bQ_run 20 = .ok (.iload_n 2, 1) := by decide +kernel
theorem dQ_run_21 : decode bQ_run 21 = .ok (.iload_n 1, 1) := by decide +kernel
theorem dQ_run_22 : decode bQ_run 22 = .ok (.if_icmp .ge 28, 3) := by decide +kernel
theorem dQ_run_25 : decode bQ_run 25 = .ok (.iload_n 2, 1) := by decide +kernel
theorem dQ_run_26 : decode bQ_run 26 = .ok (.sipush 2000, 3) := by decide +kernel
theorem dQ_run_29 : decode bQ_run 29 = .ok (.if_icmp .ge 21, 3) := by decide +kernel
theorem dQ_run_32 : decode bQ_run 32 = .ok (.aload_n 0, 1) := by decide +kernel
theorem dQ_run_33 : decode bQ_run 33 = .ok (.getfield 90, 3) := by decide +kernel
theorem dQ_run_36 : decode bQ_run 36 = .ok (.iconst 2, 1) := by decide +kernel
theorem dQ_run_37 : decode bQ_run 37 = .ok (.if_icmp .ge 13, 3) := by decide +kernel
theorem dQ_run_40 : decode bQ_run 40 = .ok (.aload_n 0, 1) := by decide +kernel
theorem dQ_run_41 : decode bQ_run 41 = .ok (.invokevirtual 221, 3) := by decide +kernel
theorem dQ_run_44 : decode bQ_run 44 = .ok (.iinc 2 1, 3) := by decide +kernel
theorem dQ_run_47 : decode bQ_run 47 = .ok (.goto (-27), 3) := by decide +kernel
theorem dQ_run_50 : decode bQ_run 50 = .ok (.iload_n 2, 1) := by decide +kernel
theorem dQ_run_51 : decode bQ_run 51 = .ok (.ireturn, 1) := by decide +kernel
theorem dQ_state_0 : decode bQ_state 0 = .ok (.aload_n 0, 1) := by decide +kernel
theorem dQ_state_1 : decode bQ_state 1 = .ok (.iconst 0, 1) := by decide +kernel
theorem dQ_state_2 : decode bQ_state 2 = .ok (.putfield 49, 3) := by decide +kernel
theorem dQ_state_5 : decode bQ_state 5 = .ok (.aload_n 0, 1) := by decide +kernel
theorem dQ_state_6 : decode bQ_state 6 = .ok (.getfield 90, 3) := by decide +kernel
theorem dQ_state_9 : decode bQ_state 9 = .ok (.ireturn, 1) := by decide +kernel
theorem dQ_register_0 : decode bQ_register 0 = .ok (.iload_n 1, 1) := by decide +kernel
theorem dQ_register_1 : decode bQ_register 1 = .ok (.iconst 0, 1) := by decide +kernel
theorem dQ_register_2 : decode bQ_register 2 = .ok (.bipush 12, 2) := by decide +kernel
theorem dQ_register_4 : decode bQ_register 4 = .ok (.invokestatic 96, 3) := by decide +kernel
theorem dQ_register_7 : decode bQ_register 7 = .ok (.ifCond .ne 16, 3) := by decide +kernel
theorem dQ_register_10 : decode bQ_register 10 = .ok (.iload_n 1, 1) := by decide +kernel
theorem dQ_register_11 : decode bQ_register 11 = .ok (.bipush 6, 2) := by decide +kernel
theorem dQ_register_13 : decode bQ_register 13 = .ok (.if_icmp .ne 16, 3) := by decide +kernel
theorem dQ_register_16 : decode bQ_register 16 = .ok (.aload_n 0, 1) := by decide +kernel
theorem dQ_register_17 : decode bQ_register 17 = .ok (.getfield 143, 3) := by decide +kernel
theorem dQ_register_20 : decode bQ_register 20 = .ok (.ifCond .ne 9, 3) := by decide +kernel
theorem dQ_register_23 : decode bQ_register 23 = .ok (.aload_n 0, 1) := by decide +kernel
theorem dQ_register_24 : decode bQ_register 24 = .ok (.iconst 1, 1) := by decide +kernel
theorem dQ_register_25 : decode bQ_register 25 = .ok (.invokevirtual 146, 3) := by decide +kernel
theorem dQ_register_28 : decode bQ_register 28 = .ok (.ireturn, 1) := by decide +kernel
theorem dQ_register_29 : decode bQ_register 29 = .ok (.aload_n 0, 1) := by decide +kernel
theorem dQ_register_30 : decode bQ_register 30 = .ok (.iconst 0, 1) := by decide +kernel
theorem dQ_register_31 : decode bQ_register 31 = .ok (.putfield 49, 3) := by decide +kernel
theorem dQ_register_34 : decode bQ_register 34 = .ok (.iload_n 1, 1) := by decide +kernel
theorem dQ_register_35 : decode bQ_register 35 = .ok (.bipush 8, 2) := by decide +kernel
theorem dQ_register_37 : decode bQ_register 37 = .ok (.if_icmp .ge 9, 3) := by decide +kernel
theorem dQ_register_40 : decode bQ_register 40 = .ok (.aload_n 0, 1) := by decide +kernel
theorem dQ_register_41 : decode bQ_register 41 = .ok (.iload_n 1, 1) := by decide +kernel
theorem dQ_register_42 : decode bQ_register 42 = .ok (.invokevirtual 169, 3) := by decide +kernel
theorem dQ_register_45 : decode bQ_register 45 = .ok (.ireturn, 1) := by decide +kernel
theorem dQ_register_46 : decode bQ_register 46 = .ok (.iload_n 1, 1) := by decide +kernel
theorem dQ_register_47 : decode bQ_register 47 = .ok (.bipush 10, 2) := by decide +kernel
theorem dQ_register_49 : decode bQ_register 49 = .ok (.if_icmp .ge 21, 3) := by decide +kernel
theorem dQ_register_52 : decode bQ_register 52 = .ok (.iload_n 1, 1) := by decide +kernel
theorem dQ_register_53 : decode bQ_register 53 = .ok (.bipush 8, 2) := by decide +kernel
theorem dQ_register_55 : decode bQ_register 55 = .ok (.if_icmp .ne 10, 3) := by decide +kernel
theorem dQ_register_58 : decode bQ_register 58 = .ok (.aload_n 0, 1) := by decide +kernel
theorem dQ_register_59 : decode bQ_register 59 = .ok (.getfield 53, 3) := by decide +kernel
theorem dQ_register_62 : decode bQ_register 62 = .ok (.goto 7, 3) := by decide +kernel
theorem dQ_register_65 : decode bQ_register 65 = .ok (.aload_n 0, 1) := by decide +kernel
theorem dQ_register_66 : decode bQ_register 66 = .ok (.getfield 56, 3) := by decide +kernel
theorem dQ_register_69 : decode bQ_register 69 = .ok (.ireturn, 1) := by decide +kernel
theorem dQ_register_70 : decode bQ_register 70 = .ok (.aload_n 0, 1) := by decide +kernel
theorem dQ_register_71 : decode bQ_register 71 = .ok (.getfield 59, 3) := by decide +kernel
theorem dQ_register_74 : decode bQ_register 74 = .ok (.ifCond .eq 8, 3) := by decide +kernel
theorem dQ_register_77 : decode bQ_register 77 = .ok (.bipush 8, 2) := by decide +kernel
theorem dQ_register_79 : decode bQ_register 79 = .ok (.goto 4, 3) := by decide +kernel
theorem dQ_register_82 : decode bQ_register 82 = .ok (.iconst 0, 1) := by decide +kernel
theorem dQ_register_83 : decode bQ_register 83 = .ok (.aload_n 0, 1) := by decide +kernel
theorem dQ_register_84 : decode bQ_register 84 = .ok (.getfield 63, 3) := by decide +kernel
theorem dQ_register_87 : decode bQ_register 87 = .ok (.ifCond .eq 7, 3) := by decide +kernel
theorem dQ_register_90 : decode bQ_register 90 = .ok (.iconst 4, 1) := by decide +kernel
theorem dQ_register_91 : decode bQ_register 91 = .ok (.goto 4, 3) := by decide +kernel
theorem dQ_register_94 : decode bQ_register 94 = .ok (.iconst 0, 1) := by decide +kernel
theorem dQ_register_95 : decode bQ_register 95 = .ok (.iadd, 1) := by decide +kernel
theorem dQ_register_96 : decode bQ_register 96 = .ok (.aload_n 0, 1) := by decide +kernel
theorem dQ_register_97 : decode bQ_register 97 = .ok (.getfield 66, 3) := by decide +kernel
theorem dQ_register_100 : decode bQ_register 100 = .ok (.ifCond .eq 7, 3) := by decide +kernel
theorem dQ_register_103 : decode bQ_register 103 = .ok (.iconst 2, 1) := by decide +kernel
theorem dQ_register_104 : decode bQ_register 104 = .ok (.goto 4, 3) := by decide +kernel
theorem dQ_register_107 : decode bQ_register 107 = .ok (.iconst 0, 1) := by decide +kernel
theorem dQ_register_108 : decode bQ_register 108 = .ok (.iadd, 1) := by decide +kernel
theorem dQ_register_109 : decode bQ_register 109 = .ok (.aload_n 0, 1) := by decide +kernel
theorem dQ_register_110 : decode bQ_register 110 = .ok (.getfield 69, 3) := by decide +kernel
theorem dQ_register_113 : decode bQ_register 113 = .ok (.ifCond .eq 7, 3) := by decide +kernel
theorem dQ_register_116 : decode bQ_register 116 = .ok (.iconst 1, 1) := by decide +kernel
theorem dQ_register_117 : decode bQ_register 117 = .ok (.goto 4, 3) := by decide +kernel
theorem dQ_register_120 : decode bQ_register 120 = .ok (.iconst 0, 1) := by decide +kernel
theorem dQ_register_121 : decode bQ_register 121 = .ok (.iadd, 1) := by decide +kernel
theorem dQ_register_122 : decode bQ_register 122 = .ok (.istore_n 2, 1) := by decide +kernel
theorem dQ_register_123 : decode bQ_register 123 = .ok (.iload_n 1, 1) := by decide +kernel
theorem dQ_register_124 : decode bQ_register 124 = .ok (.bipush 10, 2) := by decide +kernel
theorem dQ_register_126 : decode bQ_register 126 = .ok (.if_icmp .ne 7, 3) := by decide +kernel
theorem dQ_register_129 : decode bQ_register 129 = .ok (.iload_n 2, 1) := by decide +kernel
theorem dQ_register_130 : decode bQ_register 130 = .ok (.goto 56, 3) := by decide +kernel
theorem dQ_register_133 : decode bQ_register 133 = .ok (.iload_n 1, 1) := by decide +kernel
theorem dQ_register_134 : decode bQ_register 134 = .ok (.bipush 11, 2) := by decide +kernel
theorem dQ_register_136 : decode bQ_register 136 = .ok (.if_icmp .ne 38, 3) := by decide +kernel
theorem dQ_register_139 : decode bQ_register 139 = .ok (.aload_n 0, 1) := by decide +kernel
theorem dQ_register_140 : decode bQ_register 140 = .ok (.getfield 78, 3) := by decide +kernel
theorem dQ_register_143 : decode bQ_register 143 = .ok (.ifCond .eq 8, 3) := by decide +kernel
theorem dQ_register_146 : decode bQ_register 146 = .ok (.bipush 16, 2) := by decide +kernel
theorem dQ_register_148 : decode bQ_register 148 = .ok (.goto 4, 3) := by decide +kernel
theorem dQ_register_151 : decode bQ_register 151 = .ok (.iconst 0, 1) := by decide +kernel
theorem dQ_register_152 : decode bQ_register 152 = .ok (.iconst 4, 1) := by decide +kernel
theorem dQ_register_153 : decode bQ_register 153 = .ok (.aload_n 0, 1) := by decide +kernel
theorem dQ_register_154 : decode bQ_register 154 = .ok (.getfield 81, 3) := by decide +kernel
theorem dQ_register_157 : decode bQ_register 157 = .ok (.imul, 1) := by decide +kernel
theorem dQ_register_158 : decode bQ_register 158 = .ok (.iadd, 1) := by decide +kernel
theorem dQ_register_159 : decode bQ_register 159 = .ok (.iconst 2, 1) := by decide +kernel
theorem dQ_register_160 : decode bQ_register 160 = .ok (.aload_n 0, 1) := by decide +kernel
theorem dQ_register_161 : decode bQ_register 161 = .ok (.getfield 84, 3) := by decide +kernel
theorem dQ_register_164 : decode bQ_register 164 = .ok (.imul, 1) := by decide +kernel
theorem dQ_register_165 : decode bQ_register 165 = .ok (.iadd, 1) := by decide +kernel
theorem dQ_register_166 : decode bQ_register 166 = .ok (.aload_n 0, 1) := by decide +kernel
theorem dQ_register_167 : decode bQ_register 167 = .ok (.getfield 87, 3) := by decide +kernel
theorem dQ_register_170 : decode bQ_register 170 = .ok (.iadd, 1) := by decide +kernel
theorem dQ_register_171 : decode bQ_register 171 = .ok (.goto 15, 3) := by decide +kernel
theorem dQ_register_174 : decode bQ_register 174 = .ok (.aload_n 0, 1) := by decide +kernel
theorem dQ_register_175 : decode bQ_register 175 = .ok (.getfield 72, 3) := by decide +kernel
theorem dQ_register_178 : decode bQ_register 178 = .ok (.ifCond .eq 7, 3) := by decide +kernel
theorem dQ_register_181 : decode bQ_register 181 = .ok (.iconst 1, 1) := by decide +kernel
theorem dQ_register_182 : decode bQ_register 182 = .ok (.goto 4, 3) := by decide +kernel
theorem dQ_register_185 : decode bQ_register 185 = .ok (.iconst 0, 1) := by decide +kernel
theorem dQ_register_186 : decode bQ_register 186 = .ok (.ireturn, 1) := by decide +kernel
theorem dQ_peek_0 : decode bQ_peek 0 = .ok (.aload_n 0, 1) := by decide +kernel
theorem dQ_peek_1 : decode bQ_peek 1 = .ok (.getfield 143, 3) := by decide +kernel
theorem dQ_peek_4 : decode bQ_peek 4 = .ok (.ifCond .eq 14, 3) := by decide +kernel
theorem dQ_peek_7 : decode bQ_peek 7 = .ok (.iload_n 1, 1) := by decide +kernel
theorem dQ_peek_8 : decode bQ_peek 8 = .ok (.iconst 0, 1) := by decide +kernel
theorem dQ_peek_9 : decode bQ_peek 9 = .ok (.sipush 255, 3) := by decide +kernel
theorem dQ_peek_12 : decode bQ_peek 12 = .ok (.invokestatic 96, 3) := by decide +kernel
theorem dQ_peek_15 : decode bQ_peek 15 = .ok (.ifCond .eq 9, 3) := by decide +kernel
theorem dQ_peek_18 : decode bQ_peek 18 = .ok (.aload_n 0, 1) := by decide +kernel
theorem dQ_peek_19 : decode bQ_peek 19 = .ok (.iconst 1, 1) := by decide +kernel
theorem dQ_peek_20 : decode bQ_peek 20 = .ok (.invokevirtual 146, 3) := by decide +kernel
theorem dQ_peek_23 : decode bQ_peek 23 = .ok (.ireturn, 1) := by decide +kernel
theorem dQ_peek_24 : decode bQ_peek 24 = .ok (.aload_n 0, 1) := by decide +kernel
theorem dQ_peek_25 : decode bQ_peek 25 = .ok (.iconst 0, 1) := by decide +kernel
theorem dQ_peek_26 : decode bQ_peek 26 = .ok (.putfield 49, 3) := by decide +kernel
theorem dQ_peek_29 : decode bQ_peek 29 = .ok (.aload_n 0, 1) := by decide +kernel
theorem dQ_peek_30 : decode bQ_peek 30 = .ok (.iload_n 1, 1) := by decide +kernel
theorem dQ_peek_31 : decode bQ_peek 31 = .ok (.invokevirtual 152, 3) := by decide +kernel
theorem dQ_peek_34 : decode bQ_peek 34 = .ok (.ireturn, 1) := by decide +kernel
theorem dQ_sent_0 : decode bQ_sent 0 = .ok (.aload_n 0, 1) := by decide +kernel
theorem dQ_sent_1 : decode bQ_sent 1 = .ok (.iconst 0, 1) := by decide +kernel
theorem dQ_sent_2 : decode bQ_sent 2 = .ok (.putfield 49, 3) := by decide +kernel
theorem dQ_sent_5 : decode bQ_sent 5 = .ok (.aload_n 0, 1) := by decide +kernel
theorem dQ_sent_6 : decode bQ_sent 6 = .ok (.getfield 93, 3) := by decide +kernel
theorem dQ_sent_9 : decode bQ_sent 9 = .ok (.ireturn, 1) := by decide +kernel
theorem dQ_byteSent_0 : decode bQ_byteSent 0 = .ok (.iload_n 1, 1) := by decide +kernel
theorem dQ_byteSent_1 : decode bQ_byteSent 1 = .ok (.iconst 0, 1) := by decide +kernel
theorem dQ_byteSent_2 : decode bQ_byteSent 2 = .ok (.aload_n 0, 1) := by decide +kernel
theorem dQ_byteSent_3 : decode bQ_byteSent 3 = .ok (.getfield 93, 3) := by decide +kernel
theorem dQ_byteSent_6 : decode bQ_byteSent 6 = .ok (.iconst 1, 1) := by decide +kernel
theorem dQ_byteSent_7 : decode bQ_byteSent 7 = .ok (.isub, 1) := by decide +kernel
theorem dQ_byteSent_8 : decode bQ_byteSent 8 = .ok (.invokestatic 96, 3) := by decide +kernel
theorem dQ_byteSent_11 : decode bQ_byteSent 11 = .ok (.ifCond .ne 9, 3) := by decide +kernel
theorem dQ_byteSent_14 : decode bQ_byteSent 14 = .ok (.iload_n 1, 1) := by decide +kernel
theorem dQ_byteSent_15 : decode bQ_byteSent 15 = .ok (.bipush 99, 2) := by decide +kernel
theorem dQ_byteSent_17 : decode bQ_byteSent 17 = .ok (.if_icmp .le 9, 3) := by decide +kernel
theorem dQ_byteSent_20 : decode bQ_byteSent 20 = .ok (.aload_n 0, 1) := by decide +kernel
theorem dQ_byteSent_21 : decode bQ_byteSent 21 = .ok (.iconst 1, 1) := by decide +kernel
theorem dQ_byteSent_22 : decode bQ_byteSent 22 = .ok (.invokevirtual 146, 3) := by decide +kernel
theorem dQ_byteSent_25 : decode bQ_byteSent 25 = .ok (.ireturn, 1) := by decide +kernel
theorem dQ_byteSent_26 : decode bQ_byteSent 26 = .ok (.aload_n 0, 1) := by decide +kernel
theorem dQ_byteSent_27 : decode bQ_byteSent 27 = .ok (.iconst 0, 1) := by decide +kernel
theorem dQ_byteSent_28 : decode bQ_byteSent 28 = .ok (.putfield 49, 3) := by decide +kernel
theorem dQ_byteSent_31 : decode bQ_byteSent 31 = .ok (.aload_n 0, 1) := by decide +kernel
theorem dQ_byteSent_32 : decode bQ_byteSent 32 = .ok (.getfield 43, 3) := by decide +kernel
theorem dQ_byteSent_35 : decode bQ_byteSent 35 = .ok (.iload_n 1, 1) := by decide +kernel
theorem dQ_byteSent_36 : decode bQ_byteSent 36 = .ok (.iaload, 1) := by decide +kernel
theorem dQ_byteSent_37 : decode bQ_byteSent 37 = .ok (.ireturn, 1) := by decide +kernel
theorem dK_init_0 : decode bK_init 0 = .ok (.aload_n 0, 1) := by decide +kernel
theorem dK_init_1 : decode bK_init 1 = .ok (.invokespecial 3, 3) := by decide +kernel
theorem dK_init_4 : decode bK_init 4 = .ok (.aload_n 0, 1) := by decide +kernel
theorem dK_init_5 : decode bK_init 5 = .ok (.sipush 512, 3) := by decide +kernel
theorem dK_init_8 : decode bK_init 8 = .ok (.newarray .int, 2) := by decide +kernel
theorem dK_init_10 : decode bK_init 10 = .ok (.putfield 9, 3) := by decide +kernel
theorem dK_init_13 : decode bK_init 13 = .ok (.return_, 1) := by decide +kernel
theorem dK_isMade_0 : decode bK_isMade 0 = .ok (.aload_n 0, 1) := by decide +kernel
theorem dK_isMade_1 : decode bK_isMade 1 = .ok (.getfield 15, 3) := by decide +kernel
theorem dK_isMade_4 : decode bK_isMade 4 = .ok (.ifCond .eq 7, 3) := by decide +kernel
theorem dK_isMade_7 : decode bK_isMade 7 = .ok (.iconst 1, 1) := by decide +kernel
theorem dK_isMade_8 : decode bK_isMade 8 = .ok (.goto 4, 3) := by decide +kernel
theorem dK_isMade_11 : decode bK_isMade 11 = .ok (.iconst 0, 1) := by decide +kernel
theorem dK_isMade_12 : decode bK_isMade 12 = .ok (.ireturn, 1) := by decide +kernel
theorem dK_size_0 : decode bK_size 0 = .ok (.aload_n 0, 1) := by decide +kernel
theorem dK_size_1 : decode bK_size 1 = .ok (.getfield 15, 3) := by decide +kernel
theorem dK_size_4 : decode bK_size 4 = .ok (.bipush 64, 2) := by decide +kernel
theorem dK_size_6 : decode bK_size 6 = .ok (.imul, 1) := by decide +kernel
theorem dK_size_7 : decode bK_size 7 = .ok (.ireturn, 1) := by decide +kernel
theorem dK_at_0 : decode bK_at 0 = .ok (.aload_n 0, 1) := by decide +kernel
theorem dK_at_1 : decode bK_at 1 = .ok (.getfield 9, 3) := by decide +kernel
theorem dK_at_4 : decode bK_at 4 = .ok (.iload_n 1, 1) := by decide +kernel
theorem dK_at_5 : decode bK_at 5 = .ok (.aload_n 0, 1) := by decide +kernel
theorem dK_at_6 : decode bK_at 6 = .ok (.getfield 15, 3) := by decide +kernel
theorem dK_at_9 : decode bK_at 9 = .ok (.iconst 1, 1) := by decide +kernel
theorem dK_at_10 : decode bK_at 10 = .ok (.isub, 1) := by decide +kernel
theorem dK_at_11 : decode bK_at 11 = .ok (.iand, 1) := by decide +kernel
theorem dK_at_12 : decode bK_at 12 = .ok (.bipush 7, 2) := by decide +kernel
theorem dK_at_14 : decode bK_at 14 = .ok (.iand, 1) := by decide +kernel
theorem dK_at_15 : decode bK_at 15 = .ok (.bipush 64, 2) := by decide +kernel
theorem dK_at_17 : decode bK_at 17 = .ok (.imul, 1) := by decide +kernel
theorem dK_at_18 : decode bK_at 18 = .ok (.iload_n 2, 1) := by decide +kernel
theorem dK_at_19 : decode bK_at 19 = .ok (.iadd, 1) := by decide +kernel
theorem dK_at_20 : decode bK_at 20 = .ok (.iaload, 1) := by decide +kernel
theorem dK_at_21 : decode bK_at 21 = .ok (.ireturn, 1) := by decide +kernel
theorem dK_make_0 : decode bK_make 0 = .ok (.aload_n 0, 1) := by decide +kernel
theorem dK_make_1 : decode bK_make 1 = .ok (.iload_n 3, 1) := by decide +kernel
theorem dK_make_2 : decode bK_make 2 = .ok (.putfield 15, 3) := by decide +kernel
theorem dK_make_5 : decode bK_make 5 = .ok (.iconst 0, 1) := by decide +kernel
theorem dK_make_6 : decode bK_make 6 = .ok (.istore 4, 2) := by decide +kernel
theorem dK_make_8 : decode bK_make 8 = .ok (.iload 4, 2) := by decide +kernel
theorem dK_make_10 : decode bK_make 10 = .ok (.aload_n 0, 1) := by decide +kernel
theorem dK_make_11 : decode bK_make 11 = .ok (.invokevirtual 19, 3) := by decide +kernel
theorem dK_make_14 : decode bK_make 14 = .ok (.if_icmp .ge 19, 3) := by decide +kernel
theorem dK_make_17 : decode bK_make 17 = .ok (.aload_n 0, 1) := by decide +kernel
theorem dK_make_18 : decode bK_make 18 = .ok (.getfield 9, 3) := by decide +kernel
theorem dK_make_21 : decode bK_make 21 = .ok (.iload 4, 2) := by decide +kernel
theorem dK_make_23 : decode bK_make 23 = .ok (.sipush 255, 3) := by decide +kernel
theorem dK_make_26 : decode bK_make 26 = .ok (.iastore, 1) := by decide +kernel
theorem dK_make_27 : decode bK_make 27 = .ok (.iinc 4 1, 3) := by decide +kernel
theorem dK_make_30 : decode bK_make 30 = .ok (.goto (-22), 3) := by decide +kernel
theorem dK_make_33 : decode bK_make 33 = .ok (.iconst 0, 1) := by decide +kernel
theorem dK_make_34 : decode bK_make 34 = .ok (.istore 4, 2) := by decide +kernel
theorem dK_make_36 : decode bK_make 36 = .ok (.iload 4, 2) := by decide +kernel
theorem dK_make_38 : decode bK_make 38 = .ok (.aload_n 1, 1) := by decide +kernel
theorem dK_make_39 : decode bK_make 39 = .ok (.getfield 23, 3) := by decide +kernel
theorem dK_make_42 : decode bK_make 42 = .ok (.if_icmp .ge 17, 3) := by decide +kernel
theorem dK_make_45 : decode bK_make 45 = .ok (.aload_n 0, 1) := by decide +kernel
theorem dK_make_46 : decode bK_make 46 = .ok (.aload_n 1, 1) := by decide +kernel
theorem dK_make_47 : decode bK_make 47 = .ok (.aload_n 2, 1) := by decide +kernel
theorem dK_make_48 : decode bK_make 48 = .ok (.iload 4, 2) := by decide +kernel
theorem dK_make_50 : decode bK_make 50 = .ok (.invokevirtual 28, 3) := by decide +kernel
theorem dK_make_53 : decode bK_make 53 = .ok (.iinc 4 1, 3) := by decide +kernel
theorem dK_make_56 : decode bK_make 56 = .ok (.goto (-20), 3) := by decide +kernel
theorem dK_make_59 : decode bK_make 59 = .ok (.aload_n 0, 1) := by decide +kernel
theorem dK_make_60 : decode bK_make 60 = .ok (.aload_n 2, 1) := by decide +kernel
theorem dK_make_61 : decode bK_make 61 = .ok (.iconst 0, 1) := by decide +kernel
theorem dK_make_62 : decode bK_make 62 = .ok (.invokevirtual 32, 3) := by decide +kernel
theorem dK_make_65 : decode bK_make 65 = .ok (.invokevirtual 38, 3) := by decide +kernel
theorem dK_make_68 : decode bK_make 68 = .ok (.return_, 1) := by decide +kernel
theorem dK_verdict_0 : decode bK_verdict 0 = .ok (.iconst 2, 1) := by decide +kernel
theorem dK_verdict_1 : decode bK_verdict 1 = .ok (.istore_n 1, 1) := by decide +kernel
theorem dK_verdict_2 : decode bK_verdict 2 = .ok (.iload_n 1, 1) := by decide +kernel
theorem dK_verdict_3 : decode bK_verdict 3 = .ok (.bipush 6, 2) := by decide +kernel
theorem dK_verdict_5 : decode bK_verdict 5 = .ok (.if_icmp .ge 25, 3) := by decide +kernel
theorem dK_verdict_8 : decode bK_verdict 8 = .ok (.aload_n 0, 1) := by decide +kernel
theorem dK_verdict_9 : decode bK_verdict 9 = .ok (.getfield 9, 3) := by decide +kernel
theorem dK_verdict_12 : decode bK_verdict 12 = .ok (.iload_n 1, 1) := by decide +kernel
theorem dK_verdict_13 : decode bK_verdict 13 = .ok (.iaload, 1) := by decide +kernel
theorem dK_verdict_14 : decode bK_verdict 14 = .ok (.getstatic 42, 3) := by decide +kernel
theorem dK_verdict_17 : decode bK_verdict 17 = .ok (.iload_n 1, 1) := by decide +kernel
theorem dK_verdict_18 : decode bK_verdict 18 = .ok (.iaload, 1) := by decide +kernel
theorem dK_verdict_19 : decode bK_verdict 19 = .ok (.if_icmp .eq 5, 3) := by decide +kernel
theorem dK_verdict_22 : decode bK_verdict 22 = .ok (.iconst 1, 1) := by decide +kernel
theorem dK_verdict_23 : decode bK_verdict 23 = .ok (.ireturn, 1) := by decide +kernel
theorem dK_verdict_24 : decode bK_verdict 24 = .ok (.iinc 1 1, 3) := by decide +kernel
theorem dK_verdict_27 : decode bK_verdict 27 = .ok (.goto (-25), 3) := by decide +kernel
theorem dK_verdict_30 : decode bK_verdict 30 = .ok (.aload_n 0, 1) := by decide +kernel
theorem dK_verdict_31 : decode bK_verdict 31 = .ok (.getfield 9, 3) := by decide +kernel
theorem dK_verdict_34 : decode bK_verdict 34 = .ok (.bipush 6, 2) := by decide +kernel
theorem dK_verdict_36 : decode bK_verdict 36 = .ok (.iaload, 1) := by decide +kernel
theorem dK_verdict_37 : decode bK_verdict 37 = .ok (.aload_n 0, 1) := by decide +kernel
theorem dK_verdict_38 : decode bK_verdict 38 = .ok (.invokevirtual 45, 3) := by decide +kernel
theorem dK_verdict_41 : decode bK_verdict 41 = .ok (.if_icmp .eq 5, 3) := by decide +kernel
theorem dK_verdict_44 : decode bK_verdict 44 = .ok (.iconst 1, 1) := by decide +kernel
theorem dK_verdict_45 : decode bK_verdict 45 = .ok (.ireturn, 1) := by decide +kernel
theorem dK_verdict_46 : decode bK_verdict 46 = .ok (.aload_n 0, 1) := by decide +kernel
theorem dK_verdict_47 : decode bK_verdict 47 = .ok (.getfield 9, 3) := by decide +kernel
theorem dK_verdict_50 : decode bK_verdict 50 = .ok (.bipush 13, 2) := by decide +kernel
theorem dK_verdict_52 : decode bK_verdict 52 = .ok (.iaload, 1) := by decide +kernel
theorem dK_verdict_53 : decode bK_verdict 53 = .ok (.aload_n 0, 1) := by decide +kernel
theorem dK_verdict_54 : decode bK_verdict 54 = .ok (.invokevirtual 48, 3) := by decide +kernel
theorem dK_verdict_57 : decode bK_verdict 57 = .ok (.if_icmp .eq 5, 3) := by decide +kernel
theorem dK_verdict_60 : decode bK_verdict 60 = .ok (.iconst 2, 1) := by decide +kernel
theorem dK_verdict_61 : decode bK_verdict 61 = .ok (.ireturn, 1) := by decide +kernel
theorem dK_verdict_62 : decode bK_verdict 62 = .ok (.aload_n 0, 1) := by decide +kernel
theorem dK_verdict_63 : decode bK_verdict 63 = .ok (.getfield 9, 3) := by decide +kernel
theorem dK_verdict_66 : decode bK_verdict 66 = .ok (.bipush 14, 2) := by decide +kernel
theorem dK_verdict_68 : decode bK_verdict 68 = .ok (.iaload, 1) := by decide +kernel
theorem dK_verdict_69 : decode bK_verdict 69 = .ok (.sipush 256, 3) := by decide +kernel
theorem dK_verdict_72 : decode bK_verdict 72 = .ok (.imul, 1) := by decide +kernel
theorem dK_verdict_73 : decode bK_verdict 73 = .ok (.aload_n 0, 1) := by decide +kernel
theorem dK_verdict_74 : decode bK_verdict 74 = .ok (.getfield 9, 3) := by decide +kernel
theorem dK_verdict_77 : decode bK_verdict 77 = .ok (.bipush 15, 2) := by decide +kernel
theorem dK_verdict_79 : decode bK_verdict 79 = .ok (.iaload, 1) := by decide +kernel
theorem dK_verdict_80 : decode bK_verdict 80 = .ok (.iadd, 1) := by decide +kernel
theorem dK_verdict_81 : decode bK_verdict 81 = .ok (.istore_n 1, 1) := by decide +kernel
theorem dK_verdict_82 : decode bK_verdict 82 = .ok (.iload_n 1, 1) := by decide +kernel
theorem dK_verdict_83 : decode bK_verdict 83 = .ok (.aload_n 0, 1) := by decide +kernel
theorem dK_verdict_84 : decode bK_verdict 84 = .ok (.invokevirtual 51, 3) := by decide +kernel
theorem dK_verdict_87 : decode bK_verdict 87 = .ok (.if_icmp .ne 7, 3) := by decide +kernel
theorem dK_verdict_90 : decode bK_verdict 90 = .ok (.iconst 0, 1) := by decide +kernel
theorem dK_verdict_91 : decode bK_verdict 91 = .ok (.goto 4, 3) := by decide +kernel
theorem dK_verdict_94 : decode bK_verdict 94 = .ok (.iconst 3, 1) := by decide +kernel
theorem dK_verdict_95 : decode bK_verdict 95 = .ok (.ireturn, 1) := by decide +kernel
theorem dK_lay_0 : decode bK_lay 0 = .ok (.iload_n 3, 1) := by decide +kernel
theorem dK_lay_1 : decode bK_lay 1 = .ok (.bipush 48, 2) := by decide +kernel
theorem dK_lay_3 : decode bK_lay 3 = .ok (.imul, 1) := by decide +kernel
theorem dK_lay_4 : decode bK_lay 4 = .ok (.istore 4, 2) := by decide +kernel
theorem dK_lay_6 : decode bK_lay 6 = .ok (.aload_n 2, 1) := by decide +kernel
theorem dK_lay_7 : decode bK_lay 7 = .ok (.getfield 54, 3) := by decide +kernel
theorem dK_lay_10 : decode bK_lay 10 = .ok (.iload_n 3, 1) := by decide +kernel
theorem dK_lay_11 : decode bK_lay 11 = .ok (.iaload, 1) := by decide +kernel
theorem dK_lay_12 : decode bK_lay 12 = .ok (.bipush 64, 2) := by decide +kernel
theorem dK_lay_14 : decode bK_lay 14 = .ok (.imul, 1) := by decide +kernel
theorem dK_lay_15 : decode bK_lay 15 = .ok (.aload_n 2, 1) := by decide +kernel
theorem dK_lay_16 : decode bK_lay 16 = .ok (.getfield 57, 3) := by decide +kernel
theorem dK_lay_19 : decode bK_lay 19 = .ok (.iload_n 3, 1) := by decide +kernel
theorem dK_lay_20 : decode bK_lay 20 = .ok (.iaload, 1) := by decide +kernel
theorem dK_lay_21 : decode bK_lay 21 = .ok (.iadd, 1) := by decide +kernel
theorem dK_lay_22 : decode bK_lay 22 = .ok (.istore 5, 2) := by decide +kernel
theorem dK_lay_24 : decode bK_lay 24 = .ok (.iconst 0, 1) := by decide +kernel
theorem dK_lay_25 : decode bK_lay 25 = .ok (.istore 6, 2) := by decide +kernel
theorem dK_lay_27 : decode bK_lay 27 = .ok (.iload 6, 2) := by decide +kernel
theorem dK_lay_29 : decode bK_lay 29 = .ok (.aload_n 1, 1) := by decide +kernel
theorem dK_lay_30 : decode bK_lay 30 = .ok (.getfield 60, 3) := by decide +kernel
theorem dK_lay_33 : decode bK_lay 33 = .ok (.iload_n 3, 1) := by decide +kernel
theorem dK_lay_34 : decode bK_lay 34 = .ok (.iaload, 1) := by decide +kernel
theorem dK_lay_35 : decode bK_lay 35 = .ok (.if_icmp .ge 77, 3) := by decide +kernel
theorem dK_lay_38 : decode bK_lay 38 = .ok (.aload_n 1, 1) := by decide +kernel
theorem dK_lay_39 : decode bK_lay 39 = .ok (.getfield 63, 3) := by decide +kernel
theorem dK_lay_42 : decode bK_lay 42 = .ok (.iload 4, 2) := by decide +kernel
theorem dK_lay_44 : decode bK_lay 44 = .ok (.iload 6, 2) := by decide +kernel
theorem dK_lay_46 : decode bK_lay 46 = .ok (.iadd, 1) := by decide +kernel
theorem dK_lay_47 : decode bK_lay 47 = .ok (.iaload, 1) := by decide +kernel
theorem dK_lay_48 : decode bK_lay 48 = .ok (.istore 7, 2) := by decide +kernel
theorem dK_lay_50 : decode bK_lay 50 = .ok (.aload_n 1, 1) := by decide +kernel
theorem dK_lay_51 : decode bK_lay 51 = .ok (.getfield 66, 3) := by decide +kernel
theorem dK_lay_54 : decode bK_lay 54 = .ok (.iload 4, 2) := by decide +kernel
theorem dK_lay_56 : decode bK_lay 56 = .ok (.iload 6, 2) := by decide +kernel
theorem dK_lay_58 : decode bK_lay 58 = .ok (.iadd, 1) := by decide +kernel
theorem dK_lay_59 : decode bK_lay 59 = .ok (.iaload, 1) := by decide +kernel
theorem dK_lay_60 : decode bK_lay 60 = .ok (.istore 8, 2) := by decide +kernel
theorem dK_lay_62 : decode bK_lay 62 = .ok (.iload 8, 2) := by decide +kernel
theorem dK_lay_64 : decode bK_lay 64 = .ok (.iconst 1, 1) := by decide +kernel
theorem dK_lay_65 : decode bK_lay 65 = .ok (.if_icmp .ne 14, 3) := by decide +kernel
theorem dK_lay_68 : decode bK_lay 68 = .ok (.aload_n 2, 1) := by decide +kernel
theorem dK_lay_69 : decode bK_lay 69 = .ok (.iload 7, 2) := by decide +kernel
theorem dK_lay_71 : decode bK_lay 71 = .ok (.invokevirtual 32, 3) := by decide +kernel
theorem dK_lay_74 : decode bK_lay 74 = .ok (.istore 7, 2) := by decide +kernel
theorem dK_lay_76 : decode bK_lay 76 = .ok (.goto 18, 3) := by decide +kernel
theorem dK_lay_79 : decode bK_lay 79 = .ok (.iload 8, 2) := by decide +kernel
theorem dK_lay_81 : decode bK_lay 81 = .ok (.iconst 2, 1) := by decide +kernel
theorem dK_lay_82 : decode bK_lay 82 = .ok (.if_icmp .ne 12, 3) := by decide +kernel
theorem dK_lay_85 : decode bK_lay 85 = .ok (.aload_n 2, 1) := by decide +kernel
theorem dK_lay_86 : decode bK_lay 86 = .ok (.getfield 54, 3) := by decide +kernel
theorem dK_lay_89 : decode bK_lay 89 = .ok (.iload 7, 2) := by decide +kernel
theorem dK_lay_91 : decode bK_lay 91 = .ok (.iaload, 1) := by decide +kernel
theorem dK_lay_92 : decode bK_lay 92 = .ok (.istore 7, 2) := by decide +kernel
theorem dK_lay_94 : decode bK_lay 94 = .ok (.aload_n 0, 1) := by decide +kernel
theorem dK_lay_95 : decode bK_lay 95 = .ok (.getfield 9, 3) := by decide +kernel
theorem dK_lay_98 : decode bK_lay 98 = .ok (.iload 5, 2) := by decide +kernel
theorem dK_lay_100 : decode bK_lay 100 = .ok (.iload 6, 2) := by decide +kernel
theorem dK_lay_102 : decode bK_lay 102 = .ok (.iadd, 1) := by decide +kernel
theorem dK_lay_103 : decode bK_lay 103 = .ok (.iload 7, 2) := by decide +kernel
theorem dK_lay_105 : decode bK_lay 105 = .ok (.iastore, 1) := by decide +kernel
theorem dK_lay_106 : decode bK_lay 106 = .ok (.iinc 6 1, 3) := by decide +kernel
theorem dK_lay_109 : decode bK_lay 109 = .ok (.goto (-82), 3) := by decide +kernel
theorem dK_lay_112 : decode bK_lay 112 = .ok (.return_, 1) := by decide +kernel
theorem dK_writeHead_0 : decode bK_writeHead 0 = .ok (.iconst 0, 1) := by decide +kernel
theorem dK_writeHead_1 : decode bK_writeHead 1 = .ok (.istore_n 2, 1) := by decide +kernel
theorem dK_writeHead_2 : decode bK_writeHead 2 = .ok (.iload_n 2, 1) := by decide +kernel
theorem dK_writeHead_3 : decode bK_writeHead 3 = .ok (.bipush 32, 2) := by decide +kernel
theorem dK_writeHead_5 : decode bK_writeHead 5 = .ok (.if_icmp .ge 20, 3) := by decide +kernel
theorem dK_writeHead_8 : decode bK_writeHead 8 = .ok (.aload_n 0, 1) := by decide +kernel
theorem dK_writeHead_9 : decode bK_writeHead 9 = .ok (.getfield 9, 3) := by decide +kernel
theorem dK_writeHead_12 : decode bK_writeHead 12 = .ok (.iload_n 2, 1) := by decide +kernel
theorem dK_writeHead_13 : decode bK_writeHead 13 = .ok (.getstatic 42, 3) := by decide +kernel
theorem dK_writeHead_16 : decode bK_writeHead 16 = .ok (.iload_n 2, 1) := by decide +kernel
theorem dK_writeHead_17 : decode bK_writeHead 17 = .ok (.iaload, 1) := by decide +kernel
theorem dK_writeHead_18 : decode bK_writeHead 18 = .ok (.iastore, 1) := by decide +kernel
theorem dK_writeHead_19 : decode bK_writeHead 19 = .ok (.iinc 2 1, 3) := by decide +kernel
theorem dK_writeHead_22 : decode bK_writeHead 22 = .ok (.goto (-20), 3) := by decide +kernel
theorem dK_writeHead_25 : decode bK_writeHead 25 = .ok (.aload_n 0, 1) := by decide +kernel
theorem dK_writeHead_26 : decode bK_writeHead 26 = .ok (.getfield 9, 3) := by decide +kernel
theorem dK_writeHead_29 : decode bK_writeHead 29 = .ok (.iconst 1, 1) := by decide +kernel
theorem dK_writeHead_30 : decode bK_writeHead 30 = .ok (.iload_n 1, 1) := by decide +kernel
theorem dK_writeHead_31 : decode bK_writeHead 31 = .ok (.iastore, 1) := by decide +kernel
theorem dK_writeHead_32 : decode bK_writeHead 32 = .ok (.aload_n 0, 1) := by decide +kernel
theorem dK_writeHead_33 : decode bK_writeHead 33 = .ok (.getfield 9, 3) := by decide +kernel
theorem dK_writeHead_36 : decode bK_writeHead 36 = .ok (.bipush 6, 2) := by decide +kernel
theorem dK_writeHead_38 : decode bK_writeHead 38 = .ok (.aload_n 0, 1) := by decide +kernel
theorem dK_writeHead_39 : decode bK_writeHead 39 = .ok (.invokevirtual 45, 3) := by decide +kernel
theorem dK_writeHead_42 : decode bK_writeHead 42 = .ok (.iastore, 1) := by decide +kernel
theorem dK_writeHead_43 : decode bK_writeHead 43 = .ok (.aload_n 0, 1) := by decide +kernel
theorem dK_writeHead_44 : decode bK_writeHead 44 = .ok (.getfield 9, 3) := by decide +kernel
theorem dK_writeHead_47 : decode bK_writeHead 47 = .ok (.bipush 13, 2) := by decide +kernel
theorem dK_writeHead_49 : decode bK_writeHead 49 = .ok (.aload_n 0, 1) := by decide +kernel
theorem dK_writeHead_50 : decode bK_writeHead 50 = .ok (.invokevirtual 48, 3) := by decide +kernel
theorem dK_writeHead_53 : decode bK_writeHead 53 = .ok (.iastore, 1) := by decide +kernel
theorem dK_writeHead_54 : decode bK_writeHead 54 = .ok (.aload_n 0, 1) := by decide +kernel
theorem dK_writeHead_55 : decode bK_writeHead 55 = .ok (.invokevirtual 51, 3) := by decide +kernel
theorem dK_writeHead_58 : decode bK_writeHead 58 = .ok (.istore_n 2, 1) := by decide +kernel
theorem dK_writeHead_59 : decode bK_writeHead 59 = .ok (.aload_n 0, 1) := by decide +kernel
theorem dK_writeHead_60 : decode bK_writeHead 60 = .ok (.getfield 9, 3) := by decide +kernel
theorem dK_writeHead_63 : decode bK_writeHead 63 = .ok (.bipush 14, 2) := by decide +kernel
theorem dK_writeHead_65 : decode bK_writeHead 65 = .ok (.iload_n 2, 1) := by decide +kernel
theorem dK_writeHead_66 : decode bK_writeHead 66 = .ok (.bipush 8, 2) := by decide +kernel
theorem dK_writeHead_68 : decode bK_writeHead 68 = .ok (.ishr, 1) := by decide +kernel
theorem dK_writeHead_69 : decode bK_writeHead 69 = .ok (.iastore, 1) := by decide +kernel
theorem dK_writeHead_70 : decode bK_writeHead 70 = .ok (.aload_n 0, 1) := by decide +kernel
theorem dK_writeHead_71 : decode bK_writeHead 71 = .ok (.getfield 9, 3) := by decide +kernel
theorem dK_writeHead_74 : decode bK_writeHead 74 = .ok (.bipush 15, 2) := by decide +kernel
theorem dK_writeHead_76 : decode bK_writeHead 76 = .ok (.iload_n 2, 1) := by decide +kernel
theorem dK_writeHead_77 : decode bK_writeHead 77 = .ok (.sipush 255, 3) := by decide +kernel
theorem dK_writeHead_80 : decode bK_writeHead 80 = .ok (.iand, 1) := by decide +kernel
theorem dK_writeHead_81 : decode bK_writeHead 81 = .ok (.iastore, 1) := by decide +kernel
theorem dK_writeHead_82 : decode bK_writeHead 82 = .ok (.return_, 1) := by decide +kernel
theorem dK_sizeCode_0 : decode bK_sizeCode 0 = .ok (.aload_n 0, 1) := by decide +kernel
theorem dK_sizeCode_1 : decode bK_sizeCode 1 = .ok (.getfield 15, 3) := by decide +kernel
theorem dK_sizeCode_4 : decode bK_sizeCode 4 = .ok (.bipush 8, 2) := by decide +kernel
theorem dK_sizeCode_6 : decode bK_sizeCode 6 = .ok (.if_icmp .ne 5, 3) := by decide +kernel
theorem dK_sizeCode_9 : decode bK_sizeCode 9 = .ok (.iconst 2, 1) := by decide +kernel
theorem dK_sizeCode_10 : decode bK_sizeCode 10 = .ok (.ireturn, 1) := by decide +kernel
theorem dK_sizeCode_11 : decode bK_sizeCode 11 = .ok (.aload_n 0, 1) := by decide +kernel
theorem dK_sizeCode_12 : decode bK_sizeCode 12 = .ok (.getfield 15, 3) := by decide +kernel
theorem dK_sizeCode_15 : decode bK_sizeCode 15 = .ok (.iconst 4, 1) := by decide +kernel
theorem dK_sizeCode_16 : decode bK_sizeCode 16 = .ok (.if_icmp .ne 7, 3) := by decide +kernel
theorem dK_sizeCode_19 : decode bK_sizeCode 19 = .ok (.iconst 1, 1) := by decide +kernel
theorem dK_sizeCode_20 : decode bK_sizeCode 20 = .ok (.goto 4, 3) := by decide +kernel
theorem dK_sizeCode_23 : decode bK_sizeCode 23 = .ok (.iconst 0, 1) := by decide +kernel
theorem dK_sizeCode_24 : decode bK_sizeCode 24 = .ok (.ireturn, 1) := by decide +kernel
theorem dK_headCheck_0 : decode bK_headCheck 0 = .ok (.iconst 0, 1) := by decide +kernel
theorem dK_headCheck_1 : decode bK_headCheck 1 = .ok (.istore_n 1, 1) := by decide +kernel
theorem dK_headCheck_2 : decode bK_headCheck 2 = .ok (.iconst 2, 1) := by decide +kernel
theorem dK_headCheck_3 : decode bK_headCheck 3 = .ok (.istore_n 2, 1) := by decide +kernel
theorem dK_headCheck_4 : decode bK_headCheck 4 = .ok (.iload_n 2, 1) := by decide +kernel
theorem dK_headCheck_5 : decode bK_headCheck 5 = .ok (.bipush 12, 2) := by decide +kernel
theorem dK_headCheck_7 : decode bK_headCheck 7 = .ok (.if_icmp .gt 24, 3) := by decide +kernel
theorem dK_headCheck_10 : decode bK_headCheck 10 = .ok (.iload_n 1, 1) := by decide +kernel
theorem dK_headCheck_11 : decode bK_headCheck 11 = .ok (.aload_n 0, 1) := by decide +kernel
theorem dK_headCheck_12 : decode bK_headCheck 12 = .ok (.getfield 9, 3) := by decide +kernel
theorem dK_headCheck_15 : decode bK_headCheck 15 = .ok (.iload_n 2, 1) := by decide +kernel
theorem dK_headCheck_16 : decode bK_headCheck 16 = .ok (.iaload, 1) := by decide +kernel
theorem dK_headCheck_17 : decode bK_headCheck 17 = .ok (.isub, 1) := by decide +kernel
theorem dK_headCheck_18 : decode bK_headCheck 18 = .ok (.iconst 1, 1) := by decide +kernel
theorem dK_headCheck_19 : decode bK_headCheck 19 = .ok (.isub, 1) := by decide +kernel
theorem dK_headCheck_20 : decode bK_headCheck 20 = .ok (.sipush 255, 3) := by decide +kernel
theorem dK_headCheck_23 : decode bK_headCheck 23 = .ok (.iand, 1) := by decide +kernel
theorem dK_headCheck_24 : decode bK_headCheck 24 = .ok (.istore_n 1, 1) := by decide +kernel
theorem dK_headCheck_25 : decode bK_headCheck 25 = .ok (.iinc 2 1, 3) := by decide +kernel
theorem dK_headCheck_28 : decode bK_headCheck 28 = .ok (.goto (-24), 3) := by decide +kernel
theorem dK_headCheck_31 : decode bK_headCheck 31 = .ok (.iload_n 1, 1) := by decide +kernel
theorem dK_headCheck_32 : decode bK_headCheck 32 = .ok (.ireturn, 1) := by decide +kernel
theorem dK_imageCheck_0 : decode bK_imageCheck 0 = .ok (.iconst 0, 1) := by decide +kernel
theorem dK_imageCheck_1 : decode bK_imageCheck 1 = .ok (.istore_n 1, 1) := by decide +kernel
theorem dK_imageCheck_2 : decode bK_imageCheck 2 = .ok (.iconst 0, 1) := by decide +kernel
theorem dK_imageCheck_3 : decode bK_imageCheck 3 = .ok (.istore_n 2, 1) := by decide +kernel
theorem dK_imageCheck_4 : decode bK_imageCheck 4 = .ok (.iload_n 2, 1) := by decide +kernel
theorem dK_imageCheck_5 : decode bK_imageCheck 5 = .ok (.aload_n 0, 1) := by decide +kernel
theorem dK_imageCheck_6 : decode bK_imageCheck 6 = .ok (.invokevirtual 19, 3) := by decide +kernel
theorem dK_imageCheck_9 : decode bK_imageCheck 9 = .ok (.if_icmp .ge 30, 3) := by decide +kernel
theorem dK_imageCheck_12 : decode bK_imageCheck 12 = .ok (.iload_n 2, 1) := by decide +kernel
theorem dK_imageCheck_13 : decode bK_imageCheck 13 = .ok (.bipush 14, 2) := by decide +kernel
theorem dK_imageCheck_15 : decode bK_imageCheck 15 = .ok (.if_icmp .eq 18, 3) := by decide +kernel
theorem dK_imageCheck_18 : decode bK_imageCheck 18 = .ok (.iload_n 2, 1) := by decide +kernel
theorem dK_imageCheck_19 : decode bK_imageCheck 19 = .ok (.bipush 15, 2) := by decide +kernel
theorem dK_imageCheck_21 : decode bK_imageCheck 21 = .ok (.if_icmp .eq 12, 3) := by decide +kernel
theorem dK_imageCheck_24 : decode bK_imageCheck 24 = .ok (.iload_n 1, 1) := by decide +kernel
theorem dK_imageCheck_25 : decode bK_imageCheck 25 = .ok (.aload_n 0, 1) := by decide +kernel
theorem dK_imageCheck_26 : decode bK_imageCheck 26 = .ok (.getfield 9, 3) := by decide +kernel
theorem dK_imageCheck_29 : decode bK_imageCheck 29 = .ok (.iload_n 2, 1) := by decide +kernel
theorem dK_imageCheck_30 : decode bK_imageCheck 30 = .ok (.iaload, 1) := by decide +kernel
theorem dK_imageCheck_31 : decode bK_imageCheck 31 = .ok (.iadd, 1) := by decide +kernel
theorem dK_imageCheck_32 : decode bK_imageCheck 32 = .ok (.istore_n 1, 1) := by decide +kernel
theorem dK_imageCheck_33 : decode bK_imageCheck 33 = .ok (.iinc 2 1, 3) := by decide +kernel
theorem dK_imageCheck_36 : decode bK_imageCheck 36 = .ok (.goto (-32), 3) := by decide +kernel
theorem dK_imageCheck_39 : decode bK_imageCheck 39 = .ok (.iload_n 1, 1) := by decide +kernel
theorem dK_imageCheck_40 : decode bK_imageCheck 40 = .ok (.ldc 69, 2) := by decide +kernel
theorem dK_imageCheck_42 : decode bK_imageCheck 42 = .ok (.iand, 1) := by decide +kernel
theorem dK_imageCheck_43 : decode bK_imageCheck 43 = .ok (.ireturn, 1) := by decide +kernel
theorem dN_init_0 : decode bN_init 0 = .ok (.aload_n 0, 1) := by decide +kernel
theorem dN_init_1 : decode bN_init 1 = .ok (.invokespecial 3, 3) := by decide +kernel
theorem dN_init_4 : decode bN_init 4 = .ok (.aload_n 0, 1) := by decide +kernel
theorem dN_init_5 : decode bN_init 5 = .ok (.bipush 8, 2) := by decide +kernel
theorem dN_init_7 : decode bN_init 7 = .ok (.newarray .int, 2) := by decide +kernel
theorem dN_init_9 : decode bN_init 9 = .ok (.putfield 9, 3) := by decide +kernel
theorem dN_init_12 : decode bN_init 12 = .ok (.aload_n 0, 1) := by decide +kernel
theorem dN_init_13 : decode bN_init 13 = .ok (.bipush 100, 2) := by decide +kernel
theorem dN_init_15 : decode bN_init 15 = .ok (.newarray .int, 2) := by decide +kernel
theorem dN_init_17 : decode bN_init 17 = .ok (.putfield 15, 3) := by decide +kernel
theorem dN_init_20 : decode bN_init 20 = .ok (.aload_n 0, 1) := by decide +kernel
theorem dN_init_21 : decode bN_init 21 = .ok (.aload_n 1, 1) := by decide +kernel
theorem dN_init_22 : decode bN_init 22 = .ok (.putfield 18, 3) := by decide +kernel
theorem dN_init_25 : decode bN_init 25 = .ok (.aload_n 0, 1) := by decide +kernel
theorem dN_init_26 : decode bN_init 26 = .ok (.invokevirtual 22, 3) := by decide +kernel
theorem dN_init_29 : decode bN_init 29 = .ok (.return_, 1) := by decide +kernel
theorem dN_begin_0 : decode bN_begin 0 = .ok (.iconst 0, 1) := by decide +kernel
theorem dN_begin_1 : decode bN_begin 1 = .ok (.istore_n 1, 1) := by decide +kernel
theorem dN_begin_2 : decode bN_begin 2 = .ok (.iload_n 1, 1) := by decide +kernel
theorem dN_begin_3 : decode bN_begin 3 = .ok (.aload_n 0, 1) := by decide +kernel
theorem dN_begin_4 : decode bN_begin 4 = .ok (.getfield 9, 3) := by decide +kernel
theorem dN_begin_7 : decode bN_begin 7 = .ok (.arraylength, 1) := by decide +kernel
theorem dN_begin_8 : decode bN_begin 8 = .ok (.if_icmp .ge 16, 3) := by decide +kernel
theorem dN_begin_11 : decode bN_begin 11 = .ok (.aload_n 0, 1) := by decide +kernel
theorem dN_begin_12 : decode bN_begin 12 = .ok (.getfield 9, 3) := by decide +kernel
theorem dN_begin_15 : decode bN_begin 15 = .ok (.iload_n 1, 1) := by decide +kernel
theorem dN_begin_16 : decode bN_begin 16 = .ok (.iconst 0, 1) := by decide +kernel
theorem dN_begin_17 : decode bN_begin 17 = .ok (.iastore, 1) := by decide +kernel
theorem dN_begin_18 : decode bN_begin 18 = .ok (.iinc 1 1, 3) := by decide +kernel
theorem dN_begin_21 : decode bN_begin 21 = .ok (.goto (-19), 3) := by decide +kernel
theorem dN_begin_24 : decode bN_begin 24 = .ok (.aload_n 0, 1) := by decide +kernel
theorem dN_begin_25 : decode bN_begin 25 = .ok (.sipush 240, 3) := by decide +kernel
theorem dN_begin_28 : decode bN_begin 28 = .ok (.putfield 25, 3) := by decide +kernel
theorem dN_begin_31 : decode bN_begin 31 = .ok (.aload_n 0, 1) := by decide +kernel
theorem dN_begin_32 : decode bN_begin 32 = .ok (.iconst 0, 1) := by decide +kernel
theorem dN_begin_33 : decode bN_begin 33 = .ok (.putfield 29, 3) := by decide +kernel
theorem dN_begin_36 : decode bN_begin 36 = .ok (.aload_n 0, 1) := by decide +kernel
theorem dN_begin_37 : decode bN_begin 37 = .ok (.iconst 0, 1) := by decide +kernel
theorem dN_begin_38 : decode bN_begin 38 = .ok (.iconst 0, 1) := by decide +kernel
theorem dN_begin_39 : decode bN_begin 39 = .ok (.iconst 0, 1) := by decide +kernel
theorem dN_begin_40 : decode bN_begin 40 = .ok (.iconst 0, 1) := by decide +kernel
theorem dN_begin_41 : decode bN_begin 41 = .ok (.invokevirtual 32, 3) := by decide +kernel
theorem dN_begin_44 : decode bN_begin 44 = .ok (.aload_n 0, 1) := by decide +kernel
theorem dN_begin_45 : decode bN_begin 45 = .ok (.iconst 0, 1) := by decide +kernel
theorem dN_begin_46 : decode bN_begin 46 = .ok (.putfield 36, 3) := by decide +kernel
theorem dN_begin_49 : decode bN_begin 49 = .ok (.aload_n 0, 1) := by decide +kernel
theorem dN_begin_50 : decode bN_begin 50 = .ok (.iconst 0, 1) := by decide +kernel
theorem dN_begin_51 : decode bN_begin 51 = .ok (.putfield 40, 3) := by decide +kernel
theorem dN_begin_54 : decode bN_begin 54 = .ok (.aload_n 0, 1) := by decide +kernel
theorem dN_begin_55 : decode bN_begin 55 = .ok (.iconst 0, 1) := by decide +kernel
theorem dN_begin_56 : decode bN_begin 56 = .ok (.putfield 43, 3) := by decide +kernel
theorem dN_begin_59 : decode bN_begin 59 = .ok (.aload_n 0, 1) := by decide +kernel
theorem dN_begin_60 : decode bN_begin 60 = .ok (.iconst 0, 1) := by decide +kernel
theorem dN_begin_61 : decode bN_begin 61 = .ok (.putfield 46, 3) := by decide +kernel
theorem dN_begin_64 : decode bN_begin 64 = .ok (.aload_n 0, 1) := by decide +kernel
theorem dN_begin_65 : decode bN_begin 65 = .ok (.getfield 18, 3) := by decide +kernel
theorem dN_begin_68 : decode bN_begin 68 = .ok (.invokevirtual 49, 3) := by decide +kernel
theorem dN_begin_71 : decode bN_begin 71 = .ok (.return_, 1) := by decide +kernel
theorem dN_keptCount_0 : decode bN_keptCount 0 = .ok (.aload_n 0, 1) := by decide +kernel
theorem dN_keptCount_1 : decode bN_keptCount 1 = .ok (.getfield 46, 3) := by decide +kernel
theorem dN_keptCount_4 : decode bN_keptCount 4 = .ok (.bipush 100, 2) := by decide +kernel
theorem dN_keptCount_6 : decode bN_keptCount 6 = .ok (.invokestatic 52, 3) := by decide +kernel
theorem dN_keptCount_9 : decode bN_keptCount 9 = .ok (.ireturn, 1) := by decide +kernel
theorem dN_shown_0 : decode bN_shown 0 = .ok (.iload_n 1, 1) := by decide +kernel
theorem dN_shown_1 : decode bN_shown 1 = .ok (.tableswitch 111 8 12 #[35, 40, 45, 90, 98], 35) := by decide +kernel
theorem dN_shown_36 : decode bN_shown 36 = .ok (.aload_n 0, 1) := by decide +kernel
theorem dN_shown_37 : decode bN_shown 37 = .ok (.getfield 25, 3) := by decide +kernel
theorem dN_shown_40 : decode bN_shown 40 = .ok (.ireturn, 1) := by decide +kernel
theorem dN_shown_41 : decode bN_shown 41 = .ok (.aload_n 0, 1) := by decide +kernel
theorem dN_shown_42 : decode bN_shown 42 = .ok (.getfield 29, 3) := by decide +kernel
theorem dN_shown_45 : decode bN_shown 45 = .ok (.ireturn, 1) := by decide +kernel
theorem dN_shown_46 : decode bN_shown 46 = .ok (.aload_n 0, 1) := by decide +kernel
theorem dN_shown_47 : decode bN_shown 47 = .ok (.getfield 58, 3) := by decide +kernel
theorem dN_shown_50 : decode bN_shown 50 = .ok (.ifCond .eq 8, 3) := by decide +kernel
theorem dN_shown_53 : decode bN_shown 53 = .ok (.bipush 8, 2) := by decide +kernel
theorem dN_shown_55 : decode bN_shown 55 = .ok (.goto 4, 3) := by decide +kernel
theorem dN_shown_58 : decode bN_shown 58 = .ok (.iconst 0, 1) := by decide +kernel
theorem dN_shown_59 : decode bN_shown 59 = .ok (.aload_n 0, 1) := by decide +kernel
theorem dN_shown_60 : decode bN_shown 60 = .ok (.getfield 61, 3) := by decide +kernel
theorem dN_shown_63 : decode bN_shown 63 = .ok (.ifCond .eq 7, 3) := by decide +kernel
theorem dN_shown_66 : decode bN_shown 66 = .ok (.iconst 4, 1) := by decide +kernel
theorem dN_shown_67 : decode bN_shown 67 = .ok (.goto 4, 3) := by decide +kernel
theorem dN_shown_70 : decode bN_shown 70 = .ok (.iconst 0, 1) := by decide +kernel
theorem dN_shown_71 : decode bN_shown 71 = .ok (.iadd, 1) := by decide +kernel
theorem dN_shown_72 : decode bN_shown 72 = .ok (.aload_n 0, 1) := by decide +kernel
theorem dN_shown_73 : decode bN_shown 73 = .ok (.getfield 64, 3) := by decide +kernel
theorem dN_shown_76 : decode bN_shown 76 = .ok (.ifCond .eq 7, 3) := by decide +kernel
theorem dN_shown_79 : decode bN_shown 79 = .ok (.iconst 2, 1) := by decide +kernel
theorem dN_shown_80 : decode bN_shown 80 = .ok (.goto 4, 3) := by decide +kernel
theorem dN_shown_83 : decode bN_shown 83 = .ok (.iconst 0, 1) := by decide +kernel
theorem dN_shown_84 : decode bN_shown 84 = .ok (.iadd, 1) := by decide +kernel
theorem dN_shown_85 : decode bN_shown 85 = .ok (.aload_n 0, 1) := by decide +kernel
theorem dN_shown_86 : decode bN_shown 86 = .ok (.invokevirtual 67, 3) := by decide +kernel
theorem dN_shown_89 : decode bN_shown 89 = .ok (.iadd, 1) := by decide +kernel
theorem dN_shown_90 : decode bN_shown 90 = .ok (.ireturn, 1) := by decide +kernel
theorem dN_shown_91 : decode bN_shown 91 = .ok (.aload_n 0, 1) := by decide +kernel
theorem dN_shown_92 : decode bN_shown 92 = .ok (.getfield 18, 3) := by decide +kernel
theorem dN_shown_95 : decode bN_shown 95 = .ok (.invokevirtual 71, 3) := by decide +kernel
theorem dN_shown_98 : decode bN_shown 98 = .ok (.ireturn, 1) := by decide +kernel
theorem dN_shown_99 : decode bN_shown 99 = .ok (.aload_n 0, 1) := by decide +kernel
theorem dN_shown_100 : decode bN_shown 100 = .ok (.getfield 36, 3) := by decide +kernel
theorem dN_shown_103 : decode bN_shown 103 = .ok (.ifCond .eq 7, 3) := by decide +kernel
theorem dN_shown_106 : decode bN_shown 106 = .ok (.iconst 1, 1) := by decide +kernel
theorem dN_shown_107 : decode bN_shown 107 = .ok (.goto 4, 3) := by decide +kernel
theorem dN_shown_110 : decode bN_shown 110 = .ok (.iconst 0, 1) := by decide +kernel
theorem dN_shown_111 : decode bN_shown 111 = .ok (.ireturn, 1) := by decide +kernel
theorem dN_shown_112 : decode bN_shown 112 = .ok (.aload_n 0, 1) := by decide +kernel
theorem dN_shown_113 : decode bN_shown 113 = .ok (.iload_n 1, 1) := by decide +kernel
theorem dN_shown_114 : decode bN_shown 114 = .ok (.bipush 7, 2) := by decide +kernel
theorem dN_shown_116 : decode bN_shown 116 = .ok (.iand, 1) := by decide +kernel
theorem dN_shown_117 : decode bN_shown 117 = .ok (.invokevirtual 74, 3) := by decide +kernel
theorem dN_shown_120 : decode bN_shown 120 = .ok (.ireturn, 1) := by decide +kernel
theorem dN_canGo_0 : decode bN_canGo 0 = .ok (.aload_n 0, 1) := by decide +kernel
theorem dN_canGo_1 : decode bN_canGo 1 = .ok (.getfield 43, 3) := by decide +kernel
theorem dN_canGo_4 : decode bN_canGo 4 = .ok (.ifCond .eq 11, 3) := by decide +kernel
theorem dN_canGo_7 : decode bN_canGo 7 = .ok (.aload_n 0, 1) := by decide +kernel
theorem dN_canGo_8 : decode bN_canGo 8 = .ok (.getfield 43, 3) := by decide +kernel
theorem dN_canGo_11 : decode bN_canGo 11 = .ok (.iconst 1, 1) := by decide +kernel
theorem dN_canGo_12 : decode bN_canGo 12 = .ok (.if_icmp .ne 7, 3) := by decide +kernel
theorem dN_canGo_15 : decode bN_canGo 15 = .ok (.iconst 1, 1) := by decide +kernel
theorem dN_canGo_16 : decode bN_canGo 16 = .ok (.goto 4, 3) := by decide +kernel
theorem dN_canGo_19 : decode bN_canGo 19 = .ok (.iconst 0, 1) := by decide +kernel
theorem dN_canGo_20 : decode bN_canGo 20 = .ok (.ireturn, 1) := by decide +kernel
theorem dN_step_0 : decode bN_step 0 = .ok (.aload_n 0, 1) := by decide +kernel
theorem dN_step_1 : decode bN_step 1 = .ok (.getfield 18, 3) := by decide +kernel
theorem dN_step_4 : decode bN_step 4 = .ok (.invokevirtual 78, 3) := by decide +kernel
theorem dN_step_7 : decode bN_step 7 = .ok (.istore_n 1, 1) := by decide +kernel
theorem dN_step_8 : decode bN_step 8 = .ok (.aload_n 0, 1) := by decide +kernel
theorem dN_step_9 : decode bN_step 9 = .ok (.getfield 43, 3) := by decide +kernel
theorem dN_step_12 : decode bN_step 12 = .ok (.iconst 1, 1) := by decide +kernel
theorem dN_step_13 : decode bN_step 13 = .ok (.if_icmp .ne 11, 3) := by decide +kernel
theorem dN_step_16 : decode bN_step 16 = .ok (.aload_n 0, 1) := by decide +kernel
theorem dN_step_17 : decode bN_step 17 = .ok (.iload_n 1, 1) := by decide +kernel
theorem dN_step_18 : decode bN_step 18 = .ok (.invokevirtual 81, 3) := by decide +kernel
theorem dN_step_21 : decode bN_step 21 = .ok (.goto 61, 3) := by decide +kernel
theorem dN_step_24 : decode bN_step 24 = .ok (.aload_n 0, 1) := by decide +kernel
theorem dN_step_25 : decode bN_step 25 = .ok (.getfield 36, 3) := by decide +kernel
theorem dN_step_28 : decode bN_step 28 = .ok (.ifCond .eq 16, 3) := by decide +kernel
theorem dN_step_31 : decode bN_step 31 = .ok (.iload_n 1, 1) := by decide +kernel
theorem dN_step_32 : decode bN_step 32 = .ok (.iconst (-1), 1) := by decide +kernel
theorem dN_step_33 : decode bN_step 33 = .ok (.if_icmp .eq 11, 3) := by decide +kernel
theorem dN_step_36 : decode bN_step 36 = .ok (.aload_n 0, 1) := by decide +kernel
theorem dN_step_37 : decode bN_step 37 = .ok (.iload_n 1, 1) := by decide +kernel
theorem dN_step_38 : decode bN_step 38 = .ok (.invokevirtual 85, 3) := by decide +kernel
theorem dN_step_41 : decode bN_step 41 = .ok (.goto 41, 3) := by decide +kernel
theorem dN_step_44 : decode bN_step 44 = .ok (.aload_n 0, 1) := by decide +kernel
theorem dN_step_45 : decode bN_step 45 = .ok (.getfield 40, 3) := by decide +kernel
theorem dN_step_48 : decode bN_step 48 = .ok (.istore_n 2, 1) := by decide +kernel
theorem dN_step_49 : decode bN_step 49 = .ok (.aload_n 0, 1) := by decide +kernel
theorem dN_step_50 : decode bN_step 50 = .ok (.iconst 0, 1) := by decide +kernel
theorem dN_step_51 : decode bN_step 51 = .ok (.putfield 40, 3) := by decide +kernel
theorem dN_step_54 : decode bN_step 54 = .ok (.aload_n 0, 1) := by decide +kernel
theorem dN_step_55 : decode bN_step 55 = .ok (.aload_n 0, 1) := by decide +kernel
theorem dN_step_56 : decode bN_step 56 = .ok (.invokevirtual 88, 3) := by decide +kernel
theorem dN_step_59 : decode bN_step 59 = .ok (.invokevirtual 91, 3) := by decide +kernel
theorem dN_step_62 : decode bN_step 62 = .ok (.aload_n 0, 1) := by decide +kernel
theorem dN_step_63 : decode bN_step 63 = .ok (.aload_n 0, 1) := by decide +kernel
theorem dN_step_64 : decode bN_step 64 = .ok (.getfield 36, 3) := by decide +kernel
theorem dN_step_67 : decode bN_step 67 = .ok (.ifCond .ne 7, 3) := by decide +kernel
theorem dN_step_70 : decode bN_step 70 = .ok (.iload_n 2, 1) := by decide +kernel
theorem dN_step_71 : decode bN_step 71 = .ok (.ifCond .eq 7, 3) := by decide +kernel
theorem dN_step_74 : decode bN_step 74 = .ok (.iconst 1, 1) := by decide +kernel
theorem dN_step_75 : decode bN_step 75 = .ok (.goto 4, 3) := by decide +kernel
theorem dN_step_78 : decode bN_step 78 = .ok (.iconst 0, 1) := by decide +kernel
theorem dN_step_79 : decode bN_step 79 = .ok (.putfield 36, 3) := by decide +kernel
theorem dN_step_82 : decode bN_step 82 = .ok (.return_, 1) := by decide +kernel
theorem dN_wakeFor_0 : decode bN_wakeFor 0 = .ok (.iload_n 1, 1) := by decide +kernel
theorem dN_wakeFor_1 : decode bN_wakeFor 1 = .ok (.iconst (-1), 1) := by decide +kernel
theorem dN_wakeFor_2 : decode bN_wakeFor 2 = .ok (.if_icmp .eq 22, 3) := by decide +kernel
theorem dN_wakeFor_5 : decode bN_wakeFor 5 = .ok (.aload_n 0, 1) := by decide +kernel
theorem dN_wakeFor_6 : decode bN_wakeFor 6 = .ok (.iconst 0, 1) := by decide +kernel
theorem dN_wakeFor_7 : decode bN_wakeFor 7 = .ok (.putfield 43, 3) := by decide +kernel
theorem dN_wakeFor_10 : decode bN_wakeFor 10 = .ok (.aload_n 0, 1) := by decide +kernel
theorem dN_wakeFor_11 : decode bN_wakeFor 11 = .ok (.aload_n 0, 1) := by decide +kernel
theorem dN_wakeFor_12 : decode bN_wakeFor 12 = .ok (.getfield 29, 3) := by decide +kernel
theorem dN_wakeFor_15 : decode bN_wakeFor 15 = .ok (.iconst 1, 1) := by decide +kernel
theorem dN_wakeFor_16 : decode bN_wakeFor 16 = .ok (.iadd, 1) := by decide +kernel
theorem dN_wakeFor_17 : decode bN_wakeFor 17 = .ok (.sipush 255, 3) := by decide +kernel
theorem dN_wakeFor_20 : decode bN_wakeFor 20 = .ok (.iand, 1) := by decide +kernel
theorem dN_wakeFor_21 : decode bN_wakeFor 21 = .ok (.putfield 29, 3) := by decide +kernel
theorem dN_wakeFor_24 : decode bN_wakeFor 24 = .ok (.return_, 1) := by decide +kernel
theorem dN_interruptFor_0 : decode bN_interruptFor 0 = .ok (.aload_n 0, 1) := by decide +kernel
theorem dN_interruptFor_1 : decode bN_interruptFor 1 = .ok (.getfield 18, 3) := by decide +kernel
theorem dN_interruptFor_4 : decode bN_interruptFor 4 = .ok (.dup, 1) := by decide +kernel
theorem dN_interruptFor_5 : decode bN_interruptFor 5 = .ok (.getfield 94, 3) := by decide +kernel
theorem dN_interruptFor_8 : decode bN_interruptFor 8 = .ok (.iconst 1, 1) := by decide +kernel
theorem dN_interruptFor_9 : decode bN_interruptFor 9 = .ok (.iload_n 1, 1) := by decide +kernel
theorem dN_interruptFor_10 : decode bN_interruptFor 10 = .ok (.ishl, 1) := by decide +kernel
theorem dN_interruptFor_11 : decode bN_interruptFor 11 = .ok (.iconst (-1), 1) := by decide +kernel
theorem dN_interruptFor_12 : decode bN_interruptFor 12 = .ok (.ixor, 1) := by decide +kernel
theorem dN_interruptFor_13 : decode bN_interruptFor 13 = .ok (.iand, 1) := by decide +kernel
theorem dN_interruptFor_14 : decode bN_interruptFor 14 = .ok (.putfield 94, 3) := by decide +kernel
theorem dN_interruptFor_17 : decode bN_interruptFor 17 = .ok (.aload_n 0, 1) := by decide +kernel
theorem dN_interruptFor_18 : decode bN_interruptFor 18 = .ok (.iconst 0, 1) := by decide +kernel
theorem dN_interruptFor_19 : decode bN_interruptFor 19 = .ok (.putfield 36, 3) := by decide +kernel
theorem dN_interruptFor_22 : decode bN_interruptFor 22 = .ok (.aload_n 0, 1) := by decide +kernel
theorem dN_interruptFor_23 : decode bN_interruptFor 23 = .ok (.aload_n 0, 1) := by decide +kernel
theorem dN_interruptFor_24 : decode bN_interruptFor 24 = .ok (.getfield 29, 3) := by decide +kernel
theorem dN_interruptFor_27 : decode bN_interruptFor 27 = .ok (.invokevirtual 97, 3) := by decide +kernel
theorem dN_interruptFor_30 : decode bN_interruptFor 30 = .ok (.aload_n 0, 1) := by decide +kernel
theorem dN_interruptFor_31 : decode bN_interruptFor 31 = .ok (.bipush 16, 2) := by decide +kernel
theorem dN_interruptFor_33 : decode bN_interruptFor 33 = .ok (.iconst 4, 1) := by decide +kernel
theorem dN_interruptFor_34 : decode bN_interruptFor 34 = .ok (.iload_n 1, 1) := by decide +kernel
theorem dN_interruptFor_35 : decode bN_interruptFor 35 = .ok (.imul, 1) := by decide +kernel
theorem dN_interruptFor_36 : decode bN_interruptFor 36 = .ok (.iadd, 1) := by decide +kernel
theorem dN_interruptFor_37 : decode bN_interruptFor 37 = .ok (.putfield 29, 3) := by decide +kernel
theorem dN_interruptFor_40 : decode bN_interruptFor 40 = .ok (.return_, 1) := by decide +kernel
theorem dN_obey_0 : decode bN_obey 0 = .ok (.iload_n 1, 1) := by decide +kernel
theorem dN_obey_1 : decode bN_obey 1 = .ok (.iconst 3, 1) := by decide +kernel
theorem dN_obey_2 : decode bN_obey 2 = .ok (.ishr, 1) := by decide +kernel
theorem dN_obey_3 : decode bN_obey 3 = .ok (.istore_n 2, 1) := by decide +kernel
theorem dN_obey_4 : decode bN_obey 4 = .ok (.iload_n 1, 1) := by decide +kernel
theorem dN_obey_5 : decode bN_obey 5 = .ok (.bipush 7, 2) := by decide +kernel
theorem dN_obey_7 : decode bN_obey 7 = .ok (.iand, 1) := by decide +kernel
theorem dN_obey_8 : decode bN_obey 8 = .ok (.istore_n 3, 1) := by decide +kernel
theorem dN_obey_9 : decode bN_obey 9 = .ok (.iload_n 2, 1) := by decide +kernel
theorem dN_obey_10 : decode bN_obey 10 = .ok (.iconst 2, 1) := by decide +kernel
theorem dN_obey_11 : decode bN_obey 11 = .ok (.if_icmp .ge 11, 3) := by decide +kernel
theorem dN_obey_14 : decode bN_obey 14 = .ok (.aload_n 0, 1) := by decide +kernel
theorem dN_obey_15 : decode bN_obey 15 = .ok (.iload_n 1, 1) := by decide +kernel
theorem dN_obey_16 : decode bN_obey 16 = .ok (.invokevirtual 100, 3) := by decide +kernel
theorem dN_obey_19 : decode bN_obey 19 = .ok (.goto 121, 3) := by decide +kernel
theorem dN_obey_22 : decode bN_obey 22 = .ok (.iload_n 2, 1) := by decide +kernel
theorem dN_obey_23 : decode bN_obey 23 = .ok (.bipush 8, 2) := by decide +kernel
theorem dN_obey_25 : decode bN_obey 25 = .ok (.if_icmp .ge 12, 3) := by decide +kernel
theorem dN_obey_28 : decode bN_obey 28 = .ok (.aload_n 0, 1) := by decide +kernel
theorem dN_obey_29 : decode bN_obey 29 = .ok (.iload_n 2, 1) := by decide +kernel
theorem dN_obey_30 : decode bN_obey 30 = .ok (.iload_n 3, 1) := by decide +kernel
theorem dN_obey_31 : decode bN_obey 31 = .ok (.invokevirtual 103, 3) := by decide +kernel
theorem dN_obey_34 : decode bN_obey 34 = .ok (.goto 106, 3) := by decide +kernel
theorem dN_obey_37 : decode bN_obey 37 = .ok (.iload_n 2, 1) := by decide +kernel
theorem dN_obey_38 : decode bN_obey 38 = .ok (.bipush 16, 2) := by decide +kernel
theorem dN_obey_40 : decode bN_obey 40 = .ok (.if_icmp .ge 19, 3) := by decide +kernel
theorem dN_obey_43 : decode bN_obey 43 = .ok (.aload_n 0, 1) := by decide +kernel
theorem dN_obey_44 : decode bN_obey 44 = .ok (.iload_n 2, 1) := by decide +kernel
theorem dN_obey_45 : decode bN_obey 45 = .ok (.bipush 8, 2) := by decide +kernel
theorem dN_obey_47 : decode bN_obey 47 = .ok (.isub, 1) := by decide +kernel
theorem dN_obey_48 : decode bN_obey 48 = .ok (.aload_n 0, 1) := by decide +kernel
theorem dN_obey_49 : decode bN_obey 49 = .ok (.iload_n 3, 1) := by decide +kernel
theorem dN_obey_50 : decode bN_obey 50 = .ok (.invokevirtual 74, 3) := by decide +kernel
theorem dN_obey_53 : decode bN_obey 53 = .ok (.invokevirtual 107, 3) := by decide +kernel
theorem dN_obey_56 : decode bN_obey 56 = .ok (.goto 84, 3) := by decide +kernel
theorem dN_obey_59 : decode bN_obey 59 = .ok (.iload_n 2, 1) := by decide +kernel
theorem dN_obey_60 : decode bN_obey 60 = .ok (.bipush 24, 2) := by decide +kernel
theorem dN_obey_62 : decode bN_obey 62 = .ok (.if_icmp .ge 19, 3) := by decide +kernel
theorem dN_obey_65 : decode bN_obey 65 = .ok (.aload_n 0, 1) := by decide +kernel
theorem dN_obey_66 : decode bN_obey 66 = .ok (.iload_n 2, 1) := by decide +kernel
theorem dN_obey_67 : decode bN_obey 67 = .ok (.bipush 16, 2) := by decide +kernel
theorem dN_obey_69 : decode bN_obey 69 = .ok (.isub, 1) := by decide +kernel
theorem dN_obey_70 : decode bN_obey 70 = .ok (.aload_n 0, 1) := by decide +kernel
theorem dN_obey_71 : decode bN_obey 71 = .ok (.iload_n 3, 1) := by decide +kernel
theorem dN_obey_72 : decode bN_obey 72 = .ok (.invokevirtual 74, 3) := by decide +kernel
theorem dN_obey_75 : decode bN_obey 75 = .ok (.invokevirtual 110, 3) := by decide +kernel
theorem dN_obey_78 : decode bN_obey 78 = .ok (.goto 62, 3) := by decide +kernel
theorem dN_obey_81 : decode bN_obey 81 = .ok (.iload_n 2, 1) := by decide +kernel
theorem dN_obey_82 : decode bN_obey 82 = .ok (.bipush 28, 2) := by decide +kernel
theorem dN_obey_84 : decode bN_obey 84 = .ok (.if_icmp .ge 15, 3) := by decide +kernel
theorem dN_obey_87 : decode bN_obey 87 = .ok (.aload_n 0, 1) := by decide +kernel
theorem dN_obey_88 : decode bN_obey 88 = .ok (.iload_n 2, 1) := by decide +kernel
theorem dN_obey_89 : decode bN_obey 89 = .ok (.bipush 24, 2) := by decide +kernel
theorem dN_obey_91 : decode bN_obey 91 = .ok (.isub, 1) := by decide +kernel
theorem dN_obey_92 : decode bN_obey 92 = .ok (.iload_n 3, 1) := by decide +kernel
theorem dN_obey_93 : decode bN_obey 93 = .ok (.invokevirtual 113, 3) := by decide +kernel
theorem dN_obey_96 : decode bN_obey 96 = .ok (.goto 44, 3) := by decide +kernel
theorem dN_obey_99 : decode bN_obey 99 = .ok (.iload_n 2, 1) := by decide +kernel
theorem dN_obey_100 : decode bN_obey 100 = .ok (.bipush 28, 2) := by decide +kernel
theorem dN_obey_102 : decode bN_obey 102 = .ok (.if_icmp .ne 15, 3) := by decide +kernel
theorem dN_obey_105 : decode bN_obey 105 = .ok (.aload_n 0, 1) := by decide +kernel
theorem dN_obey_106 : decode bN_obey 106 = .ok (.iload_n 3, 1) := by decide +kernel
theorem dN_obey_107 : decode bN_obey 107 = .ok (.aload_n 0, 1) := by decide +kernel
theorem dN_obey_108 : decode bN_obey 108 = .ok (.invokevirtual 88, 3) := by decide +kernel
theorem dN_obey_111 : decode bN_obey 111 = .ok (.invokevirtual 110, 3) := by decide +kernel
theorem dN_obey_114 : decode bN_obey 114 = .ok (.goto 26, 3) := by decide +kernel
theorem dN_obey_117 : decode bN_obey 117 = .ok (.iload_n 1, 1) := by decide +kernel
theorem dN_obey_118 : decode bN_obey 118 = .ok (.sipush 240, 3) := by decide +kernel
theorem dN_obey_121 : decode bN_obey 121 = .ok (.if_icmp .ne 14, 3) := by decide +kernel
theorem dN_obey_124 : decode bN_obey 124 = .ok (.aload_n 0, 1) := by decide +kernel
theorem dN_obey_125 : decode bN_obey 125 = .ok (.aload_n 0, 1) := by decide +kernel
theorem dN_obey_126 : decode bN_obey 126 = .ok (.invokevirtual 88, 3) := by decide +kernel
theorem dN_obey_129 : decode bN_obey 129 = .ok (.invokevirtual 116, 3) := by decide +kernel
theorem dN_obey_132 : decode bN_obey 132 = .ok (.goto 8, 3) := by decide +kernel
theorem dN_obey_135 : decode bN_obey 135 = .ok (.aload_n 0, 1) := by decide +kernel
theorem dN_obey_136 : decode bN_obey 136 = .ok (.iconst 3, 1) := by decide +kernel
theorem dN_obey_137 : decode bN_obey 137 = .ok (.invokevirtual 119, 3) := by decide +kernel
theorem dN_obey_140 : decode bN_obey 140 = .ok (.return_, 1) := by decide +kernel
theorem dN_obeySingle_0 : decode bN_obeySingle 0 = .ok (.iload_n 1, 1) := by decide +kernel
theorem dN_obeySingle_1 : decode bN_obeySingle 1 = .ok (.tableswitch 215 0 11 #[63, 66, 74, 82, 90, 98, 114, 121, 151, 165, 190, 201], 63) := by decide +kernel
theorem dN_obeySingle_64 : decode bN_obeySingle 64 = .ok (.goto 157, 3) := by decide +kernel
theorem dN_obeySingle_67 : decode bN_obeySingle 67 = .ok (.aload_n 0, 1) := by decide +kernel
theorem dN_obeySingle_68 : decode bN_obeySingle 68 = .ok (.iconst 1, 1) := by decide +kernel
theorem dN_obeySingle_69 : decode bN_obeySingle 69 = .ok (.invokevirtual 119, 3) := by decide +kernel
theorem dN_obeySingle_72 : decode bN_obeySingle 72 = .ok (.goto 149, 3) := by decide +kernel
theorem dN_obeySingle_75 : decode bN_obeySingle 75 = .ok (.aload_n 0, 1) := by decide +kernel
theorem dN_obeySingle_76 : decode bN_obeySingle 76 = .ok (.iconst 2, 1) := by decide +kernel
theorem dN_obeySingle_77 : decode bN_obeySingle 77 = .ok (.invokevirtual 119, 3) := by decide +kernel
theorem dN_obeySingle_80 : decode bN_obeySingle 80 = .ok (.goto 141, 3) := by decide +kernel
theorem dN_obeySingle_83 : decode bN_obeySingle 83 = .ok (.aload_n 0, 1) := by decide +kernel
theorem dN_obeySingle_84 : decode bN_obeySingle 84 = .ok (.iconst 0, 1) := by decide +kernel
theorem dN_obeySingle_85 : decode bN_obeySingle 85 = .ok (.putfield 36, 3) := by decide +kernel
theorem dN_obeySingle_88 : decode bN_obeySingle 88 = .ok (.goto 133, 3) := by decide +kernel
theorem dN_obeySingle_91 : decode bN_obeySingle 91 = .ok (.aload_n 0, 1) := by decide +kernel
theorem dN_obeySingle_92 : decode bN_obeySingle 92 = .ok (.iconst 1, 1) := by decide +kernel
theorem dN_obeySingle_93 : decode bN_obeySingle 93 = .ok (.putfield 40, 3) := by decide +kernel
theorem dN_obeySingle_96 : decode bN_obeySingle 96 = .ok (.goto 125, 3) := by decide +kernel
theorem dN_obeySingle_99 : decode bN_obeySingle 99 = .ok (.aload_n 0, 1) := by decide +kernel
theorem dN_obeySingle_100 : decode bN_obeySingle 100 = .ok (.aload_n 0, 1) := by decide +kernel
theorem dN_obeySingle_101 : decode bN_obeySingle 101 = .ok (.invokevirtual 122, 3) := by decide +kernel
theorem dN_obeySingle_104 : decode bN_obeySingle 104 = .ok (.putfield 29, 3) := by decide +kernel
theorem dN_obeySingle_107 : decode bN_obeySingle 107 = .ok (.aload_n 0, 1) := by decide +kernel
theorem dN_obeySingle_108 : decode bN_obeySingle 108 = .ok (.iconst 1, 1) := by decide +kernel
theorem dN_obeySingle_109 : decode bN_obeySingle 109 = .ok (.putfield 36, 3) := by decide +kernel
theorem dN_obeySingle_112 : decode bN_obeySingle 112 = .ok (.goto 109, 3) := by decide +kernel
theorem dN_obeySingle_115 : decode bN_obeySingle 115 = .ok (.aload_n 0, 1) := by decide +kernel
theorem dN_obeySingle_116 : decode bN_obeySingle 116 = .ok (.invokevirtual 125, 3) := by decide +kernel
theorem dN_obeySingle_119 : decode bN_obeySingle 119 = .ok (.goto 102, 3) := by decide +kernel
theorem dN_obeySingle_122 : decode bN_obeySingle 122 = .ok (.aload_n 0, 1) := by decide +kernel
theorem dN_obeySingle_123 : decode bN_obeySingle 123 = .ok (.getfield 9, 3) := by decide +kernel
theorem dN_obeySingle_126 : decode bN_obeySingle 126 = .ok (.bipush 7, 2) := by decide +kernel
theorem dN_obeySingle_128 : decode bN_obeySingle 128 = .ok (.dup2, 1) := by decide +kernel
theorem dN_obeySingle_129 : decode bN_obeySingle 129 = .ok (.iaload, 1) := by decide +kernel
theorem dN_obeySingle_130 : decode bN_obeySingle 130 = .ok (.sipush 255, 3) := by decide +kernel
theorem dN_obeySingle_133 : decode bN_obeySingle 133 = .ok (.ixor, 1) := by decide +kernel
theorem dN_obeySingle_134 : decode bN_obeySingle 134 = .ok (.iastore, 1) := by decide +kernel
theorem dN_obeySingle_135 : decode bN_obeySingle 135 = .ok (.aload_n 0, 1) := by decide +kernel
theorem dN_obeySingle_136 : decode bN_obeySingle 136 = .ok (.aload_n 0, 1) := by decide +kernel
theorem dN_obeySingle_137 : decode bN_obeySingle 137 = .ok (.getfield 58, 3) := by decide +kernel
theorem dN_obeySingle_140 : decode bN_obeySingle 140 = .ok (.iconst 1, 1) := by decide +kernel
theorem dN_obeySingle_141 : decode bN_obeySingle 141 = .ok (.iconst 1, 1) := by decide +kernel
theorem dN_obeySingle_142 : decode bN_obeySingle 142 = .ok (.aload_n 0, 1) := by decide +kernel
theorem dN_obeySingle_143 : decode bN_obeySingle 143 = .ok (.getfield 128, 3) := by decide +kernel
theorem dN_obeySingle_146 : decode bN_obeySingle 146 = .ok (.invokevirtual 32, 3) := by decide +kernel
theorem dN_obeySingle_149 : decode bN_obeySingle 149 = .ok (.goto 72, 3) := by decide +kernel
theorem dN_obeySingle_152 : decode bN_obeySingle 152 = .ok (.aload_n 0, 1) := by decide +kernel
theorem dN_obeySingle_153 : decode bN_obeySingle 153 = .ok (.aload_n 0, 1) := by decide +kernel
theorem dN_obeySingle_154 : decode bN_obeySingle 154 = .ok (.getfield 58, 3) := by decide +kernel
theorem dN_obeySingle_157 : decode bN_obeySingle 157 = .ok (.iconst 0, 1) := by decide +kernel
theorem dN_obeySingle_158 : decode bN_obeySingle 158 = .ok (.iconst 0, 1) := by decide +kernel
theorem dN_obeySingle_159 : decode bN_obeySingle 159 = .ok (.iconst 1, 1) := by decide +kernel
theorem dN_obeySingle_160 : decode bN_obeySingle 160 = .ok (.invokevirtual 32, 3) := by decide +kernel
theorem dN_obeySingle_163 : decode bN_obeySingle 163 = .ok (.goto 58, 3) := by decide +kernel
theorem dN_obeySingle_166 : decode bN_obeySingle 166 = .ok (.aload_n 0, 1) := by decide +kernel
theorem dN_obeySingle_167 : decode bN_obeySingle 167 = .ok (.aload_n 0, 1) := by decide +kernel
theorem dN_obeySingle_168 : decode bN_obeySingle 168 = .ok (.getfield 58, 3) := by decide +kernel
theorem dN_obeySingle_171 : decode bN_obeySingle 171 = .ok (.iconst 0, 1) := by decide +kernel
theorem dN_obeySingle_172 : decode bN_obeySingle 172 = .ok (.iconst 0, 1) := by decide +kernel
theorem dN_obeySingle_173 : decode bN_obeySingle 173 = .ok (.aload_n 0, 1) := by decide +kernel
theorem dN_obeySingle_174 : decode bN_obeySingle 174 = .ok (.getfield 128, 3) := by decide +kernel
theorem dN_obeySingle_177 : decode bN_obeySingle 177 = .ok (.ifCond .ne 7, 3) := by decide +kernel
theorem dN_obeySingle_180 : decode bN_obeySingle 180 = .ok (.iconst 1, 1) := by decide +kernel
theorem dN_obeySingle_181 : decode bN_obeySingle 181 = .ok (.goto 4, 3) := by decide +kernel
theorem dN_obeySingle_184 : decode bN_obeySingle 184 = .ok (.iconst 0, 1) := by decide +kernel
theorem dN_obeySingle_185 : decode bN_obeySingle 185 = .ok (.invokevirtual 32, 3) := by decide +kernel
theorem dN_obeySingle_188 : decode bN_obeySingle 188 = .ok (.goto 33, 3) := by decide +kernel
theorem dN_obeySingle_191 : decode bN_obeySingle 191 = .ok (.aload_n 0, 1) := by decide +kernel
theorem dN_obeySingle_192 : decode bN_obeySingle 192 = .ok (.aload_n 0, 1) := by decide +kernel
theorem dN_obeySingle_193 : decode bN_obeySingle 193 = .ok (.invokevirtual 122, 3) := by decide +kernel
theorem dN_obeySingle_196 : decode bN_obeySingle 196 = .ok (.putfield 29, 3) := by decide +kernel
theorem dN_obeySingle_199 : decode bN_obeySingle 199 = .ok (.goto 22, 3) := by decide +kernel
theorem dN_obeySingle_202 : decode bN_obeySingle 202 = .ok (.aload_n 0, 1) := by decide +kernel
theorem dN_obeySingle_203 : decode bN_obeySingle 203 = .ok (.aload_n 0, 1) := by decide +kernel
theorem dN_obeySingle_204 : decode bN_obeySingle 204 = .ok (.getfield 9, 3) := by decide +kernel
theorem dN_obeySingle_207 : decode bN_obeySingle 207 = .ok (.bipush 7, 2) := by decide +kernel
theorem dN_obeySingle_209 : decode bN_obeySingle 209 = .ok (.iaload, 1) := by decide +kernel
theorem dN_obeySingle_210 : decode bN_obeySingle 210 = .ok (.invokevirtual 131, 3) := by decide +kernel
theorem dN_obeySingle_213 : decode bN_obeySingle 213 = .ok (.goto 8, 3) := by decide +kernel
theorem dN_obeySingle_216 : decode bN_obeySingle 216 = .ok (.aload_n 0, 1) := by decide +kernel
theorem dN_obeySingle_217 : decode bN_obeySingle 217 = .ok (.iconst 3, 1) := by decide +kernel
theorem dN_obeySingle_218 : decode bN_obeySingle 218 = .ok (.invokevirtual 119, 3) := by decide +kernel
theorem dN_obeySingle_221 : decode bN_obeySingle 221 = .ok (.return_, 1) := by decide +kernel
theorem dN_obeyOnOne_0 : decode bN_obeyOnOne 0 = .ok (.iload_n 1, 1) := by decide +kernel
theorem dN_obeyOnOne_1 : decode bN_obeyOnOne 1 = .ok (.tableswitch 105 2 6 #[35, 52, 69, 81, 93], 35) := by decide +kernel
theorem dN_obeyOnOne_36 : decode bN_obeyOnOne 36 = .ok (.aload_n 0, 1) := by decide +kernel
theorem dN_obeyOnOne_37 : decode bN_obeyOnOne 37 = .ok (.iload_n 2, 1) := by decide +kernel
theorem dN_obeyOnOne_38 : decode bN_obeyOnOne 38 = .ok (.aload_n 0, 1) := by decide +kernel
theorem dN_obeyOnOne_39 : decode bN_obeyOnOne 39 = .ok (.aload_n 0, 1) := by decide +kernel
theorem dN_obeyOnOne_40 : decode bN_obeyOnOne 40 = .ok (.iload_n 2, 1) := by decide +kernel
theorem dN_obeyOnOne_41 : decode bN_obeyOnOne 41 = .ok (.invokevirtual 74, 3) := by decide +kernel
theorem dN_obeyOnOne_44 : decode bN_obeyOnOne 44 = .ok (.invokevirtual 134, 3) := by decide +kernel
theorem dN_obeyOnOne_47 : decode bN_obeyOnOne 47 = .ok (.invokevirtual 107, 3) := by decide +kernel
theorem dN_obeyOnOne_50 : decode bN_obeyOnOne 50 = .ok (.goto 70, 3) := by decide +kernel
theorem dN_obeyOnOne_53 : decode bN_obeyOnOne 53 = .ok (.aload_n 0, 1) := by decide +kernel
theorem dN_obeyOnOne_54 : decode bN_obeyOnOne 54 = .ok (.iload_n 2, 1) := by decide +kernel
theorem dN_obeyOnOne_55 : decode bN_obeyOnOne 55 = .ok (.aload_n 0, 1) := by decide +kernel
theorem dN_obeyOnOne_56 : decode bN_obeyOnOne 56 = .ok (.aload_n 0, 1) := by decide +kernel
theorem dN_obeyOnOne_57 : decode bN_obeyOnOne 57 = .ok (.iload_n 2, 1) := by decide +kernel
theorem dN_obeyOnOne_58 : decode bN_obeyOnOne 58 = .ok (.invokevirtual 74, 3) := by decide +kernel
theorem dN_obeyOnOne_61 : decode bN_obeyOnOne 61 = .ok (.invokevirtual 137, 3) := by decide +kernel
theorem dN_obeyOnOne_64 : decode bN_obeyOnOne 64 = .ok (.invokevirtual 107, 3) := by decide +kernel
theorem dN_obeyOnOne_67 : decode bN_obeyOnOne 67 = .ok (.goto 53, 3) := by decide +kernel
theorem dN_obeyOnOne_70 : decode bN_obeyOnOne 70 = .ok (.aload_n 0, 1) := by decide +kernel
theorem dN_obeyOnOne_71 : decode bN_obeyOnOne 71 = .ok (.aload_n 0, 1) := by decide +kernel
theorem dN_obeyOnOne_72 : decode bN_obeyOnOne 72 = .ok (.iload_n 2, 1) := by decide +kernel
theorem dN_obeyOnOne_73 : decode bN_obeyOnOne 73 = .ok (.invokevirtual 74, 3) := by decide +kernel
theorem dN_obeyOnOne_76 : decode bN_obeyOnOne 76 = .ok (.invokevirtual 97, 3) := by decide +kernel
theorem dN_obeyOnOne_79 : decode bN_obeyOnOne 79 = .ok (.goto 41, 3) := by decide +kernel
theorem dN_obeyOnOne_82 : decode bN_obeyOnOne 82 = .ok (.aload_n 0, 1) := by decide +kernel
theorem dN_obeyOnOne_83 : decode bN_obeyOnOne 83 = .ok (.iload_n 2, 1) := by decide +kernel
theorem dN_obeyOnOne_84 : decode bN_obeyOnOne 84 = .ok (.aload_n 0, 1) := by decide +kernel
theorem dN_obeyOnOne_85 : decode bN_obeyOnOne 85 = .ok (.invokevirtual 122, 3) := by decide +kernel
theorem dN_obeyOnOne_88 : decode bN_obeyOnOne 88 = .ok (.invokevirtual 107, 3) := by decide +kernel
theorem dN_obeyOnOne_91 : decode bN_obeyOnOne 91 = .ok (.goto 29, 3) := by decide +kernel
theorem dN_obeyOnOne_94 : decode bN_obeyOnOne 94 = .ok (.aload_n 0, 1) := by decide +kernel
theorem dN_obeyOnOne_95 : decode bN_obeyOnOne 95 = .ok (.iload_n 2, 1) := by decide +kernel
theorem dN_obeyOnOne_96 : decode bN_obeyOnOne 96 = .ok (.aload_n 0, 1) := by decide +kernel
theorem dN_obeyOnOne_97 : decode bN_obeyOnOne 97 = .ok (.invokevirtual 88, 3) := by decide +kernel
theorem dN_obeyOnOne_100 : decode bN_obeyOnOne 100 = .ok (.invokevirtual 107, 3) := by decide +kernel
theorem dN_obeyOnOne_103 : decode bN_obeyOnOne 103 = .ok (.goto 17, 3) := by decide +kernel
theorem dN_obeyOnOne_106 : decode bN_obeyOnOne 106 = .ok (.aload_n 0, 1) := by decide +kernel
theorem dN_obeyOnOne_107 : decode bN_obeyOnOne 107 = .ok (.iload_n 2, 1) := by decide +kernel
theorem dN_obeyOnOne_108 : decode bN_obeyOnOne 108 = .ok (.aload_n 0, 1) := by decide +kernel
theorem dN_obeyOnOne_109 : decode bN_obeyOnOne 109 = .ok (.aload_n 0, 1) := by decide +kernel
theorem dN_obeyOnOne_110 : decode bN_obeyOnOne 110 = .ok (.iload_n 2, 1) := by decide +kernel
theorem dN_obeyOnOne_111 : decode bN_obeyOnOne 111 = .ok (.invokevirtual 74, 3) := by decide +kernel
theorem dN_obeyOnOne_114 : decode bN_obeyOnOne 114 = .ok (.invokevirtual 140, 3) := by decide +kernel
theorem dN_obeyOnOne_117 : decode bN_obeyOnOne 117 = .ok (.invokevirtual 107, 3) := by decide +kernel
theorem dN_obeyOnOne_120 : decode bN_obeyOnOne 120 = .ok (.return_, 1) := by decide +kernel
theorem dN_obeyJump_0 : decode bN_obeyJump 0 = .ok (.iload_n 2, 1) := by decide +kernel
theorem dN_obeyJump_1 : decode bN_obeyJump 1 = .ok (.iconst 4, 1) := by decide +kernel
theorem dN_obeyJump_2 : decode bN_obeyJump 2 = .ok (.if_icmp .le 9, 3) := by decide +kernel
theorem dN_obeyJump_5 : decode bN_obeyJump 5 = .ok (.aload_n 0, 1) := by decide +kernel
theorem dN_obeyJump_6 : decode bN_obeyJump 6 = .ok (.iconst 3, 1) := by decide +kernel
theorem dN_obeyJump_7 : decode bN_obeyJump 7 = .ok (.invokevirtual 119, 3) := by decide +kernel
theorem dN_obeyJump_10 : decode bN_obeyJump 10 = .ok (.return_, 1) := by decide +kernel
theorem dN_obeyJump_11 : decode bN_obeyJump 11 = .ok (.iload_n 1, 1) := by decide +kernel
theorem dN_obeyJump_12 : decode bN_obeyJump 12 = .ok (.iconst 2, 1) := by decide +kernel
theorem dN_obeyJump_13 : decode bN_obeyJump 13 = .ok (.if_icmp .ne 7, 3) := by decide +kernel
theorem dN_obeyJump_16 : decode bN_obeyJump 16 = .ok (.iconst 1, 1) := by decide +kernel
theorem dN_obeyJump_17 : decode bN_obeyJump 17 = .ok (.goto 4, 3) := by decide +kernel
theorem dN_obeyJump_20 : decode bN_obeyJump 20 = .ok (.iconst 0, 1) := by decide +kernel
theorem dN_obeyJump_21 : decode bN_obeyJump 21 = .ok (.istore_n 3, 1) := by decide +kernel
theorem dN_obeyJump_22 : decode bN_obeyJump 22 = .ok (.iload_n 3, 1) := by decide +kernel
theorem dN_obeyJump_23 : decode bN_obeyJump 23 = .ok (.ifCond .eq 7, 3) := by decide +kernel
theorem dN_obeyJump_26 : decode bN_obeyJump 26 = .ok (.iconst 0, 1) := by decide +kernel
theorem dN_obeyJump_27 : decode bN_obeyJump 27 = .ok (.goto 7, 3) := by decide +kernel
theorem dN_obeyJump_30 : decode bN_obeyJump 30 = .ok (.aload_n 0, 1) := by decide +kernel
theorem dN_obeyJump_31 : decode bN_obeyJump 31 = .ok (.invokevirtual 88, 3) := by decide +kernel
theorem dN_obeyJump_34 : decode bN_obeyJump 34 = .ok (.istore 4, 2) := by decide +kernel
theorem dN_obeyJump_36 : decode bN_obeyJump 36 = .ok (.aload_n 0, 1) := by decide +kernel
theorem dN_obeyJump_37 : decode bN_obeyJump 37 = .ok (.iload_n 2, 1) := by decide +kernel
theorem dN_obeyJump_38 : decode bN_obeyJump 38 = .ok (.invokevirtual 143, 3) := by decide +kernel
theorem dN_obeyJump_41 : decode bN_obeyJump 41 = .ok (.ifCond .ne 4, 3) := by decide +kernel
theorem dN_obeyJump_44 : decode bN_obeyJump 44 = .ok (.return_, 1) := by decide +kernel
theorem dN_obeyJump_45 : decode bN_obeyJump 45 = .ok (.iload_n 1, 1) := by decide +kernel
theorem dN_obeyJump_46 : decode bN_obeyJump 46 = .ok (.iconst 1, 1) := by decide +kernel
theorem dN_obeyJump_47 : decode bN_obeyJump 47 = .ok (.if_icmp .ne 11, 3) := by decide +kernel
theorem dN_obeyJump_50 : decode bN_obeyJump 50 = .ok (.aload_n 0, 1) := by decide +kernel
theorem dN_obeyJump_51 : decode bN_obeyJump 51 = .ok (.aload_n 0, 1) := by decide +kernel
theorem dN_obeyJump_52 : decode bN_obeyJump 52 = .ok (.getfield 29, 3) := by decide +kernel
theorem dN_obeyJump_55 : decode bN_obeyJump 55 = .ok (.invokevirtual 97, 3) := by decide +kernel
theorem dN_obeyJump_58 : decode bN_obeyJump 58 = .ok (.iload_n 3, 1) := by decide +kernel
theorem dN_obeyJump_59 : decode bN_obeyJump 59 = .ok (.ifCond .eq 14, 3) := by decide +kernel
theorem dN_obeyJump_62 : decode bN_obeyJump 62 = .ok (.aload_n 0, 1) := by decide +kernel
theorem dN_obeyJump_63 : decode bN_obeyJump 63 = .ok (.aload_n 0, 1) := by decide +kernel
theorem dN_obeyJump_64 : decode bN_obeyJump 64 = .ok (.invokevirtual 122, 3) := by decide +kernel
theorem dN_obeyJump_67 : decode bN_obeyJump 67 = .ok (.putfield 29, 3) := by decide +kernel
theorem dN_obeyJump_70 : decode bN_obeyJump 70 = .ok (.goto 28, 3) := by decide +kernel
theorem dN_obeyJump_73 : decode bN_obeyJump 73 = .ok (.aload_n 0, 1) := by decide +kernel
theorem dN_obeyJump_74 : decode bN_obeyJump 74 = .ok (.iload_n 1, 1) := by decide +kernel
theorem dN_obeyJump_75 : decode bN_obeyJump 75 = .ok (.iconst 3, 1) := by decide +kernel
theorem dN_obeyJump_76 : decode bN_obeyJump 76 = .ok (.if_icmp .ne 17, 3) := by decide +kernel
theorem dN_obeyJump_79 : decode bN_obeyJump 79 = .ok (.aload_n 0, 1) := by decide +kernel
theorem dN_obeyJump_80 : decode bN_obeyJump 80 = .ok (.getfield 29, 3) := by decide +kernel
theorem dN_obeyJump_83 : decode bN_obeyJump 83 = .ok (.iload 4, 2) := by decide +kernel
theorem dN_obeyJump_85 : decode bN_obeyJump 85 = .ok (.iadd, 1) := by decide +kernel
theorem dN_obeyJump_86 : decode bN_obeyJump 86 = .ok (.sipush 255, 3) := by decide +kernel
theorem dN_obeyJump_89 : decode bN_obeyJump 89 = .ok (.iand, 1) := by decide +kernel
theorem dN_obeyJump_90 : decode bN_obeyJump 90 = .ok (.goto 5, 3) := by decide +kernel
theorem dN_obeyJump_93 : decode bN_obeyJump 93 = .ok (.iload 4, 2) := by decide +kernel
theorem dN_obeyJump_95 : decode bN_obeyJump 95 = .ok (.putfield 29, 3) := by decide +kernel
theorem dN_obeyJump_98 : decode bN_obeyJump 98 = .ok (.return_, 1) := by decide +kernel
theorem dN_holds_0 : decode bN_holds 0 = .ok (.iload_n 1, 1) := by decide +kernel
theorem dN_holds_1 : decode bN_holds 1 = .ok (.tableswitch 64 0 3 #[31, 33, 46, 51], 31) := by decide +kernel
theorem dN_holds_32 : decode bN_holds 32 = .ok (.iconst 1, 1) := by decide +kernel
theorem dN_holds_33 : decode bN_holds 33 = .ok (.ireturn, 1) := by decide +kernel
theorem dN_holds_34 : decode bN_holds 34 = .ok (.aload_n 0, 1) := by decide +kernel
theorem dN_holds_35 : decode bN_holds 35 = .ok (.getfield 58, 3) := by decide +kernel
theorem dN_holds_38 : decode bN_holds 38 = .ok (.ifCond .ne 7, 3) := by decide +kernel
theorem dN_holds_41 : decode bN_holds 41 = .ok (.iconst 1, 1) := by decide +kernel
theorem dN_holds_42 : decode bN_holds 42 = .ok (.goto 4, 3) := by decide +kernel
theorem dN_holds_45 : decode bN_holds 45 = .ok (.iconst 0, 1) := by decide +kernel
theorem dN_holds_46 : decode bN_holds 46 = .ok (.ireturn, 1) := by decide +kernel
theorem dN_holds_47 : decode bN_holds 47 = .ok (.aload_n 0, 1) := by decide +kernel
theorem dN_holds_48 : decode bN_holds 48 = .ok (.getfield 58, 3) := by decide +kernel
theorem dN_holds_51 : decode bN_holds 51 = .ok (.ireturn, 1) := by decide +kernel
theorem dN_holds_52 : decode bN_holds 52 = .ok (.aload_n 0, 1) := by decide +kernel
theorem dN_holds_53 : decode bN_holds 53 = .ok (.getfield 128, 3) := by decide +kernel
theorem dN_holds_56 : decode bN_holds 56 = .ok (.ifCond .ne 7, 3) := by decide +kernel
theorem dN_holds_59 : decode bN_holds 59 = .ok (.iconst 1, 1) := by decide +kernel
theorem dN_holds_60 : decode bN_holds 60 = .ok (.goto 4, 3) := by decide +kernel
theorem dN_holds_63 : decode bN_holds 63 = .ok (.iconst 0, 1) := by decide +kernel
theorem dN_holds_64 : decode bN_holds 64 = .ok (.ireturn, 1) := by decide +kernel
theorem dN_holds_65 : decode bN_holds 65 = .ok (.aload_n 0, 1) := by decide +kernel
theorem dN_holds_66 : decode bN_holds 66 = .ok (.getfield 128, 3) := by decide +kernel
theorem dN_holds_69 : decode bN_holds 69 = .ok (.ireturn, 1) := by decide +kernel
theorem dN_calculate_0 : decode bN_calculate 0 = .ok (.iload_n 1, 1) := by decide +kernel
theorem dN_calculate_1 : decode bN_calculate 1 = .ok (.tableswitch 221 0 6 #[43, 59, 78, 94, 113, 149, 185], 43) := by decide +kernel
theorem dN_calculate_44 : decode bN_calculate 44 = .ok (.aload_n 0, 1) := by decide +kernel
theorem dN_calculate_45 : decode bN_calculate 45 = .ok (.getfield 9, 3) := by decide +kernel
theorem dN_calculate_48 : decode bN_calculate 48 = .ok (.bipush 7, 2) := by decide +kernel
theorem dN_calculate_50 : decode bN_calculate 50 = .ok (.aload_n 0, 1) := by decide +kernel
theorem dN_calculate_51 : decode bN_calculate 51 = .ok (.iload_n 2, 1) := by decide +kernel
theorem dN_calculate_52 : decode bN_calculate 52 = .ok (.iconst 0, 1) := by decide +kernel
theorem dN_calculate_53 : decode bN_calculate 53 = .ok (.invokevirtual 147, 3) := by decide +kernel
theorem dN_calculate_56 : decode bN_calculate 56 = .ok (.iastore, 1) := by decide +kernel
theorem dN_calculate_57 : decode bN_calculate 57 = .ok (.goto 172, 3) := by decide +kernel
theorem dN_calculate_60 : decode bN_calculate 60 = .ok (.aload_n 0, 1) := by decide +kernel
theorem dN_calculate_61 : decode bN_calculate 61 = .ok (.getfield 9, 3) := by decide +kernel
theorem dN_calculate_64 : decode bN_calculate 64 = .ok (.bipush 7, 2) := by decide +kernel
theorem dN_calculate_66 : decode bN_calculate 66 = .ok (.aload_n 0, 1) := by decide +kernel
theorem dN_calculate_67 : decode bN_calculate 67 = .ok (.iload_n 2, 1) := by decide +kernel
theorem dN_calculate_68 : decode bN_calculate 68 = .ok (.aload_n 0, 1) := by decide +kernel
theorem dN_calculate_69 : decode bN_calculate 69 = .ok (.invokevirtual 67, 3) := by decide +kernel
theorem dN_calculate_72 : decode bN_calculate 72 = .ok (.invokevirtual 147, 3) := by decide +kernel
theorem dN_calculate_75 : decode bN_calculate 75 = .ok (.iastore, 1) := by decide +kernel
theorem dN_calculate_76 : decode bN_calculate 76 = .ok (.goto 153, 3) := by decide +kernel
theorem dN_calculate_79 : decode bN_calculate 79 = .ok (.aload_n 0, 1) := by decide +kernel
theorem dN_calculate_80 : decode bN_calculate 80 = .ok (.getfield 9, 3) := by decide +kernel
theorem dN_calculate_83 : decode bN_calculate 83 = .ok (.bipush 7, 2) := by decide +kernel
theorem dN_calculate_85 : decode bN_calculate 85 = .ok (.aload_n 0, 1) := by decide +kernel
theorem dN_calculate_86 : decode bN_calculate 86 = .ok (.iload_n 2, 1) := by decide +kernel
theorem dN_calculate_87 : decode bN_calculate 87 = .ok (.iconst 0, 1) := by decide +kernel
theorem dN_calculate_88 : decode bN_calculate 88 = .ok (.invokevirtual 150, 3) := by decide +kernel
theorem dN_calculate_91 : decode bN_calculate 91 = .ok (.iastore, 1) := by decide +kernel
theorem dN_calculate_92 : decode bN_calculate 92 = .ok (.goto 137, 3) := by decide +kernel
theorem dN_calculate_95 : decode bN_calculate 95 = .ok (.aload_n 0, 1) := by decide +kernel
theorem dN_calculate_96 : decode bN_calculate 96 = .ok (.getfield 9, 3) := by decide +kernel
theorem dN_calculate_99 : decode bN_calculate 99 = .ok (.bipush 7, 2) := by decide +kernel
theorem dN_calculate_101 : decode bN_calculate 101 = .ok (.aload_n 0, 1) := by decide +kernel
theorem dN_calculate_102 : decode bN_calculate 102 = .ok (.iload_n 2, 1) := by decide +kernel
theorem dN_calculate_103 : decode bN_calculate 103 = .ok (.aload_n 0, 1) := by decide +kernel
theorem dN_calculate_104 : decode bN_calculate 104 = .ok (.invokevirtual 67, 3) := by decide +kernel
theorem dN_calculate_107 : decode bN_calculate 107 = .ok (.invokevirtual 150, 3) := by decide +kernel
theorem dN_calculate_110 : decode bN_calculate 110 = .ok (.iastore, 1) := by decide +kernel
theorem dN_calculate_111 : decode bN_calculate 111 = .ok (.goto 118, 3) := by decide +kernel
theorem dN_calculate_114 : decode bN_calculate 114 = .ok (.aload_n 0, 1) := by decide +kernel
theorem dN_calculate_115 : decode bN_calculate 115 = .ok (.getfield 9, 3) := by decide +kernel
theorem dN_calculate_118 : decode bN_calculate 118 = .ok (.bipush 7, 2) := by decide +kernel
theorem dN_calculate_120 : decode bN_calculate 120 = .ok (.dup2, 1) := by decide +kernel
theorem dN_calculate_121 : decode bN_calculate 121 = .ok (.iaload, 1) := by decide +kernel
theorem dN_calculate_122 : decode bN_calculate 122 = .ok (.iload_n 2, 1) := by decide +kernel
theorem dN_calculate_123 : decode bN_calculate 123 = .ok (.iand, 1) := by decide +kernel
theorem dN_calculate_124 : decode bN_calculate 124 = .ok (.iastore, 1) := by decide +kernel
theorem dN_calculate_125 : decode bN_calculate 125 = .ok (.aload_n 0, 1) := by decide +kernel
theorem dN_calculate_126 : decode bN_calculate 126 = .ok (.aload_n 0, 1) := by decide +kernel
theorem dN_calculate_127 : decode bN_calculate 127 = .ok (.getfield 9, 3) := by decide +kernel
theorem dN_calculate_130 : decode bN_calculate 130 = .ok (.bipush 7, 2) := by decide +kernel
theorem dN_calculate_132 : decode bN_calculate 132 = .ok (.iaload, 1) := by decide +kernel
theorem dN_calculate_133 : decode bN_calculate 133 = .ok (.ifCond .ne 7, 3) := by decide +kernel
theorem dN_calculate_136 : decode bN_calculate 136 = .ok (.iconst 1, 1) := by decide +kernel
theorem dN_calculate_137 : decode bN_calculate 137 = .ok (.goto 4, 3) := by decide +kernel
theorem dN_calculate_140 : decode bN_calculate 140 = .ok (.iconst 0, 1) := by decide +kernel
theorem dN_calculate_141 : decode bN_calculate 141 = .ok (.iconst 0, 1) := by decide +kernel
theorem dN_calculate_142 : decode bN_calculate 142 = .ok (.iconst 1, 1) := by decide +kernel
theorem dN_calculate_143 : decode bN_calculate 143 = .ok (.iconst 0, 1) := by decide +kernel
theorem dN_calculate_144 : decode bN_calculate 144 = .ok (.invokevirtual 32, 3) := by decide +kernel
theorem dN_calculate_147 : decode bN_calculate 147 = .ok (.goto 82, 3) := by decide +kernel
theorem dN_calculate_150 : decode bN_calculate 150 = .ok (.aload_n 0, 1) := by decide +kernel
theorem dN_calculate_151 : decode bN_calculate 151 = .ok (.getfield 9, 3) := by decide +kernel
theorem dN_calculate_154 : decode bN_calculate 154 = .ok (.bipush 7, 2) := by decide +kernel
theorem dN_calculate_156 : decode bN_calculate 156 = .ok (.dup2, 1) := by decide +kernel
theorem dN_calculate_157 : decode bN_calculate 157 = .ok (.iaload, 1) := by decide +kernel
theorem dN_calculate_158 : decode bN_calculate 158 = .ok (.iload_n 2, 1) := by decide +kernel
theorem dN_calculate_159 : decode bN_calculate 159 = .ok (.ixor, 1) := by decide +kernel
theorem dN_calculate_160 : decode bN_calculate 160 = .ok (.iastore, 1) := by decide +kernel
theorem dN_calculate_161 : decode bN_calculate 161 = .ok (.aload_n 0, 1) := by decide +kernel
theorem dN_calculate_162 : decode bN_calculate 162 = .ok (.aload_n 0, 1) := by decide +kernel
theorem dN_calculate_163 : decode bN_calculate 163 = .ok (.getfield 9, 3) := by decide +kernel
theorem dN_calculate_166 : decode bN_calculate 166 = .ok (.bipush 7, 2) := by decide +kernel
theorem dN_calculate_168 : decode bN_calculate 168 = .ok (.iaload, 1) := by decide +kernel
theorem dN_calculate_169 : decode bN_calculate 169 = .ok (.ifCond .ne 7, 3) := by decide +kernel
theorem dN_calculate_172 : decode bN_calculate 172 = .ok (.iconst 1, 1) := by decide +kernel
theorem dN_calculate_173 : decode bN_calculate 173 = .ok (.goto 4, 3) := by decide +kernel
theorem dN_calculate_176 : decode bN_calculate 176 = .ok (.iconst 0, 1) := by decide +kernel
theorem dN_calculate_177 : decode bN_calculate 177 = .ok (.iconst 0, 1) := by decide +kernel
theorem dN_calculate_178 : decode bN_calculate 178 = .ok (.iconst 0, 1) := by decide +kernel
theorem dN_calculate_179 : decode bN_calculate 179 = .ok (.iconst 0, 1) := by decide +kernel
theorem dN_calculate_180 : decode bN_calculate 180 = .ok (.invokevirtual 32, 3) := by decide +kernel
theorem dN_calculate_183 : decode bN_calculate 183 = .ok (.goto 46, 3) := by decide +kernel
theorem dN_calculate_186 : decode bN_calculate 186 = .ok (.aload_n 0, 1) := by decide +kernel
theorem dN_calculate_187 : decode bN_calculate 187 = .ok (.getfield 9, 3) := by decide +kernel
theorem dN_calculate_190 : decode bN_calculate 190 = .ok (.bipush 7, 2) := by decide +kernel
theorem dN_calculate_192 : decode bN_calculate 192 = .ok (.dup2, 1) := by decide +kernel
theorem dN_calculate_193 : decode bN_calculate 193 = .ok (.iaload, 1) := by decide +kernel
theorem dN_calculate_194 : decode bN_calculate 194 = .ok (.iload_n 2, 1) := by decide +kernel
theorem dN_calculate_195 : decode bN_calculate 195 = .ok (.ior, 1) := by decide +kernel
theorem dN_calculate_196 : decode bN_calculate 196 = .ok (.iastore, 1) := by decide +kernel
theorem dN_calculate_197 : decode bN_calculate 197 = .ok (.aload_n 0, 1) := by decide +kernel
theorem dN_calculate_198 : decode bN_calculate 198 = .ok (.aload_n 0, 1) := by decide +kernel
theorem dN_calculate_199 : decode bN_calculate 199 = .ok (.getfield 9, 3) := by decide +kernel
theorem dN_calculate_202 : decode bN_calculate 202 = .ok (.bipush 7, 2) := by decide +kernel
theorem dN_calculate_204 : decode bN_calculate 204 = .ok (.iaload, 1) := by decide +kernel
theorem dN_calculate_205 : decode bN_calculate 205 = .ok (.ifCond .ne 7, 3) := by decide +kernel
theorem dN_calculate_208 : decode bN_calculate 208 = .ok (.iconst 1, 1) := by decide +kernel
theorem dN_calculate_209 : decode bN_calculate 209 = .ok (.goto 4, 3) := by decide +kernel
theorem dN_calculate_212 : decode bN_calculate 212 = .ok (.iconst 0, 1) := by decide +kernel
theorem dN_calculate_213 : decode bN_calculate 213 = .ok (.iconst 0, 1) := by decide +kernel
theorem dN_calculate_214 : decode bN_calculate 214 = .ok (.iconst 0, 1) := by decide +kernel
theorem dN_calculate_215 : decode bN_calculate 215 = .ok (.iconst 0, 1) := by decide +kernel
theorem dN_calculate_216 : decode bN_calculate 216 = .ok (.invokevirtual 32, 3) := by decide +kernel
theorem dN_calculate_219 : decode bN_calculate 219 = .ok (.goto 10, 3) := by decide +kernel
theorem dN_calculate_222 : decode bN_calculate 222 = .ok (.aload_n 0, 1) := by decide +kernel
theorem dN_calculate_223 : decode bN_calculate 223 = .ok (.iload_n 2, 1) := by decide +kernel
theorem dN_calculate_224 : decode bN_calculate 224 = .ok (.iconst 0, 1) := by decide +kernel
theorem dN_calculate_225 : decode bN_calculate 225 = .ok (.invokevirtual 150, 3) := by decide +kernel
theorem dN_calculate_228 : decode bN_calculate 228 = .ok (.pop, 1) := by decide +kernel
theorem dN_calculate_229 : decode bN_calculate 229 = .ok (.return_, 1) := by decide +kernel
theorem dN_sum_0 : decode bN_sum 0 = .ok (.aload_n 0, 1) := by decide +kernel
theorem dN_sum_1 : decode bN_sum 1 = .ok (.getfield 9, 3) := by decide +kernel
theorem dN_sum_4 : decode bN_sum 4 = .ok (.bipush 7, 2) := by decide +kernel
theorem dN_sum_6 : decode bN_sum 6 = .ok (.iaload, 1) := by decide +kernel
theorem dN_sum_7 : decode bN_sum 7 = .ok (.istore_n 3, 1) := by decide +kernel
theorem dN_sum_8 : decode bN_sum 8 = .ok (.iload_n 3, 1) := by decide +kernel
theorem dN_sum_9 : decode bN_sum 9 = .ok (.iload_n 1, 1) := by decide +kernel
theorem dN_sum_10 : decode bN_sum 10 = .ok (.iadd, 1) := by decide +kernel
theorem dN_sum_11 : decode bN_sum 11 = .ok (.iload_n 2, 1) := by decide +kernel
theorem dN_sum_12 : decode bN_sum 12 = .ok (.iadd, 1) := by decide +kernel
theorem dN_sum_13 : decode bN_sum 13 = .ok (.istore 4, 2) := by decide +kernel
theorem dN_sum_15 : decode bN_sum 15 = .ok (.iload_n 3, 1) := by decide +kernel
theorem dN_sum_16 : decode bN_sum 16 = .ok (.bipush 15, 2) := by decide +kernel
theorem dN_sum_18 : decode bN_sum 18 = .ok (.iand, 1) := by decide +kernel
theorem dN_sum_19 : decode bN_sum 19 = .ok (.iload_n 1, 1) := by decide +kernel
theorem dN_sum_20 : decode bN_sum 20 = .ok (.bipush 15, 2) := by decide +kernel
theorem dN_sum_22 : decode bN_sum 22 = .ok (.iand, 1) := by decide +kernel
theorem dN_sum_23 : decode bN_sum 23 = .ok (.iadd, 1) := by decide +kernel
theorem dN_sum_24 : decode bN_sum 24 = .ok (.iload_n 2, 1) := by decide +kernel
theorem dN_sum_25 : decode bN_sum 25 = .ok (.iadd, 1) := by decide +kernel
theorem dN_sum_26 : decode bN_sum 26 = .ok (.istore 5, 2) := by decide +kernel
theorem dN_sum_28 : decode bN_sum 28 = .ok (.aload_n 0, 1) := by decide +kernel
theorem dN_sum_29 : decode bN_sum 29 = .ok (.iload 4, 2) := by decide +kernel
theorem dN_sum_31 : decode bN_sum 31 = .ok (.sipush 255, 3) := by decide +kernel
theorem dN_sum_34 : decode bN_sum 34 = .ok (.iand, 1) := by decide +kernel
theorem dN_sum_35 : decode bN_sum 35 = .ok (.ifCond .ne 7, 3) := by decide +kernel
theorem dN_sum_38 : decode bN_sum 38 = .ok (.iconst 1, 1) := by decide +kernel
theorem dN_sum_39 : decode bN_sum 39 = .ok (.goto 4, 3) := by decide +kernel
theorem dN_sum_42 : decode bN_sum 42 = .ok (.iconst 0, 1) := by decide +kernel
theorem dN_sum_43 : decode bN_sum 43 = .ok (.iconst 0, 1) := by decide +kernel
theorem dN_sum_44 : decode bN_sum 44 = .ok (.iload 5, 2) := by decide +kernel
theorem dN_sum_46 : decode bN_sum 46 = .ok (.bipush 15, 2) := by decide +kernel
theorem dN_sum_48 : decode bN_sum 48 = .ok (.if_icmp .le 7, 3) := by decide +kernel
theorem dN_sum_51 : decode bN_sum 51 = .ok (.iconst 1, 1) := by decide +kernel
theorem dN_sum_52 : decode bN_sum 52 = .ok (.goto 4, 3) := by decide +kernel
theorem dN_sum_55 : decode bN_sum 55 = .ok (.iconst 0, 1) := by decide +kernel
theorem dN_sum_56 : decode bN_sum 56 = .ok (.iload 4, 2) := by decide +kernel
theorem dN_sum_58 : decode bN_sum 58 = .ok (.sipush 255, 3) := by decide +kernel
theorem dN_sum_61 : decode bN_sum 61 = .ok (.if_icmp .le 7, 3) := by decide +kernel
theorem dN_sum_64 : decode bN_sum 64 = .ok (.iconst 1, 1) := by decide +kernel
theorem dN_sum_65 : decode bN_sum 65 = .ok (.goto 4, 3) := by decide +kernel
theorem dN_sum_68 : decode bN_sum 68 = .ok (.iconst 0, 1) := by decide +kernel
theorem dN_sum_69 : decode bN_sum 69 = .ok (.invokevirtual 32, 3) := by decide +kernel
theorem dN_sum_72 : decode bN_sum 72 = .ok (.iload 4, 2) := by decide +kernel
theorem dN_sum_74 : decode bN_sum 74 = .ok (.sipush 255, 3) := by decide +kernel
theorem dN_sum_77 : decode bN_sum 77 = .ok (.iand, 1) := by decide +kernel
theorem dN_sum_78 : decode bN_sum 78 = .ok (.ireturn, 1) := by decide +kernel
theorem dN_difference_0 : decode bN_difference 0 = .ok (.aload_n 0, 1) := by decide +kernel
theorem dN_difference_1 : decode bN_difference 1 = .ok (.getfield 9, 3) := by decide +kernel
theorem dN_difference_4 : decode bN_difference 4 = .ok (.bipush 7, 2) := by decide +kernel
theorem dN_difference_6 : decode bN_difference 6 = .ok (.iaload, 1) := by decide +kernel
theorem dN_difference_7 : decode bN_difference 7 = .ok (.istore_n 3, 1) := by decide +kernel
theorem dN_difference_8 : decode bN_difference 8 = .ok (.iload_n 3, 1) := by decide +kernel
theorem dN_difference_9 : decode bN_difference 9 = .ok (.iload_n 1, 1) := by decide +kernel
theorem dN_difference_10 : decode bN_difference 10 = .ok (.isub, 1) := by decide +kernel
theorem dN_difference_11 : decode bN_difference 11 = .ok (.iload_n 2, 1) := by decide +kernel
theorem dN_difference_12 : decode bN_difference 12 = .ok (.isub, 1) := by decide +kernel
theorem dN_difference_13 : decode bN_difference 13 = .ok (.istore 4, 2) := by decide +kernel
theorem dN_difference_15 : decode bN_difference 15 = .ok (.iload_n 3, 1) := by decide +kernel
theorem dN_difference_16 : decode bN_difference 16 = .ok (.bipush 15, 2) := by decide +kernel
theorem dN_difference_18 : decode bN_difference 18 = .ok (.iand, 1) := by decide +kernel
theorem dN_difference_19 : decode bN_difference 19 = .ok (.iload_n 1, 1) := by decide +kernel
theorem dN_difference_20 : decode bN_difference 20 = .ok (.bipush 15, 2) := by decide +kernel
theorem dN_difference_22 : decode bN_difference 22 = .ok (.iand, 1) := by decide +kernel
theorem dN_difference_23 : decode bN_difference 23 = .ok (.isub, 1) := by decide +kernel
theorem dN_difference_24 : decode bN_difference 24 = .ok (.iload_n 2, 1) := by decide +kernel
theorem dN_difference_25 : decode bN_difference 25 = .ok (.isub, 1) := by decide +kernel
theorem dN_difference_26 : decode bN_difference 26 = .ok (.istore 5, 2) := by decide +kernel
theorem dN_difference_28 : decode bN_difference 28 = .ok (.aload_n 0, 1) := by decide +kernel
theorem dN_difference_29 : decode bN_difference 29 = .ok (.iload 4, 2) := by decide +kernel
theorem dN_difference_31 : decode bN_difference 31 = .ok (.sipush 255, 3) := by decide +kernel
theorem dN_difference_34 : decode bN_difference 34 = .ok (.iand, 1) := by decide +kernel
theorem dN_difference_35 : decode bN_difference 35 = .ok (.ifCond .ne 7, 3) := by decide +kernel
theorem dN_difference_38 : decode bN_difference 38 = .ok (.iconst 1, 1) := by decide +kernel
theorem dN_difference_39 : decode bN_difference 39 = .ok (.goto 4, 3) := by decide +kernel
theorem dN_difference_42 : decode bN_difference 42 = .ok (.iconst 0, 1) := by decide +kernel
theorem dN_difference_43 : decode bN_difference 43 = .ok (.iconst 1, 1) := by decide +kernel
theorem dN_difference_44 : decode bN_difference 44 = .ok (.iload 5, 2) := by decide +kernel
theorem dN_difference_46 : decode bN_difference 46 = .ok (.ifCond .ge 7, 3) := by decide +kernel
theorem dN_difference_49 : decode bN_difference 49 = .ok (.iconst 1, 1) := by decide +kernel
theorem dN_difference_50 : decode bN_difference 50 = .ok (.goto 4, 3) := by decide +kernel
theorem dN_difference_53 : decode bN_difference 53 = .ok (.iconst 0, 1) := by decide +kernel
theorem dN_difference_54 : decode bN_difference 54 = .ok (.iload 4, 2) := by decide +kernel
theorem dN_difference_56 : decode bN_difference 56 = .ok (.ifCond .ge 7, 3) := by decide +kernel
theorem dN_difference_59 : decode bN_difference 59 = .ok (.iconst 1, 1) := by decide +kernel
theorem dN_difference_60 : decode bN_difference 60 = .ok (.goto 4, 3) := by decide +kernel
theorem dN_difference_63 : decode bN_difference 63 = .ok (.iconst 0, 1) := by decide +kernel
theorem dN_difference_64 : decode bN_difference 64 = .ok (.invokevirtual 32, 3) := by decide +kernel
theorem dN_difference_67 : decode bN_difference 67 = .ok (.iload 4, 2) := by decide +kernel
theorem dN_difference_69 : decode bN_difference 69 = .ok (.sipush 255, 3) := by decide +kernel
theorem dN_difference_72 : decode bN_difference 72 = .ok (.iand, 1) := by decide +kernel
theorem dN_difference_73 : decode bN_difference 73 = .ok (.ireturn, 1) := by decide +kernel
theorem dN_oneMore_0 : decode bN_oneMore 0 = .ok (.iload_n 1, 1) := by decide +kernel
theorem dN_oneMore_1 : decode bN_oneMore 1 = .ok (.iconst 1, 1) := by decide +kernel
theorem dN_oneMore_2 : decode bN_oneMore 2 = .ok (.iadd, 1) := by decide +kernel
theorem dN_oneMore_3 : decode bN_oneMore 3 = .ok (.sipush 255, 3) := by decide +kernel
theorem dN_oneMore_6 : decode bN_oneMore 6 = .ok (.iand, 1) := by decide +kernel
theorem dN_oneMore_7 : decode bN_oneMore 7 = .ok (.istore_n 2, 1) := by decide +kernel
theorem dN_oneMore_8 : decode bN_oneMore 8 = .ok (.aload_n 0, 1) := by decide +kernel
theorem dN_oneMore_9 : decode bN_oneMore 9 = .ok (.iload_n 2, 1) := by decide +kernel
theorem dN_oneMore_10 : decode bN_oneMore 10 = .ok (.ifCond .ne 7, 3) := by decide +kernel
theorem dN_oneMore_13 : decode bN_oneMore 13 = .ok (.iconst 1, 1) := by decide +kernel
theorem dN_oneMore_14 : decode bN_oneMore 14 = .ok (.goto 4, 3) := by decide +kernel
theorem dN_oneMore_17 : decode bN_oneMore 17 = .ok (.iconst 0, 1) := by decide +kernel
theorem dN_oneMore_18 : decode bN_oneMore 18 = .ok (.iconst 0, 1) := by decide +kernel
theorem dN_oneMore_19 : decode bN_oneMore 19 = .ok (.iload_n 2, 1) := by decide +kernel
theorem dN_oneMore_20 : decode bN_oneMore 20 = .ok (.bipush 15, 2) := by decide +kernel
theorem dN_oneMore_22 : decode bN_oneMore 22 = .ok (.iand, 1) := by decide +kernel
theorem dN_oneMore_23 : decode bN_oneMore 23 = .ok (.ifCond .ne 7, 3) := by decide +kernel
theorem dN_oneMore_26 : decode bN_oneMore 26 = .ok (.iconst 1, 1) := by decide +kernel
theorem dN_oneMore_27 : decode bN_oneMore 27 = .ok (.goto 4, 3) := by decide +kernel
theorem dN_oneMore_30 : decode bN_oneMore 30 = .ok (.iconst 0, 1) := by decide +kernel
theorem dN_oneMore_31 : decode bN_oneMore 31 = .ok (.aload_n 0, 1) := by decide +kernel
theorem dN_oneMore_32 : decode bN_oneMore 32 = .ok (.getfield 128, 3) := by decide +kernel
theorem dN_oneMore_35 : decode bN_oneMore 35 = .ok (.invokevirtual 32, 3) := by decide +kernel
theorem dN_oneMore_38 : decode bN_oneMore 38 = .ok (.iload_n 2, 1) := by decide +kernel
theorem dN_oneMore_39 : decode bN_oneMore 39 = .ok (.ireturn, 1) := by decide +kernel
theorem dN_oneLess_0 : decode bN_oneLess 0 = .ok (.iload_n 1, 1) := by decide +kernel
theorem dN_oneLess_1 : decode bN_oneLess 1 = .ok (.iconst 1, 1) := by decide +kernel
theorem dN_oneLess_2 : decode bN_oneLess 2 = .ok (.isub, 1) := by decide +kernel
theorem dN_oneLess_3 : decode bN_oneLess 3 = .ok (.sipush 255, 3) := by decide +kernel
theorem dN_oneLess_6 : decode bN_oneLess 6 = .ok (.iand, 1) := by decide +kernel
theorem dN_oneLess_7 : decode bN_oneLess 7 = .ok (.istore_n 2, 1) := by decide +kernel
theorem dN_oneLess_8 : decode bN_oneLess 8 = .ok (.aload_n 0, 1) := by decide +kernel
theorem dN_oneLess_9 : decode bN_oneLess 9 = .ok (.iload_n 2, 1) := by decide +kernel
theorem dN_oneLess_10 : decode bN_oneLess 10 = .ok (.ifCond .ne 7, 3) := by decide +kernel
theorem dN_oneLess_13 : decode bN_oneLess 13 = .ok (.iconst 1, 1) := by decide +kernel
theorem dN_oneLess_14 : decode bN_oneLess 14 = .ok (.goto 4, 3) := by decide +kernel
theorem dN_oneLess_17 : decode bN_oneLess 17 = .ok (.iconst 0, 1) := by decide +kernel
theorem dN_oneLess_18 : decode bN_oneLess 18 = .ok (.iconst 1, 1) := by decide +kernel
theorem dN_oneLess_19 : decode bN_oneLess 19 = .ok (.iload_n 1, 1) := by decide +kernel
theorem dN_oneLess_20 : decode bN_oneLess 20 = .ok (.bipush 15, 2) := by decide +kernel
theorem dN_oneLess_22 : decode bN_oneLess 22 = .ok (.iand, 1) := by decide +kernel
theorem dN_oneLess_23 : decode bN_oneLess 23 = .ok (.ifCond .ne 7, 3) := by decide +kernel
theorem dN_oneLess_26 : decode bN_oneLess 26 = .ok (.iconst 1, 1) := by decide +kernel
theorem dN_oneLess_27 : decode bN_oneLess 27 = .ok (.goto 4, 3) := by decide +kernel
theorem dN_oneLess_30 : decode bN_oneLess 30 = .ok (.iconst 0, 1) := by decide +kernel
theorem dN_oneLess_31 : decode bN_oneLess 31 = .ok (.aload_n 0, 1) := by decide +kernel
theorem dN_oneLess_32 : decode bN_oneLess 32 = .ok (.getfield 128, 3) := by decide +kernel
theorem dN_oneLess_35 : decode bN_oneLess 35 = .ok (.invokevirtual 32, 3) := by decide +kernel
theorem dN_oneLess_38 : decode bN_oneLess 38 = .ok (.iload_n 2, 1) := by decide +kernel
theorem dN_oneLess_39 : decode bN_oneLess 39 = .ok (.ireturn, 1) := by decide +kernel
theorem dN_exchanged_0 : decode bN_exchanged 0 = .ok (.aload_n 0, 1) := by decide +kernel
theorem dN_exchanged_1 : decode bN_exchanged 1 = .ok (.iload_n 1, 1) := by decide +kernel
theorem dN_exchanged_2 : decode bN_exchanged 2 = .ok (.ifCond .ne 7, 3) := by decide +kernel
theorem dN_exchanged_5 : decode bN_exchanged 5 = .ok (.iconst 1, 1) := by decide +kernel
theorem dN_exchanged_6 : decode bN_exchanged 6 = .ok (.goto 4, 3) := by decide +kernel
theorem dN_exchanged_9 : decode bN_exchanged 9 = .ok (.iconst 0, 1) := by decide +kernel
theorem dN_exchanged_10 : decode bN_exchanged 10 = .ok (.iconst 0, 1) := by decide +kernel
theorem dN_exchanged_11 : decode bN_exchanged 11 = .ok (.iconst 0, 1) := by decide +kernel
theorem dN_exchanged_12 : decode bN_exchanged 12 = .ok (.iconst 0, 1) := by decide +kernel
theorem dN_exchanged_13 : decode bN_exchanged 13 = .ok (.invokevirtual 32, 3) := by decide +kernel
theorem dN_exchanged_16 : decode bN_exchanged 16 = .ok (.iload_n 1, 1) := by decide +kernel
theorem dN_exchanged_17 : decode bN_exchanged 17 = .ok (.iconst 4, 1) := by decide +kernel
theorem dN_exchanged_18 : decode bN_exchanged 18 = .ok (.ishl, 1) := by decide +kernel
theorem dN_exchanged_19 : decode bN_exchanged 19 = .ok (.sipush 240, 3) := by decide +kernel
theorem dN_exchanged_22 : decode bN_exchanged 22 = .ok (.iand, 1) := by decide +kernel
theorem dN_exchanged_23 : decode bN_exchanged 23 = .ok (.iload_n 1, 1) := by decide +kernel
theorem dN_exchanged_24 : decode bN_exchanged 24 = .ok (.iconst 4, 1) := by decide +kernel
theorem dN_exchanged_25 : decode bN_exchanged 25 = .ok (.ishr, 1) := by decide +kernel
theorem dN_exchanged_26 : decode bN_exchanged 26 = .ok (.ior, 1) := by decide +kernel
theorem dN_exchanged_27 : decode bN_exchanged 27 = .ok (.ireturn, 1) := by decide +kernel
theorem dN_adjust_0 : decode bN_adjust 0 = .ok (.aload_n 0, 1) := by decide +kernel
theorem dN_adjust_1 : decode bN_adjust 1 = .ok (.getfield 9, 3) := by decide +kernel
theorem dN_adjust_4 : decode bN_adjust 4 = .ok (.bipush 7, 2) := by decide +kernel
theorem dN_adjust_6 : decode bN_adjust 6 = .ok (.iaload, 1) := by decide +kernel
theorem dN_adjust_7 : decode bN_adjust 7 = .ok (.istore_n 1, 1) := by decide +kernel
theorem dN_adjust_8 : decode bN_adjust 8 = .ok (.aload_n 0, 1) := by decide +kernel
theorem dN_adjust_9 : decode bN_adjust 9 = .ok (.getfield 128, 3) := by decide +kernel
theorem dN_adjust_12 : decode bN_adjust 12 = .ok (.ifCond .ne 17, 3) := by decide +kernel
theorem dN_adjust_15 : decode bN_adjust 15 = .ok (.aload_n 0, 1) := by decide +kernel
theorem dN_adjust_16 : decode bN_adjust 16 = .ok (.getfield 61, 3) := by decide +kernel
theorem dN_adjust_19 : decode bN_adjust 19 = .ok (.ifCond .ne 14, 3) := by decide +kernel
theorem dN_adjust_22 : decode bN_adjust 22 = .ok (.iload_n 1, 1) := by decide +kernel
theorem dN_adjust_23 : decode bN_adjust 23 = .ok (.sipush 153, 3) := by decide +kernel
theorem dN_adjust_26 : decode bN_adjust 26 = .ok (.if_icmp .le 7, 3) := by decide +kernel
theorem dN_adjust_29 : decode bN_adjust 29 = .ok (.iconst 1, 1) := by decide +kernel
theorem dN_adjust_30 : decode bN_adjust 30 = .ok (.goto 4, 3) := by decide +kernel
theorem dN_adjust_33 : decode bN_adjust 33 = .ok (.iconst 0, 1) := by decide +kernel
theorem dN_adjust_34 : decode bN_adjust 34 = .ok (.istore_n 2, 1) := by decide +kernel
theorem dN_adjust_35 : decode bN_adjust 35 = .ok (.iconst 0, 1) := by decide +kernel
theorem dN_adjust_36 : decode bN_adjust 36 = .ok (.istore_n 3, 1) := by decide +kernel
theorem dN_adjust_37 : decode bN_adjust 37 = .ok (.aload_n 0, 1) := by decide +kernel
theorem dN_adjust_38 : decode bN_adjust 38 = .ok (.getfield 64, 3) := by decide +kernel
theorem dN_adjust_41 : decode bN_adjust 41 = .ok (.ifCond .ne 19, 3) := by decide +kernel
theorem dN_adjust_44 : decode bN_adjust 44 = .ok (.aload_n 0, 1) := by decide +kernel
theorem dN_adjust_45 : decode bN_adjust 45 = .ok (.getfield 61, 3) := by decide +kernel
theorem dN_adjust_48 : decode bN_adjust 48 = .ok (.ifCond .ne 15, 3) := by decide +kernel
theorem dN_adjust_51 : decode bN_adjust 51 = .ok (.iload_n 1, 1) := by decide +kernel
theorem dN_adjust_52 : decode bN_adjust 52 = .ok (.bipush 15, 2) := by decide +kernel
theorem dN_adjust_54 : decode bN_adjust 54 = .ok (.iand, 1) := by decide +kernel
theorem dN_adjust_55 : decode bN_adjust 55 = .ok (.bipush 9, 2) := by decide +kernel
theorem dN_adjust_57 : decode bN_adjust 57 = .ok (.if_icmp .le 6, 3) := by decide +kernel
theorem dN_adjust_60 : decode bN_adjust 60 = .ok (.bipush 6, 2) := by decide +kernel
theorem dN_adjust_62 : decode bN_adjust 62 = .ok (.istore_n 3, 1) := by decide +kernel
theorem dN_adjust_63 : decode bN_adjust 63 = .ok (.iload_n 2, 1) := by decide +kernel
theorem dN_adjust_64 : decode bN_adjust 64 = .ok (.ifCond .eq 6, 3) := by decide +kernel
theorem dN_adjust_67 : decode bN_adjust 67 = .ok (.iinc 3 96, 3) := by decide +kernel
theorem dN_adjust_70 : decode bN_adjust 70 = .ok (.aload_n 0, 1) := by decide +kernel
theorem dN_adjust_71 : decode bN_adjust 71 = .ok (.getfield 9, 3) := by decide +kernel
theorem dN_adjust_74 : decode bN_adjust 74 = .ok (.bipush 7, 2) := by decide +kernel
theorem dN_adjust_76 : decode bN_adjust 76 = .ok (.aload_n 0, 1) := by decide +kernel
theorem dN_adjust_77 : decode bN_adjust 77 = .ok (.getfield 61, 3) := by decide +kernel
theorem dN_adjust_80 : decode bN_adjust 80 = .ok (.ifCond .eq 9, 3) := by decide +kernel
theorem dN_adjust_83 : decode bN_adjust 83 = .ok (.iload_n 1, 1) := by decide +kernel
theorem dN_adjust_84 : decode bN_adjust 84 = .ok (.iload_n 3, 1) := by decide +kernel
theorem dN_adjust_85 : decode bN_adjust 85 = .ok (.isub, 1) := by decide +kernel
theorem dN_adjust_86 : decode bN_adjust 86 = .ok (.goto 6, 3) := by decide +kernel
theorem dN_adjust_89 : decode bN_adjust 89 = .ok (.iload_n 1, 1) := by decide +kernel
theorem dN_adjust_90 : decode bN_adjust 90 = .ok (.iload_n 3, 1) := by decide +kernel
theorem dN_adjust_91 : decode bN_adjust 91 = .ok (.iadd, 1) := by decide +kernel
theorem dN_adjust_92 : decode bN_adjust 92 = .ok (.sipush 255, 3) := by decide +kernel
theorem dN_adjust_95 : decode bN_adjust 95 = .ok (.iand, 1) := by decide +kernel
theorem dN_adjust_96 : decode bN_adjust 96 = .ok (.iastore, 1) := by decide +kernel
theorem dN_adjust_97 : decode bN_adjust 97 = .ok (.aload_n 0, 1) := by decide +kernel
theorem dN_adjust_98 : decode bN_adjust 98 = .ok (.aload_n 0, 1) := by decide +kernel
theorem dN_adjust_99 : decode bN_adjust 99 = .ok (.getfield 9, 3) := by decide +kernel
theorem dN_adjust_102 : decode bN_adjust 102 = .ok (.bipush 7, 2) := by decide +kernel
theorem dN_adjust_104 : decode bN_adjust 104 = .ok (.iaload, 1) := by decide +kernel
theorem dN_adjust_105 : decode bN_adjust 105 = .ok (.ifCond .ne 7, 3) := by decide +kernel
theorem dN_adjust_108 : decode bN_adjust 108 = .ok (.iconst 1, 1) := by decide +kernel
theorem dN_adjust_109 : decode bN_adjust 109 = .ok (.goto 4, 3) := by decide +kernel
theorem dN_adjust_112 : decode bN_adjust 112 = .ok (.iconst 0, 1) := by decide +kernel
theorem dN_adjust_113 : decode bN_adjust 113 = .ok (.aload_n 0, 1) := by decide +kernel
theorem dN_adjust_114 : decode bN_adjust 114 = .ok (.getfield 61, 3) := by decide +kernel
theorem dN_adjust_117 : decode bN_adjust 117 = .ok (.iconst 0, 1) := by decide +kernel
theorem dN_adjust_118 : decode bN_adjust 118 = .ok (.iload_n 2, 1) := by decide +kernel
theorem dN_adjust_119 : decode bN_adjust 119 = .ok (.invokevirtual 32, 3) := by decide +kernel
theorem dN_adjust_122 : decode bN_adjust 122 = .ok (.return_, 1) := by decide +kernel
theorem dN_obeyOnBits_0 : decode bN_obeyOnBits 0 = .ok (.iload_n 1, 1) := by decide +kernel
theorem dN_obeyOnBits_1 : decode bN_obeyOnBits 1 = .ok (.bipush 7, 2) := by decide +kernel
theorem dN_obeyOnBits_3 : decode bN_obeyOnBits 3 = .ok (.iand, 1) := by decide +kernel
theorem dN_obeyOnBits_4 : decode bN_obeyOnBits 4 = .ok (.istore_n 2, 1) := by decide +kernel
theorem dN_obeyOnBits_5 : decode bN_obeyOnBits 5 = .ok (.iload_n 1, 1) := by decide +kernel
theorem dN_obeyOnBits_6 : decode bN_obeyOnBits 6 = .ok (.iconst 3, 1) := by decide +kernel
theorem dN_obeyOnBits_7 : decode bN_obeyOnBits 7 = .ok (.ishr, 1) := by decide +kernel
theorem dN_obeyOnBits_8 : decode bN_obeyOnBits 8 = .ok (.istore_n 3, 1) := by decide +kernel
theorem dN_obeyOnBits_9 : decode bN_obeyOnBits 9 = .ok (.iconst 1, 1) := by decide +kernel
theorem dN_obeyOnBits_10 : decode bN_obeyOnBits 10 = .ok (.iload_n 3, 1) := by decide +kernel
theorem dN_obeyOnBits_11 : decode bN_obeyOnBits 11 = .ok (.bipush 7, 2) := by decide +kernel
theorem dN_obeyOnBits_13 : decode bN_obeyOnBits 13 = .ok (.iand, 1) := by decide +kernel
theorem dN_obeyOnBits_14 : decode bN_obeyOnBits 14 = .ok (.ishl, 1) := by decide +kernel
theorem dN_obeyOnBits_15 : decode bN_obeyOnBits 15 = .ok (.istore 4, 2) := by decide +kernel
theorem dN_obeyOnBits_17 : decode bN_obeyOnBits 17 = .ok (.iload_n 3, 1) := by decide +kernel
theorem dN_obeyOnBits_18 : decode bN_obeyOnBits 18 = .ok (.bipush 7, 2) := by decide +kernel
theorem dN_obeyOnBits_20 : decode bN_obeyOnBits 20 = .ok (.if_icmp .ge 21, 3) := by decide +kernel
theorem dN_obeyOnBits_23 : decode bN_obeyOnBits 23 = .ok (.aload_n 0, 1) := by decide +kernel
theorem dN_obeyOnBits_24 : decode bN_obeyOnBits 24 = .ok (.iload_n 2, 1) := by decide +kernel
theorem dN_obeyOnBits_25 : decode bN_obeyOnBits 25 = .ok (.aload_n 0, 1) := by decide +kernel
theorem dN_obeyOnBits_26 : decode bN_obeyOnBits 26 = .ok (.iload_n 3, 1) := by decide +kernel
theorem dN_obeyOnBits_27 : decode bN_obeyOnBits 27 = .ok (.aload_n 0, 1) := by decide +kernel
theorem dN_obeyOnBits_28 : decode bN_obeyOnBits 28 = .ok (.iload_n 2, 1) := by decide +kernel
theorem dN_obeyOnBits_29 : decode bN_obeyOnBits 29 = .ok (.invokevirtual 74, 3) := by decide +kernel
theorem dN_obeyOnBits_32 : decode bN_obeyOnBits 32 = .ok (.invokevirtual 153, 3) := by decide +kernel
theorem dN_obeyOnBits_35 : decode bN_obeyOnBits 35 = .ok (.invokevirtual 107, 3) := by decide +kernel
theorem dN_obeyOnBits_38 : decode bN_obeyOnBits 38 = .ok (.goto 81, 3) := by decide +kernel
theorem dN_obeyOnBits_41 : decode bN_obeyOnBits 41 = .ok (.iload_n 3, 1) := by decide +kernel
theorem dN_obeyOnBits_42 : decode bN_obeyOnBits 42 = .ok (.bipush 24, 2) := by decide +kernel
theorem dN_obeyOnBits_44 : decode bN_obeyOnBits 44 = .ok (.if_icmp .lt 19, 3) := by decide +kernel
theorem dN_obeyOnBits_47 : decode bN_obeyOnBits 47 = .ok (.aload_n 0, 1) := by decide +kernel
theorem dN_obeyOnBits_48 : decode bN_obeyOnBits 48 = .ok (.iload_n 2, 1) := by decide +kernel
theorem dN_obeyOnBits_49 : decode bN_obeyOnBits 49 = .ok (.aload_n 0, 1) := by decide +kernel
theorem dN_obeyOnBits_50 : decode bN_obeyOnBits 50 = .ok (.iload_n 2, 1) := by decide +kernel
theorem dN_obeyOnBits_51 : decode bN_obeyOnBits 51 = .ok (.invokevirtual 74, 3) := by decide +kernel
theorem dN_obeyOnBits_54 : decode bN_obeyOnBits 54 = .ok (.iload 4, 2) := by decide +kernel
theorem dN_obeyOnBits_56 : decode bN_obeyOnBits 56 = .ok (.ior, 1) := by decide +kernel
theorem dN_obeyOnBits_57 : decode bN_obeyOnBits 57 = .ok (.invokevirtual 107, 3) := by decide +kernel
theorem dN_obeyOnBits_60 : decode bN_obeyOnBits 60 = .ok (.goto 59, 3) := by decide +kernel
theorem dN_obeyOnBits_63 : decode bN_obeyOnBits 63 = .ok (.iload_n 3, 1) := by decide +kernel
theorem dN_obeyOnBits_64 : decode bN_obeyOnBits 64 = .ok (.bipush 16, 2) := by decide +kernel
theorem dN_obeyOnBits_66 : decode bN_obeyOnBits 66 = .ok (.if_icmp .lt 21, 3) := by decide +kernel
theorem dN_obeyOnBits_69 : decode bN_obeyOnBits 69 = .ok (.aload_n 0, 1) := by decide +kernel
theorem dN_obeyOnBits_70 : decode bN_obeyOnBits 70 = .ok (.iload_n 2, 1) := by decide +kernel
theorem dN_obeyOnBits_71 : decode bN_obeyOnBits 71 = .ok (.aload_n 0, 1) := by decide +kernel
theorem dN_obeyOnBits_72 : decode bN_obeyOnBits 72 = .ok (.iload_n 2, 1) := by decide +kernel
theorem dN_obeyOnBits_73 : decode bN_obeyOnBits 73 = .ok (.invokevirtual 74, 3) := by decide +kernel
theorem dN_obeyOnBits_76 : decode bN_obeyOnBits 76 = .ok (.iload 4, 2) := by decide +kernel
theorem dN_obeyOnBits_78 : decode bN_obeyOnBits 78 = .ok (.iconst (-1), 1) := by decide +kernel
theorem dN_obeyOnBits_79 : decode bN_obeyOnBits 79 = .ok (.ixor, 1) := by decide +kernel
theorem dN_obeyOnBits_80 : decode bN_obeyOnBits 80 = .ok (.iand, 1) := by decide +kernel
theorem dN_obeyOnBits_81 : decode bN_obeyOnBits 81 = .ok (.invokevirtual 107, 3) := by decide +kernel
theorem dN_obeyOnBits_84 : decode bN_obeyOnBits 84 = .ok (.goto 35, 3) := by decide +kernel
theorem dN_obeyOnBits_87 : decode bN_obeyOnBits 87 = .ok (.iload_n 3, 1) := by decide +kernel
theorem dN_obeyOnBits_88 : decode bN_obeyOnBits 88 = .ok (.bipush 8, 2) := by decide +kernel
theorem dN_obeyOnBits_90 : decode bN_obeyOnBits 90 = .ok (.if_icmp .lt 29, 3) := by decide +kernel
theorem dN_obeyOnBits_93 : decode bN_obeyOnBits 93 = .ok (.aload_n 0, 1) := by decide +kernel
theorem dN_obeyOnBits_94 : decode bN_obeyOnBits 94 = .ok (.aload_n 0, 1) := by decide +kernel
theorem dN_obeyOnBits_95 : decode bN_obeyOnBits 95 = .ok (.iload_n 2, 1) := by decide +kernel
theorem dN_obeyOnBits_96 : decode bN_obeyOnBits 96 = .ok (.invokevirtual 74, 3) := by decide +kernel
theorem dN_obeyOnBits_99 : decode bN_obeyOnBits 99 = .ok (.iload 4, 2) := by decide +kernel
theorem dN_obeyOnBits_101 : decode bN_obeyOnBits 101 = .ok (.iand, 1) := by decide +kernel
theorem dN_obeyOnBits_102 : decode bN_obeyOnBits 102 = .ok (.ifCond .ne 7, 3) := by decide +kernel
theorem dN_obeyOnBits_105 : decode bN_obeyOnBits 105 = .ok (.iconst 1, 1) := by decide +kernel
theorem dN_obeyOnBits_106 : decode bN_obeyOnBits 106 = .ok (.goto 4, 3) := by decide +kernel
theorem dN_obeyOnBits_109 : decode bN_obeyOnBits 109 = .ok (.iconst 0, 1) := by decide +kernel
theorem dN_obeyOnBits_110 : decode bN_obeyOnBits 110 = .ok (.iconst 0, 1) := by decide +kernel
theorem dN_obeyOnBits_111 : decode bN_obeyOnBits 111 = .ok (.iconst 1, 1) := by decide +kernel
theorem dN_obeyOnBits_112 : decode bN_obeyOnBits 112 = .ok (.aload_n 0, 1) := by decide +kernel
theorem dN_obeyOnBits_113 : decode bN_obeyOnBits 113 = .ok (.getfield 128, 3) := by decide +kernel
theorem dN_obeyOnBits_116 : decode bN_obeyOnBits 116 = .ok (.invokevirtual 32, 3) := by decide +kernel
theorem dN_obeyOnBits_119 : decode bN_obeyOnBits 119 = .ok (.return_, 1) := by decide +kernel
theorem dN_shifted_0 : decode bN_shifted 0 = .ok (.iload_n 1, 1) := by decide +kernel
theorem dN_shifted_1 : decode bN_shifted 1 = .ok (.ifCond .eq 13, 3) := by decide +kernel
theorem dN_shifted_4 : decode bN_shifted 4 = .ok (.iload_n 1, 1) := by decide +kernel
theorem dN_shifted_5 : decode bN_shifted 5 = .ok (.iconst 2, 1) := by decide +kernel
theorem dN_shifted_6 : decode bN_shifted 6 = .ok (.if_icmp .eq 8, 3) := by decide +kernel
theorem dN_shifted_9 : decode bN_shifted 9 = .ok (.iload_n 1, 1) := by decide +kernel
theorem dN_shifted_10 : decode bN_shifted 10 = .ok (.iconst 4, 1) := by decide +kernel
theorem dN_shifted_11 : decode bN_shifted 11 = .ok (.if_icmp .ne 7, 3) := by decide +kernel
theorem dN_shifted_14 : decode bN_shifted 14 = .ok (.iconst 1, 1) := by decide +kernel
theorem dN_shifted_15 : decode bN_shifted 15 = .ok (.goto 4, 3) := by decide +kernel
theorem dN_shifted_18 : decode bN_shifted 18 = .ok (.iconst 0, 1) := by decide +kernel
theorem dN_shifted_19 : decode bN_shifted 19 = .ok (.istore_n 3, 1) := by decide +kernel
theorem dN_shifted_20 : decode bN_shifted 20 = .ok (.iload_n 3, 1) := by decide +kernel
theorem dN_shifted_21 : decode bN_shifted 21 = .ok (.ifCond .eq 10, 3) := by decide +kernel
theorem dN_shifted_24 : decode bN_shifted 24 = .ok (.iload_n 2, 1) := by decide +kernel
theorem dN_shifted_25 : decode bN_shifted 25 = .ok (.bipush 7, 2) := by decide +kernel
theorem dN_shifted_27 : decode bN_shifted 27 = .ok (.ishr, 1) := by decide +kernel
theorem dN_shifted_28 : decode bN_shifted 28 = .ok (.goto 6, 3) := by decide +kernel
theorem dN_shifted_31 : decode bN_shifted 31 = .ok (.iload_n 2, 1) := by decide +kernel
theorem dN_shifted_32 : decode bN_shifted 32 = .ok (.iconst 1, 1) := by decide +kernel
theorem dN_shifted_33 : decode bN_shifted 33 = .ok (.iand, 1) := by decide +kernel
theorem dN_shifted_34 : decode bN_shifted 34 = .ok (.istore 4, 2) := by decide +kernel
theorem dN_shifted_36 : decode bN_shifted 36 = .ok (.aload_n 0, 1) := by decide +kernel
theorem dN_shifted_37 : decode bN_shifted 37 = .ok (.iload_n 1, 1) := by decide +kernel
theorem dN_shifted_38 : decode bN_shifted 38 = .ok (.iload_n 2, 1) := by decide +kernel
theorem dN_shifted_39 : decode bN_shifted 39 = .ok (.iload 4, 2) := by decide +kernel
theorem dN_shifted_41 : decode bN_shifted 41 = .ok (.invokevirtual 156, 3) := by decide +kernel
theorem dN_shifted_44 : decode bN_shifted 44 = .ok (.istore 5, 2) := by decide +kernel
theorem dN_shifted_46 : decode bN_shifted 46 = .ok (.iload_n 3, 1) := by decide +kernel
theorem dN_shifted_47 : decode bN_shifted 47 = .ok (.ifCond .eq 16, 3) := by decide +kernel
theorem dN_shifted_50 : decode bN_shifted 50 = .ok (.iload_n 2, 1) := by decide +kernel
theorem dN_shifted_51 : decode bN_shifted 51 = .ok (.iconst 1, 1) := by decide +kernel
theorem dN_shifted_52 : decode bN_shifted 52 = .ok (.ishl, 1) := by decide +kernel
theorem dN_shifted_53 : decode bN_shifted 53 = .ok (.sipush 255, 3) := by decide +kernel
theorem dN_shifted_56 : decode bN_shifted 56 = .ok (.iand, 1) := by decide +kernel
theorem dN_shifted_57 : decode bN_shifted 57 = .ok (.iload 5, 2) := by decide +kernel
theorem dN_shifted_59 : decode bN_shifted 59 = .ok (.ior, 1) := by decide +kernel
theorem dN_shifted_60 : decode bN_shifted 60 = .ok (.goto 12, 3) := by decide +kernel
theorem dN_shifted_63 : decode bN_shifted 63 = .ok (.iload_n 2, 1) := by decide +kernel
theorem dN_shifted_64 : decode bN_shifted 64 = .ok (.iconst 1, 1) := by decide +kernel
theorem dN_shifted_65 : decode bN_shifted 65 = .ok (.ishr, 1) := by decide +kernel
theorem dN_shifted_66 : decode bN_shifted 66 = .ok (.iload 5, 2) := by decide +kernel
theorem dN_shifted_68 : decode bN_shifted 68 = .ok (.bipush 7, 2) := by decide +kernel
theorem dN_shifted_70 : decode bN_shifted 70 = .ok (.ishl, 1) := by decide +kernel
theorem dN_shifted_71 : decode bN_shifted 71 = .ok (.ior, 1) := by decide +kernel
theorem dN_shifted_72 : decode bN_shifted 72 = .ok (.istore 6, 2) := by decide +kernel
theorem dN_shifted_74 : decode bN_shifted 74 = .ok (.aload_n 0, 1) := by decide +kernel
theorem dN_shifted_75 : decode bN_shifted 75 = .ok (.iload 6, 2) := by decide +kernel
theorem dN_shifted_77 : decode bN_shifted 77 = .ok (.ifCond .ne 7, 3) := by decide +kernel
theorem dN_shifted_80 : decode bN_shifted 80 = .ok (.iconst 1, 1) := by decide +kernel
theorem dN_shifted_81 : decode bN_shifted 81 = .ok (.goto 4, 3) := by decide +kernel
theorem dN_shifted_84 : decode bN_shifted 84 = .ok (.iconst 0, 1) := by decide +kernel
theorem dN_shifted_85 : decode bN_shifted 85 = .ok (.iconst 0, 1) := by decide +kernel
theorem dN_shifted_86 : decode bN_shifted 86 = .ok (.iconst 0, 1) := by decide +kernel
theorem dN_shifted_87 : decode bN_shifted 87 = .ok (.iload 4, 2) := by decide +kernel
theorem dN_shifted_89 : decode bN_shifted 89 = .ok (.iconst 1, 1) := by decide +kernel
theorem dN_shifted_90 : decode bN_shifted 90 = .ok (.if_icmp .ne 7, 3) := by decide +kernel
theorem dN_shifted_93 : decode bN_shifted 93 = .ok (.iconst 1, 1) := by decide +kernel
theorem dN_shifted_94 : decode bN_shifted 94 = .ok (.goto 4, 3) := by decide +kernel
theorem dN_shifted_97 : decode bN_shifted 97 = .ok (.iconst 0, 1) := by decide +kernel
theorem dN_shifted_98 : decode bN_shifted 98 = .ok (.invokevirtual 32, 3) := by decide +kernel
theorem dN_shifted_101 : decode bN_shifted 101 = .ok (.iload 6, 2) := by decide +kernel
theorem dN_shifted_103 : decode bN_shifted 103 = .ok (.ireturn, 1) := by decide +kernel
theorem dN_comesIn_0 : decode bN_comesIn 0 = .ok (.iload_n 1, 1) := by decide +kernel
theorem dN_comesIn_1 : decode bN_comesIn 1 = .ok (.tableswitch 51 0 5 #[39, 39, 41, 41, 51, 46], 39) := by decide +kernel
theorem dN_comesIn_40 : decode bN_comesIn 40 = .ok (.iload_n 3, 1) := by decide +kernel
theorem dN_comesIn_41 : decode bN_comesIn 41 = .ok (.ireturn, 1) := by decide +kernel
theorem dN_comesIn_42 : decode bN_comesIn 42 = .ok (.aload_n 0, 1) := by decide +kernel
theorem dN_comesIn_43 : decode bN_comesIn 43 = .ok (.invokevirtual 67, 3) := by decide +kernel
theorem dN_comesIn_46 : decode bN_comesIn 46 = .ok (.ireturn, 1) := by decide +kernel
theorem dN_comesIn_47 : decode bN_comesIn 47 = .ok (.iload_n 2, 1) := by decide +kernel
theorem dN_comesIn_48 : decode bN_comesIn 48 = .ok (.bipush 7, 2) := by decide +kernel
theorem dN_comesIn_50 : decode bN_comesIn 50 = .ok (.ishr, 1) := by decide +kernel
theorem dN_comesIn_51 : decode bN_comesIn 51 = .ok (.ireturn, 1) := by decide +kernel
theorem dN_comesIn_52 : decode bN_comesIn 52 = .ok (.iconst 0, 1) := by decide +kernel
theorem dN_comesIn_53 : decode bN_comesIn 53 = .ok (.ireturn, 1) := by decide +kernel
theorem dN_send_0 : decode bN_send 0 = .ok (.aload_n 0, 1) := by decide +kernel
theorem dN_send_1 : decode bN_send 1 = .ok (.getfield 46, 3) := by decide +kernel
theorem dN_send_4 : decode bN_send 4 = .ok (.bipush 100, 2) := by decide +kernel
theorem dN_send_6 : decode bN_send 6 = .ok (.if_icmp .ge 13, 3) := by decide +kernel
theorem dN_send_9 : decode bN_send 9 = .ok (.aload_n 0, 1) := by decide +kernel
theorem dN_send_10 : decode bN_send 10 = .ok (.getfield 15, 3) := by decide +kernel
theorem dN_send_13 : decode bN_send 13 = .ok (.aload_n 0, 1) := by decide +kernel
theorem dN_send_14 : decode bN_send 14 = .ok (.getfield 46, 3) := by decide +kernel
theorem dN_send_17 : decode bN_send 17 = .ok (.iload_n 1, 1) := by decide +kernel
theorem dN_send_18 : decode bN_send 18 = .ok (.iastore, 1) := by decide +kernel
theorem dN_send_19 : decode bN_send 19 = .ok (.aload_n 0, 1) := by decide +kernel
theorem dN_send_20 : decode bN_send 20 = .ok (.dup, 1) := by decide +kernel
theorem dN_send_21 : decode bN_send 21 = .ok (.getfield 46, 3) := by decide +kernel
theorem dN_send_24 : decode bN_send 24 = .ok (.iconst 1, 1) := by decide +kernel
theorem dN_send_25 : decode bN_send 25 = .ok (.iadd, 1) := by decide +kernel
theorem dN_send_26 : decode bN_send 26 = .ok (.putfield 46, 3) := by decide +kernel
theorem dN_send_29 : decode bN_send 29 = .ok (.return_, 1) := by decide +kernel
theorem dN_endAs_0 : decode bN_endAs 0 = .ok (.aload_n 0, 1) := by decide +kernel
theorem dN_endAs_1 : decode bN_endAs 1 = .ok (.iload_n 1, 1) := by decide +kernel
theorem dN_endAs_2 : decode bN_endAs 2 = .ok (.putfield 43, 3) := by decide +kernel
theorem dN_endAs_5 : decode bN_endAs 5 = .ok (.aload_n 0, 1) := by decide +kernel
theorem dN_endAs_6 : decode bN_endAs 6 = .ok (.aload_n 0, 1) := by decide +kernel
theorem dN_endAs_7 : decode bN_endAs 7 = .ok (.getfield 29, 3) := by decide +kernel
theorem dN_endAs_10 : decode bN_endAs 10 = .ok (.iconst 1, 1) := by decide +kernel
theorem dN_endAs_11 : decode bN_endAs 11 = .ok (.isub, 1) := by decide +kernel
theorem dN_endAs_12 : decode bN_endAs 12 = .ok (.sipush 255, 3) := by decide +kernel
theorem dN_endAs_15 : decode bN_endAs 15 = .ok (.iand, 1) := by decide +kernel
theorem dN_endAs_16 : decode bN_endAs 16 = .ok (.putfield 29, 3) := by decide +kernel
theorem dN_endAs_19 : decode bN_endAs 19 = .ok (.return_, 1) := by decide +kernel
theorem dN_next_0 : decode bN_next 0 = .ok (.aload_n 0, 1) := by decide +kernel
theorem dN_next_1 : decode bN_next 1 = .ok (.getfield 18, 3) := by decide +kernel
theorem dN_next_4 : decode bN_next 4 = .ok (.aload_n 0, 1) := by decide +kernel
theorem dN_next_5 : decode bN_next 5 = .ok (.getfield 29, 3) := by decide +kernel
theorem dN_next_8 : decode bN_next 8 = .ok (.invokevirtual 160, 3) := by decide +kernel
theorem dN_next_11 : decode bN_next 11 = .ok (.istore_n 1, 1) := by decide +kernel
theorem dN_next_12 : decode bN_next 12 = .ok (.aload_n 0, 1) := by decide +kernel
theorem dN_next_13 : decode bN_next 13 = .ok (.aload_n 0, 1) := by decide +kernel
theorem dN_next_14 : decode bN_next 14 = .ok (.getfield 29, 3) := by decide +kernel
theorem dN_next_17 : decode bN_next 17 = .ok (.iconst 1, 1) := by decide +kernel
theorem dN_next_18 : decode bN_next 18 = .ok (.iadd, 1) := by decide +kernel
theorem dN_next_19 : decode bN_next 19 = .ok (.sipush 255, 3) := by decide +kernel
theorem dN_next_22 : decode bN_next 22 = .ok (.iand, 1) := by decide +kernel
theorem dN_next_23 : decode bN_next 23 = .ok (.putfield 29, 3) := by decide +kernel
theorem dN_next_26 : decode bN_next 26 = .ok (.iload_n 1, 1) := by decide +kernel
theorem dN_next_27 : decode bN_next 27 = .ok (.ireturn, 1) := by decide +kernel
theorem dN_push_0 : decode bN_push 0 = .ok (.aload_n 0, 1) := by decide +kernel
theorem dN_push_1 : decode bN_push 1 = .ok (.aload_n 0, 1) := by decide +kernel
theorem dN_push_2 : decode bN_push 2 = .ok (.getfield 25, 3) := by decide +kernel
theorem dN_push_5 : decode bN_push 5 = .ok (.iconst 1, 1) := by decide +kernel
theorem dN_push_6 : decode bN_push 6 = .ok (.isub, 1) := by decide +kernel
theorem dN_push_7 : decode bN_push 7 = .ok (.sipush 255, 3) := by decide +kernel
theorem dN_push_10 : decode bN_push 10 = .ok (.iand, 1) := by decide +kernel
theorem dN_push_11 : decode bN_push 11 = .ok (.putfield 25, 3) := by decide +kernel
theorem dN_push_14 : decode bN_push 14 = .ok (.aload_n 0, 1) := by decide +kernel
theorem dN_push_15 : decode bN_push 15 = .ok (.getfield 18, 3) := by decide +kernel
theorem dN_push_18 : decode bN_push 18 = .ok (.aload_n 0, 1) := by decide +kernel
theorem dN_push_19 : decode bN_push 19 = .ok (.getfield 25, 3) := by decide +kernel
theorem dN_push_22 : decode bN_push 22 = .ok (.iload_n 1, 1) := by decide +kernel
theorem dN_push_23 : decode bN_push 23 = .ok (.invokevirtual 163, 3) := by decide +kernel
theorem dN_push_26 : decode bN_push 26 = .ok (.return_, 1) := by decide +kernel
theorem dN_pull_0 : decode bN_pull 0 = .ok (.aload_n 0, 1) := by decide +kernel
theorem dN_pull_1 : decode bN_pull 1 = .ok (.getfield 18, 3) := by decide +kernel
theorem dN_pull_4 : decode bN_pull 4 = .ok (.aload_n 0, 1) := by decide +kernel
theorem dN_pull_5 : decode bN_pull 5 = .ok (.getfield 25, 3) := by decide +kernel
theorem dN_pull_8 : decode bN_pull 8 = .ok (.invokevirtual 160, 3) := by decide +kernel
theorem dN_pull_11 : decode bN_pull 11 = .ok (.istore_n 1, 1) := by decide +kernel
theorem dN_pull_12 : decode bN_pull 12 = .ok (.aload_n 0, 1) := by decide +kernel
theorem dN_pull_13 : decode bN_pull 13 = .ok (.aload_n 0, 1) := by decide +kernel
theorem dN_pull_14 : decode bN_pull 14 = .ok (.getfield 25, 3) := by decide +kernel
theorem dN_pull_17 : decode bN_pull 17 = .ok (.iconst 1, 1) := by decide +kernel
theorem dN_pull_18 : decode bN_pull 18 = .ok (.iadd, 1) := by decide +kernel
theorem dN_pull_19 : decode bN_pull 19 = .ok (.sipush 255, 3) := by decide +kernel
theorem dN_pull_22 : decode bN_pull 22 = .ok (.iand, 1) := by decide +kernel
theorem dN_pull_23 : decode bN_pull 23 = .ok (.putfield 25, 3) := by decide +kernel
theorem dN_pull_26 : decode bN_pull 26 = .ok (.iload_n 1, 1) := by decide +kernel
theorem dN_pull_27 : decode bN_pull 27 = .ok (.ireturn, 1) := by decide +kernel
theorem dN_get_0 : decode bN_get 0 = .ok (.iload_n 1, 1) := by decide +kernel
theorem dN_get_1 : decode bN_get 1 = .ok (.bipush 6, 2) := by decide +kernel
theorem dN_get_3 : decode bN_get 3 = .ok (.if_icmp .ne 19, 3) := by decide +kernel
theorem dN_get_6 : decode bN_get 6 = .ok (.aload_n 0, 1) := by decide +kernel
theorem dN_get_7 : decode bN_get 7 = .ok (.getfield 18, 3) := by decide +kernel
theorem dN_get_10 : decode bN_get 10 = .ok (.aload_n 0, 1) := by decide +kernel
theorem dN_get_11 : decode bN_get 11 = .ok (.getfield 9, 3) := by decide +kernel
theorem dN_get_14 : decode bN_get 14 = .ok (.iconst 5, 1) := by decide +kernel
theorem dN_get_15 : decode bN_get 15 = .ok (.iaload, 1) := by decide +kernel
theorem dN_get_16 : decode bN_get 16 = .ok (.invokevirtual 160, 3) := by decide +kernel
theorem dN_get_19 : decode bN_get 19 = .ok (.goto 9, 3) := by decide +kernel
theorem dN_get_22 : decode bN_get 22 = .ok (.aload_n 0, 1) := by decide +kernel
theorem dN_get_23 : decode bN_get 23 = .ok (.getfield 9, 3) := by decide +kernel
theorem dN_get_26 : decode bN_get 26 = .ok (.iload_n 1, 1) := by decide +kernel
theorem dN_get_27 : decode bN_get 27 = .ok (.iaload, 1) := by decide +kernel
theorem dN_get_28 : decode bN_get 28 = .ok (.ireturn, 1) := by decide +kernel
theorem dN_set_0 : decode bN_set 0 = .ok (.iload_n 1, 1) := by decide +kernel
theorem dN_set_1 : decode bN_set 1 = .ok (.bipush 6, 2) := by decide +kernel
theorem dN_set_3 : decode bN_set 3 = .ok (.if_icmp .ne 20, 3) := by decide +kernel
theorem dN_set_6 : decode bN_set 6 = .ok (.aload_n 0, 1) := by decide +kernel
theorem dN_set_7 : decode bN_set 7 = .ok (.getfield 18, 3) := by decide +kernel
theorem dN_set_10 : decode bN_set 10 = .ok (.aload_n 0, 1) := by decide +kernel
theorem dN_set_11 : decode bN_set 11 = .ok (.getfield 9, 3) := by decide +kernel
theorem dN_set_14 : decode bN_set 14 = .ok (.iconst 5, 1) := by decide +kernel
theorem dN_set_15 : decode bN_set 15 = .ok (.iaload, 1) := by decide +kernel
theorem dN_set_16 : decode bN_set 16 = .ok (.iload_n 2, 1) := by decide +kernel
theorem dN_set_17 : decode bN_set 17 = .ok (.invokevirtual 163, 3) := by decide +kernel
theorem dN_set_20 : decode bN_set 20 = .ok (.goto 10, 3) := by decide +kernel
theorem dN_set_23 : decode bN_set 23 = .ok (.aload_n 0, 1) := by decide +kernel
theorem dN_set_24 : decode bN_set 24 = .ok (.getfield 9, 3) := by decide +kernel
theorem dN_set_27 : decode bN_set 27 = .ok (.iload_n 1, 1) := by decide +kernel
theorem dN_set_28 : decode bN_set 28 = .ok (.iload_n 2, 1) := by decide +kernel
theorem dN_set_29 : decode bN_set 29 = .ok (.iastore, 1) := by decide +kernel
theorem dN_set_30 : decode bN_set 30 = .ok (.return_, 1) := by decide +kernel
theorem dN_carryBit_0 : decode bN_carryBit 0 = .ok (.aload_n 0, 1) := by decide +kernel
theorem dN_carryBit_1 : decode bN_carryBit 1 = .ok (.getfield 128, 3) := by decide +kernel
theorem dN_carryBit_4 : decode bN_carryBit 4 = .ok (.ifCond .eq 7, 3) := by decide +kernel
theorem dN_carryBit_7 : decode bN_carryBit 7 = .ok (.iconst 1, 1) := by decide +kernel
theorem dN_carryBit_8 : decode bN_carryBit 8 = .ok (.goto 4, 3) := by decide +kernel
theorem dN_carryBit_11 : decode bN_carryBit 11 = .ok (.iconst 0, 1) := by decide +kernel
theorem dN_carryBit_12 : decode bN_carryBit 12 = .ok (.ireturn, 1) := by decide +kernel
theorem dN_setFlags_0 : decode bN_setFlags 0 = .ok (.aload_n 0, 1) := by decide +kernel
theorem dN_setFlags_1 : decode bN_setFlags 1 = .ok (.iload_n 1, 1) := by decide +kernel
theorem dN_setFlags_2 : decode bN_setFlags 2 = .ok (.putfield 58, 3) := by decide +kernel
theorem dN_setFlags_5 : decode bN_setFlags 5 = .ok (.aload_n 0, 1) := by decide +kernel
theorem dN_setFlags_6 : decode bN_setFlags 6 = .ok (.iload_n 2, 1) := by decide +kernel
theorem dN_setFlags_7 : decode bN_setFlags 7 = .ok (.putfield 61, 3) := by decide +kernel
theorem dN_setFlags_10 : decode bN_setFlags 10 = .ok (.aload_n 0, 1) := by decide +kernel
theorem dN_setFlags_11 : decode bN_setFlags 11 = .ok (.iload_n 3, 1) := by decide +kernel
theorem dN_setFlags_12 : decode bN_setFlags 12 = .ok (.putfield 64, 3) := by decide +kernel
theorem dN_setFlags_15 : decode bN_setFlags 15 = .ok (.aload_n 0, 1) := by decide +kernel
theorem dN_setFlags_16 : decode bN_setFlags 16 = .ok (.iload 4, 2) := by decide +kernel
theorem dN_setFlags_18 : decode bN_setFlags 18 = .ok (.putfield 128, 3) := by decide +kernel
theorem dN_setFlags_21 : decode bN_setFlags 21 = .ok (.return_, 1) := by decide +kernel
theorem dM_init_0 : decode bM_init 0 = .ok (.aload_n 0, 1) := by decide +kernel
theorem dM_init_1 : decode bM_init 1 = .ok (.invokespecial 3, 3) := by decide +kernel
theorem dM_init_4 : decode bM_init 4 = .ok (.aload_n 0, 1) := by decide +kernel
theorem dM_init_5 : decode bM_init 5 = .ok (.sipush 128, 3) := by decide +kernel
theorem dM_init_8 : decode bM_init 8 = .ok (.newarray .int, 2) := by decide +kernel
theorem dM_init_10 : decode bM_init 10 = .ok (.putfield 9, 3) := by decide +kernel
theorem dM_init_13 : decode bM_init 13 = .ok (.aload_n 0, 1) := by decide +kernel
theorem dM_init_14 : decode bM_init 14 = .ok (.bipush 62, 2) := by decide +kernel
theorem dM_init_16 : decode bM_init 16 = .ok (.newarray .int, 2) := by decide +kernel
theorem dM_init_18 : decode bM_init 18 = .ok (.putfield 15, 3) := by decide +kernel
theorem dM_init_21 : decode bM_init 21 = .ok (.aload_n 0, 1) := by decide +kernel
theorem dM_init_22 : decode bM_init 22 = .ok (.aload_n 1, 1) := by decide +kernel
theorem dM_init_23 : decode bM_init 23 = .ok (.putfield 18, 3) := by decide +kernel
theorem dM_init_26 : decode bM_init 26 = .ok (.return_, 1) := by decide +kernel
theorem dM_begin_0 : decode bM_begin 0 = .ok (.iconst 0, 1) := by decide +kernel
theorem dM_begin_1 : decode bM_begin 1 = .ok (.istore_n 1, 1) := by decide +kernel
theorem dM_begin_2 : decode bM_begin 2 = .ok (.iload_n 1, 1) := by decide +kernel
theorem dM_begin_3 : decode bM_begin 3 = .ok (.aload_n 0, 1) := by decide +kernel
theorem dM_begin_4 : decode bM_begin 4 = .ok (.getfield 9, 3) := by decide +kernel
theorem dM_begin_7 : decode bM_begin 7 = .ok (.arraylength, 1) := by decide +kernel
theorem dM_begin_8 : decode bM_begin 8 = .ok (.if_icmp .ge 16, 3) := by decide +kernel
theorem dM_begin_11 : decode bM_begin 11 = .ok (.aload_n 0, 1) := by decide +kernel
theorem dM_begin_12 : decode bM_begin 12 = .ok (.getfield 9, 3) := by decide +kernel
theorem dM_begin_15 : decode bM_begin 15 = .ok (.iload_n 1, 1) := by decide +kernel
theorem dM_begin_16 : decode bM_begin 16 = .ok (.iconst 0, 1) := by decide +kernel
theorem dM_begin_17 : decode bM_begin 17 = .ok (.iastore, 1) := by decide +kernel
theorem dM_begin_18 : decode bM_begin 18 = .ok (.iinc 1 1, 3) := by decide +kernel
theorem dM_begin_21 : decode bM_begin 21 = .ok (.goto (-19), 3) := by decide +kernel
theorem dM_begin_24 : decode bM_begin 24 = .ok (.iconst 0, 1) := by decide +kernel
theorem dM_begin_25 : decode bM_begin 25 = .ok (.istore_n 1, 1) := by decide +kernel
theorem dM_begin_26 : decode bM_begin 26 = .ok (.iload_n 1, 1) := by decide +kernel
theorem dM_begin_27 : decode bM_begin 27 = .ok (.aload_n 0, 1) := by decide +kernel
theorem dM_begin_28 : decode bM_begin 28 = .ok (.getfield 15, 3) := by decide +kernel
theorem dM_begin_31 : decode bM_begin 31 = .ok (.arraylength, 1) := by decide +kernel
theorem dM_begin_32 : decode bM_begin 32 = .ok (.if_icmp .ge 16, 3) := by decide +kernel
theorem dM_begin_35 : decode bM_begin 35 = .ok (.aload_n 0, 1) := by decide +kernel
theorem dM_begin_36 : decode bM_begin 36 = .ok (.getfield 15, 3) := by decide +kernel
theorem dM_begin_39 : decode bM_begin 39 = .ok (.iload_n 1, 1) := by decide +kernel
theorem dM_begin_40 : decode bM_begin 40 = .ok (.iconst 0, 1) := by decide +kernel
theorem dM_begin_41 : decode bM_begin 41 = .ok (.iastore, 1) := by decide +kernel
theorem dM_begin_42 : decode bM_begin 42 = .ok (.iinc 1 1, 3) := by decide +kernel
theorem dM_begin_45 : decode bM_begin 45 = .ok (.goto (-19), 3) := by decide +kernel
theorem dM_begin_48 : decode bM_begin 48 = .ok (.aload_n 0, 1) := by decide +kernel
theorem dM_begin_49 : decode bM_begin 49 = .ok (.iconst 0, 1) := by decide +kernel
theorem dM_begin_50 : decode bM_begin 50 = .ok (.putfield 22, 3) := by decide +kernel
theorem dM_begin_53 : decode bM_begin 53 = .ok (.aload_n 0, 1) := by decide +kernel
theorem dM_begin_54 : decode bM_begin 54 = .ok (.iconst 1, 1) := by decide +kernel
theorem dM_begin_55 : decode bM_begin 55 = .ok (.putfield 26, 3) := by decide +kernel
theorem dM_begin_58 : decode bM_begin 58 = .ok (.aload_n 0, 1) := by decide +kernel
theorem dM_begin_59 : decode bM_begin 59 = .ok (.iconst 0, 1) := by decide +kernel
theorem dM_begin_60 : decode bM_begin 60 = .ok (.putfield 30, 3) := by decide +kernel
theorem dM_begin_63 : decode bM_begin 63 = .ok (.aload_n 0, 1) := by decide +kernel
theorem dM_begin_64 : decode bM_begin 64 = .ok (.iconst 0, 1) := by decide +kernel
theorem dM_begin_65 : decode bM_begin 65 = .ok (.putfield 33, 3) := by decide +kernel
theorem dM_begin_68 : decode bM_begin 68 = .ok (.aload_n 0, 1) := by decide +kernel
theorem dM_begin_69 : decode bM_begin 69 = .ok (.iconst 0, 1) := by decide +kernel
theorem dM_begin_70 : decode bM_begin 70 = .ok (.putfield 36, 3) := by decide +kernel
theorem dM_begin_73 : decode bM_begin 73 = .ok (.aload_n 0, 1) := by decide +kernel
theorem dM_begin_74 : decode bM_begin 74 = .ok (.iconst 0, 1) := by decide +kernel
theorem dM_begin_75 : decode bM_begin 75 = .ok (.putfield 39, 3) := by decide +kernel
theorem dM_begin_78 : decode bM_begin 78 = .ok (.return_, 1) := by decide +kernel
theorem dM_switches_0 : decode bM_switches 0 = .ok (.aload_n 0, 1) := by decide +kernel
theorem dM_switches_1 : decode bM_switches 1 = .ok (.getfield 22, 3) := by decide +kernel
theorem dM_switches_4 : decode bM_switches 4 = .ok (.ifCond .eq 8, 3) := by decide +kernel
theorem dM_switches_7 : decode bM_switches 7 = .ok (.bipush 16, 2) := by decide +kernel
theorem dM_switches_9 : decode bM_switches 9 = .ok (.goto 4, 3) := by decide +kernel
theorem dM_switches_12 : decode bM_switches 12 = .ok (.iconst 0, 1) := by decide +kernel
theorem dM_switches_13 : decode bM_switches 13 = .ok (.iconst 4, 1) := by decide +kernel
theorem dM_switches_14 : decode bM_switches 14 = .ok (.aload_n 0, 1) := by decide +kernel
theorem dM_switches_15 : decode bM_switches 15 = .ok (.getfield 26, 3) := by decide +kernel
theorem dM_switches_18 : decode bM_switches 18 = .ok (.imul, 1) := by decide +kernel
theorem dM_switches_19 : decode bM_switches 19 = .ok (.iadd, 1) := by decide +kernel
theorem dM_switches_20 : decode bM_switches 20 = .ok (.iconst 2, 1) := by decide +kernel
theorem dM_switches_21 : decode bM_switches 21 = .ok (.aload_n 0, 1) := by decide +kernel
theorem dM_switches_22 : decode bM_switches 22 = .ok (.getfield 30, 3) := by decide +kernel
theorem dM_switches_25 : decode bM_switches 25 = .ok (.imul, 1) := by decide +kernel
theorem dM_switches_26 : decode bM_switches 26 = .ok (.iadd, 1) := by decide +kernel
theorem dM_switches_27 : decode bM_switches 27 = .ok (.aload_n 0, 1) := by decide +kernel
theorem dM_switches_28 : decode bM_switches 28 = .ok (.getfield 33, 3) := by decide +kernel
theorem dM_switches_31 : decode bM_switches 31 = .ok (.iadd, 1) := by decide +kernel
theorem dM_switches_32 : decode bM_switches 32 = .ok (.ireturn, 1) := by decide +kernel
theorem dM_askingLine_0 : decode bM_askingLine 0 = .ok (.iconst 0, 1) := by decide +kernel
theorem dM_askingLine_1 : decode bM_askingLine 1 = .ok (.istore_n 1, 1) := by decide +kernel
theorem dM_askingLine_2 : decode bM_askingLine 2 = .ok (.iload_n 1, 1) := by decide +kernel
theorem dM_askingLine_3 : decode bM_askingLine 3 = .ok (.iconst 4, 1) := by decide +kernel
theorem dM_askingLine_4 : decode bM_askingLine 4 = .ok (.if_icmp .ge 27, 3) := by decide +kernel
theorem dM_askingLine_7 : decode bM_askingLine 7 = .ok (.aload_n 0, 1) := by decide +kernel
theorem dM_askingLine_8 : decode bM_askingLine 8 = .ok (.getfield 39, 3) := by decide +kernel
theorem dM_askingLine_11 : decode bM_askingLine 11 = .ok (.aload_n 0, 1) := by decide +kernel
theorem dM_askingLine_12 : decode bM_askingLine 12 = .ok (.getfield 36, 3) := by decide +kernel
theorem dM_askingLine_15 : decode bM_askingLine 15 = .ok (.iand, 1) := by decide +kernel
theorem dM_askingLine_16 : decode bM_askingLine 16 = .ok (.iconst 1, 1) := by decide +kernel
theorem dM_askingLine_17 : decode bM_askingLine 17 = .ok (.iload_n 1, 1) := by decide +kernel
theorem dM_askingLine_18 : decode bM_askingLine 18 = .ok (.ishl, 1) := by decide +kernel
theorem dM_askingLine_19 : decode bM_askingLine 19 = .ok (.iand, 1) := by decide +kernel
theorem dM_askingLine_20 : decode bM_askingLine 20 = .ok (.ifCond .eq 5, 3) := by decide +kernel
theorem dM_askingLine_23 : decode bM_askingLine 23 = .ok (.iload_n 1, 1) := by decide +kernel
theorem dM_askingLine_24 : decode bM_askingLine 24 = .ok (.ireturn, 1) := by decide +kernel
theorem dM_askingLine_25 : decode bM_askingLine 25 = .ok (.iinc 1 1, 3) := by decide +kernel
theorem dM_askingLine_28 : decode bM_askingLine 28 = .ok (.goto (-26), 3) := by decide +kernel
theorem dM_askingLine_31 : decode bM_askingLine 31 = .ok (.iconst (-1), 1) := by decide +kernel
theorem dM_askingLine_32 : decode bM_askingLine 32 = .ok (.ireturn, 1) := by decide +kernel
theorem dM_read_0 : decode bM_read 0 = .ok (.iload_n 1, 1) := by decide +kernel
theorem dM_read_1 : decode bM_read 1 = .ok (.bipush 64, 2) := by decide +kernel
theorem dM_read_3 : decode bM_read 3 = .ok (.if_icmp .ge 30, 3) := by decide +kernel
theorem dM_read_6 : decode bM_read 6 = .ok (.aload_n 0, 1) := by decide +kernel
theorem dM_read_7 : decode bM_read 7 = .ok (.getfield 18, 3) := by decide +kernel
theorem dM_read_10 : decode bM_read 10 = .ok (.aload_n 0, 1) := by decide +kernel
theorem dM_read_11 : decode bM_read 11 = .ok (.getfield 33, 3) := by decide +kernel
theorem dM_read_14 : decode bM_read 14 = .ok (.iconst 1, 1) := by decide +kernel
theorem dM_read_15 : decode bM_read 15 = .ok (.if_icmp .ne 12, 3) := by decide +kernel
theorem dM_read_18 : decode bM_read 18 = .ok (.iconst 4, 1) := by decide +kernel
theorem dM_read_19 : decode bM_read 19 = .ok (.aload_n 0, 1) := by decide +kernel
theorem dM_read_20 : decode bM_read 20 = .ok (.getfield 30, 3) := by decide +kernel
theorem dM_read_23 : decode bM_read 23 = .ok (.imul, 1) := by decide +kernel
theorem dM_read_24 : decode bM_read 24 = .ok (.goto 4, 3) := by decide +kernel
theorem dM_read_27 : decode bM_read 27 = .ok (.iconst 0, 1) := by decide +kernel
theorem dM_read_28 : decode bM_read 28 = .ok (.iload_n 1, 1) := by decide +kernel
theorem dM_read_29 : decode bM_read 29 = .ok (.invokevirtual 42, 3) := by decide +kernel
theorem dM_read_32 : decode bM_read 32 = .ok (.ireturn, 1) := by decide +kernel
theorem dM_read_33 : decode bM_read 33 = .ok (.iload_n 1, 1) := by decide +kernel
theorem dM_read_34 : decode bM_read 34 = .ok (.sipush 128, 3) := by decide +kernel
theorem dM_read_37 : decode bM_read 37 = .ok (.if_icmp .ge 26, 3) := by decide +kernel
theorem dM_read_40 : decode bM_read 40 = .ok (.aload_n 0, 1) := by decide +kernel
theorem dM_read_41 : decode bM_read 41 = .ok (.getfield 18, 3) := by decide +kernel
theorem dM_read_44 : decode bM_read 44 = .ok (.iconst 4, 1) := by decide +kernel
theorem dM_read_45 : decode bM_read 45 = .ok (.aload_n 0, 1) := by decide +kernel
theorem dM_read_46 : decode bM_read 46 = .ok (.getfield 30, 3) := by decide +kernel
theorem dM_read_49 : decode bM_read 49 = .ok (.imul, 1) := by decide +kernel
theorem dM_read_50 : decode bM_read 50 = .ok (.aload_n 0, 1) := by decide +kernel
theorem dM_read_51 : decode bM_read 51 = .ok (.getfield 26, 3) := by decide +kernel
theorem dM_read_54 : decode bM_read 54 = .ok (.iadd, 1) := by decide +kernel
theorem dM_read_55 : decode bM_read 55 = .ok (.iload_n 1, 1) := by decide +kernel
theorem dM_read_56 : decode bM_read 56 = .ok (.bipush 64, 2) := by decide +kernel
theorem dM_read_58 : decode bM_read 58 = .ok (.isub, 1) := by decide +kernel
theorem dM_read_59 : decode bM_read 59 = .ok (.invokevirtual 42, 3) := by decide +kernel
theorem dM_read_62 : decode bM_read 62 = .ok (.ireturn, 1) := by decide +kernel
theorem dM_read_63 : decode bM_read 63 = .ok (.iload_n 1, 1) := by decide +kernel
theorem dM_read_64 : decode bM_read 64 = .ok (.sipush 192, 3) := by decide +kernel
theorem dM_read_67 : decode bM_read 67 = .ok (.if_icmp .ge 27, 3) := by decide +kernel
theorem dM_read_70 : decode bM_read 70 = .ok (.aload_n 0, 1) := by decide +kernel
theorem dM_read_71 : decode bM_read 71 = .ok (.getfield 22, 3) := by decide +kernel
theorem dM_read_74 : decode bM_read 74 = .ok (.ifCond .eq 16, 3) := by decide +kernel
theorem dM_read_77 : decode bM_read 77 = .ok (.aload_n 0, 1) := by decide +kernel
theorem dM_read_78 : decode bM_read 78 = .ok (.getfield 9, 3) := by decide +kernel
theorem dM_read_81 : decode bM_read 81 = .ok (.aload_n 0, 1) := by decide +kernel
theorem dM_read_82 : decode bM_read 82 = .ok (.iload_n 1, 1) := by decide +kernel
theorem dM_read_83 : decode bM_read 83 = .ok (.invokevirtual 48, 3) := by decide +kernel
theorem dM_read_86 : decode bM_read 86 = .ok (.iaload, 1) := by decide +kernel
theorem dM_read_87 : decode bM_read 87 = .ok (.goto 6, 3) := by decide +kernel
theorem dM_read_90 : decode bM_read 90 = .ok (.sipush 255, 3) := by decide +kernel
theorem dM_read_93 : decode bM_read 93 = .ok (.ireturn, 1) := by decide +kernel
theorem dM_read_94 : decode bM_read 94 = .ok (.iload_n 1, 1) := by decide +kernel
theorem dM_read_95 : decode bM_read 95 = .ok (.sipush 254, 3) := by decide +kernel
theorem dM_read_98 : decode bM_read 98 = .ok (.if_icmp .ge 14, 3) := by decide +kernel
theorem dM_read_101 : decode bM_read 101 = .ok (.aload_n 0, 1) := by decide +kernel
theorem dM_read_102 : decode bM_read 102 = .ok (.getfield 15, 3) := by decide +kernel
theorem dM_read_105 : decode bM_read 105 = .ok (.iload_n 1, 1) := by decide +kernel
theorem dM_read_106 : decode bM_read 106 = .ok (.sipush 192, 3) := by decide +kernel
theorem dM_read_109 : decode bM_read 109 = .ok (.isub, 1) := by decide +kernel
theorem dM_read_110 : decode bM_read 110 = .ok (.iaload, 1) := by decide +kernel
theorem dM_read_111 : decode bM_read 111 = .ok (.ireturn, 1) := by decide +kernel
theorem dM_read_112 : decode bM_read 112 = .ok (.iload_n 1, 1) := by decide +kernel
theorem dM_read_113 : decode bM_read 113 = .ok (.sipush 254, 3) := by decide +kernel
theorem dM_read_116 : decode bM_read 116 = .ok (.if_icmp .ne 10, 3) := by decide +kernel
theorem dM_read_119 : decode bM_read 119 = .ok (.aload_n 0, 1) := by decide +kernel
theorem dM_read_120 : decode bM_read 120 = .ok (.getfield 36, 3) := by decide +kernel
theorem dM_read_123 : decode bM_read 123 = .ok (.goto 7, 3) := by decide +kernel
theorem dM_read_126 : decode bM_read 126 = .ok (.aload_n 0, 1) := by decide +kernel
theorem dM_read_127 : decode bM_read 127 = .ok (.getfield 39, 3) := by decide +kernel
theorem dM_read_130 : decode bM_read 130 = .ok (.ireturn, 1) := by decide +kernel
theorem dM_write_0 : decode bM_write 0 = .ok (.iload_n 1, 1) := by decide +kernel
theorem dM_write_1 : decode bM_write 1 = .ok (.sipush 128, 3) := by decide +kernel
theorem dM_write_4 : decode bM_write 4 = .ok (.if_icmp .ge 15, 3) := by decide +kernel
theorem dM_write_7 : decode bM_write 7 = .ok (.aload_n 0, 1) := by decide +kernel
theorem dM_write_8 : decode bM_write 8 = .ok (.iload_n 1, 1) := by decide +kernel
theorem dM_write_9 : decode bM_write 9 = .ok (.bipush 32, 2) := by decide +kernel
theorem dM_write_11 : decode bM_write 11 = .ok (.idiv, 1) := by decide +kernel
theorem dM_write_12 : decode bM_write 12 = .ok (.iload_n 2, 1) := by decide +kernel
theorem dM_write_13 : decode bM_write 13 = .ok (.invokevirtual 52, 3) := by decide +kernel
theorem dM_write_16 : decode bM_write 16 = .ok (.goto 78, 3) := by decide +kernel
theorem dM_write_19 : decode bM_write 19 = .ok (.iload_n 1, 1) := by decide +kernel
theorem dM_write_20 : decode bM_write 20 = .ok (.sipush 192, 3) := by decide +kernel
theorem dM_write_23 : decode bM_write 23 = .ok (.if_icmp .ge 24, 3) := by decide +kernel
theorem dM_write_26 : decode bM_write 26 = .ok (.aload_n 0, 1) := by decide +kernel
theorem dM_write_27 : decode bM_write 27 = .ok (.getfield 22, 3) := by decide +kernel
theorem dM_write_30 : decode bM_write 30 = .ok (.ifCond .eq 64, 3) := by decide +kernel
theorem dM_write_33 : decode bM_write 33 = .ok (.aload_n 0, 1) := by decide +kernel
theorem dM_write_34 : decode bM_write 34 = .ok (.getfield 9, 3) := by decide +kernel
theorem dM_write_37 : decode bM_write 37 = .ok (.aload_n 0, 1) := by decide +kernel
theorem dM_write_38 : decode bM_write 38 = .ok (.iload_n 1, 1) := by decide +kernel
theorem dM_write_39 : decode bM_write 39 = .ok (.invokevirtual 48, 3) := by decide +kernel
theorem dM_write_42 : decode bM_write 42 = .ok (.iload_n 2, 1) := by decide +kernel
theorem dM_write_43 : decode bM_write 43 = .ok (.iastore, 1) := by decide +kernel
theorem dM_write_44 : decode bM_write 44 = .ok (.goto 50, 3) := by decide +kernel
theorem dM_write_47 : decode bM_write 47 = .ok (.iload_n 1, 1) := by decide +kernel
theorem dM_write_48 : decode bM_write 48 = .ok (.sipush 254, 3) := by decide +kernel
theorem dM_write_51 : decode bM_write 51 = .ok (.if_icmp .ge 17, 3) := by decide +kernel
theorem dM_write_54 : decode bM_write 54 = .ok (.aload_n 0, 1) := by decide +kernel
theorem dM_write_55 : decode bM_write 55 = .ok (.getfield 15, 3) := by decide +kernel
theorem dM_write_58 : decode bM_write 58 = .ok (.iload_n 1, 1) := by decide +kernel
theorem dM_write_59 : decode bM_write 59 = .ok (.sipush 192, 3) := by decide +kernel
theorem dM_write_62 : decode bM_write 62 = .ok (.isub, 1) := by decide +kernel
theorem dM_write_63 : decode bM_write 63 = .ok (.iload_n 2, 1) := by decide +kernel
theorem dM_write_64 : decode bM_write 64 = .ok (.iastore, 1) := by decide +kernel
theorem dM_write_65 : decode bM_write 65 = .ok (.goto 29, 3) := by decide +kernel
theorem dM_write_68 : decode bM_write 68 = .ok (.iload_n 1, 1) := by decide +kernel
theorem dM_write_69 : decode bM_write 69 = .ok (.sipush 254, 3) := by decide +kernel
theorem dM_write_72 : decode bM_write 72 = .ok (.if_icmp .ne 14, 3) := by decide +kernel
theorem dM_write_75 : decode bM_write 75 = .ok (.aload_n 0, 1) := by decide +kernel
theorem dM_write_76 : decode bM_write 76 = .ok (.iload_n 2, 1) := by decide +kernel
theorem dM_write_77 : decode bM_write 77 = .ok (.bipush 15, 2) := by decide +kernel
theorem dM_write_79 : decode bM_write 79 = .ok (.iand, 1) := by decide +kernel
theorem dM_write_80 : decode bM_write 80 = .ok (.putfield 36, 3) := by decide +kernel
theorem dM_write_83 : decode bM_write 83 = .ok (.goto 11, 3) := by decide +kernel
theorem dM_write_86 : decode bM_write 86 = .ok (.aload_n 0, 1) := by decide +kernel
theorem dM_write_87 : decode bM_write 87 = .ok (.iload_n 2, 1) := by decide +kernel
theorem dM_write_88 : decode bM_write 88 = .ok (.bipush 15, 2) := by decide +kernel
theorem dM_write_90 : decode bM_write 90 = .ok (.iand, 1) := by decide +kernel
theorem dM_write_91 : decode bM_write 91 = .ok (.putfield 39, 3) := by decide +kernel
theorem dM_write_94 : decode bM_write 94 = .ok (.return_, 1) := by decide +kernel
theorem dM_ramPlace_0 : decode bM_ramPlace 0 = .ok (.aload_n 0, 1) := by decide +kernel
theorem dM_ramPlace_1 : decode bM_ramPlace 1 = .ok (.getfield 33, 3) := by decide +kernel
theorem dM_ramPlace_4 : decode bM_ramPlace 4 = .ok (.iconst 1, 1) := by decide +kernel
theorem dM_ramPlace_5 : decode bM_ramPlace 5 = .ok (.if_icmp .ne 13, 3) := by decide +kernel
theorem dM_ramPlace_8 : decode bM_ramPlace 8 = .ok (.aload_n 0, 1) := by decide +kernel
theorem dM_ramPlace_9 : decode bM_ramPlace 9 = .ok (.getfield 30, 3) := by decide +kernel
theorem dM_ramPlace_12 : decode bM_ramPlace 12 = .ok (.bipush 64, 2) := by decide +kernel
theorem dM_ramPlace_14 : decode bM_ramPlace 14 = .ok (.imul, 1) := by decide +kernel
theorem dM_ramPlace_15 : decode bM_ramPlace 15 = .ok (.goto 4, 3) := by decide +kernel
theorem dM_ramPlace_18 : decode bM_ramPlace 18 = .ok (.iconst 0, 1) := by decide +kernel
theorem dM_ramPlace_19 : decode bM_ramPlace 19 = .ok (.iload_n 1, 1) := by decide +kernel
theorem dM_ramPlace_20 : decode bM_ramPlace 20 = .ok (.iadd, 1) := by decide +kernel
theorem dM_ramPlace_21 : decode bM_ramPlace 21 = .ok (.sipush 128, 3) := by decide +kernel
theorem dM_ramPlace_24 : decode bM_ramPlace 24 = .ok (.isub, 1) := by decide +kernel
theorem dM_ramPlace_25 : decode bM_ramPlace 25 = .ok (.ireturn, 1) := by decide +kernel
theorem dM_turnSwitch_0 : decode bM_turnSwitch 0 = .ok (.iload_n 1, 1) := by decide +kernel
theorem dM_turnSwitch_1 : decode bM_turnSwitch 1 = .ok (.tableswitch 78 0 2 #[27, 48, 68], 27) := by decide +kernel
theorem dM_turnSwitch_28 : decode bM_turnSwitch 28 = .ok (.aload_n 0, 1) := by decide +kernel
theorem dM_turnSwitch_29 : decode bM_turnSwitch 29 = .ok (.iload_n 2, 1) := by decide +kernel
theorem dM_turnSwitch_30 : decode bM_turnSwitch 30 = .ok (.bipush 15, 2) := by decide +kernel
theorem dM_turnSwitch_32 : decode bM_turnSwitch 32 = .ok (.iand, 1) := by decide +kernel
theorem dM_turnSwitch_33 : decode bM_turnSwitch 33 = .ok (.bipush 10, 2) := by decide +kernel
theorem dM_turnSwitch_35 : decode bM_turnSwitch 35 = .ok (.if_icmp .ne 7, 3) := by decide +kernel
theorem dM_turnSwitch_38 : decode bM_turnSwitch 38 = .ok (.iconst 1, 1) := by decide +kernel
theorem dM_turnSwitch_39 : decode bM_turnSwitch 39 = .ok (.goto 4, 3) := by decide +kernel
theorem dM_turnSwitch_42 : decode bM_turnSwitch 42 = .ok (.iconst 0, 1) := by decide +kernel
theorem dM_turnSwitch_43 : decode bM_turnSwitch 43 = .ok (.putfield 22, 3) := by decide +kernel
theorem dM_turnSwitch_46 : decode bM_turnSwitch 46 = .ok (.goto 40, 3) := by decide +kernel
theorem dM_turnSwitch_49 : decode bM_turnSwitch 49 = .ok (.aload_n 0, 1) := by decide +kernel
theorem dM_turnSwitch_50 : decode bM_turnSwitch 50 = .ok (.iload_n 2, 1) := by decide +kernel
theorem dM_turnSwitch_51 : decode bM_turnSwitch 51 = .ok (.iconst 3, 1) := by decide +kernel
theorem dM_turnSwitch_52 : decode bM_turnSwitch 52 = .ok (.iand, 1) := by decide +kernel
theorem dM_turnSwitch_53 : decode bM_turnSwitch 53 = .ok (.ifCond .ne 7, 3) := by decide +kernel
theorem dM_turnSwitch_56 : decode bM_turnSwitch 56 = .ok (.iconst 1, 1) := by decide +kernel
theorem dM_turnSwitch_57 : decode bM_turnSwitch 57 = .ok (.goto 6, 3) := by decide +kernel
theorem dM_turnSwitch_60 : decode bM_turnSwitch 60 = .ok (.iload_n 2, 1) := by decide +kernel
theorem dM_turnSwitch_61 : decode bM_turnSwitch 61 = .ok (.iconst 3, 1) := by decide +kernel
theorem dM_turnSwitch_62 : decode bM_turnSwitch 62 = .ok (.iand, 1) := by decide +kernel
theorem dM_turnSwitch_63 : decode bM_turnSwitch 63 = .ok (.putfield 26, 3) := by decide +kernel
theorem dM_turnSwitch_66 : decode bM_turnSwitch 66 = .ok (.goto 20, 3) := by decide +kernel
theorem dM_turnSwitch_69 : decode bM_turnSwitch 69 = .ok (.aload_n 0, 1) := by decide +kernel
theorem dM_turnSwitch_70 : decode bM_turnSwitch 70 = .ok (.iload_n 2, 1) := by decide +kernel
theorem dM_turnSwitch_71 : decode bM_turnSwitch 71 = .ok (.iconst 1, 1) := by decide +kernel
theorem dM_turnSwitch_72 : decode bM_turnSwitch 72 = .ok (.iand, 1) := by decide +kernel
theorem dM_turnSwitch_73 : decode bM_turnSwitch 73 = .ok (.putfield 30, 3) := by decide +kernel
theorem dM_turnSwitch_76 : decode bM_turnSwitch 76 = .ok (.goto 10, 3) := by decide +kernel
theorem dM_turnSwitch_79 : decode bM_turnSwitch 79 = .ok (.aload_n 0, 1) := by decide +kernel
theorem dM_turnSwitch_80 : decode bM_turnSwitch 80 = .ok (.iload_n 2, 1) := by decide +kernel
theorem dM_turnSwitch_81 : decode bM_turnSwitch 81 = .ok (.iconst 1, 1) := by decide +kernel
theorem dM_turnSwitch_82 : decode bM_turnSwitch 82 = .ok (.iand, 1) := by decide +kernel
theorem dM_turnSwitch_83 : decode bM_turnSwitch 83 = .ok (.putfield 33, 3) := by decide +kernel
theorem dM_turnSwitch_86 : decode bM_turnSwitch 86 = .ok (.return_, 1) := by decide +kernel
theorem dP_init_0 : decode bP_init 0 = .ok (.aload_n 0, 1) := by decide +kernel
theorem dP_init_1 : decode bP_init 1 = .ok (.invokespecial 3, 3) := by decide +kernel
theorem dP_init_4 : decode bP_init 4 = .ok (.aload_n 0, 1) := by decide +kernel
theorem dP_init_5 : decode bP_init 5 = .ok (.bipush 10, 2) := by decide +kernel
theorem dP_init_7 : decode bP_init 7 = .ok (.newarray .int, 2) := by decide +kernel
theorem dP_init_9 : decode bP_init 9 = .ok (.putfield 9, 3) := by decide +kernel
theorem dP_init_12 : decode bP_init 12 = .ok (.aload_n 0, 1) := by decide +kernel
theorem dP_init_13 : decode bP_init 13 = .ok (.bipush 10, 2) := by decide +kernel
theorem dP_init_15 : decode bP_init 15 = .ok (.newarray .int, 2) := by decide +kernel
theorem dP_init_17 : decode bP_init 17 = .ok (.putfield 15, 3) := by decide +kernel
theorem dP_init_20 : decode bP_init 20 = .ok (.aload_n 0, 1) := by decide +kernel
theorem dP_init_21 : decode bP_init 21 = .ok (.bipush 8, 2) := by decide +kernel
theorem dP_init_23 : decode bP_init 23 = .ok (.newarray .int, 2) := by decide +kernel
theorem dP_init_25 : decode bP_init 25 = .ok (.putfield 18, 3) := by decide +kernel
theorem dP_init_28 : decode bP_init 28 = .ok (.return_, 1) := by decide +kernel
theorem dP_pack_0 : decode bP_pack 0 = .ok (.aload_n 0, 1) := by decide +kernel
theorem dP_pack_1 : decode bP_pack 1 = .ok (.aload_n 1, 1) := by decide +kernel
theorem dP_pack_2 : decode bP_pack 2 = .ok (.getfield 21, 3) := by decide +kernel
theorem dP_pack_5 : decode bP_pack 5 = .ok (.putfield 27, 3) := by decide +kernel
theorem dP_pack_8 : decode bP_pack 8 = .ok (.iconst 0, 1) := by decide +kernel
theorem dP_pack_9 : decode bP_pack 9 = .ok (.istore_n 3, 1) := by decide +kernel
theorem dP_pack_10 : decode bP_pack 10 = .ok (.iload_n 3, 1) := by decide +kernel
theorem dP_pack_11 : decode bP_pack 11 = .ok (.bipush 8, 2) := by decide +kernel
theorem dP_pack_13 : decode bP_pack 13 = .ok (.if_icmp .ge 25, 3) := by decide +kernel
theorem dP_pack_16 : decode bP_pack 16 = .ok (.aload_n 0, 1) := by decide +kernel
theorem dP_pack_17 : decode bP_pack 17 = .ok (.getfield 18, 3) := by decide +kernel
theorem dP_pack_20 : decode bP_pack 20 = .ok (.iload_n 3, 1) := by decide +kernel
theorem dP_pack_21 : decode bP_pack 21 = .ok (.iload_n 3, 1) := by decide +kernel
theorem dP_pack_22 : decode bP_pack 22 = .ok (.ifCond .ne 8, 3) := by decide +kernel
theorem dP_pack_25 : decode bP_pack 25 = .ok (.bipush 32, 2) := by decide +kernel
theorem dP_pack_27 : decode bP_pack 27 = .ok (.goto 4, 3) := by decide +kernel
theorem dP_pack_30 : decode bP_pack 30 = .ok (.iconst 0, 1) := by decide +kernel
theorem dP_pack_31 : decode bP_pack 31 = .ok (.iastore, 1) := by decide +kernel
theorem dP_pack_32 : decode bP_pack 32 = .ok (.iinc 3 1, 3) := by decide +kernel
theorem dP_pack_35 : decode bP_pack 35 = .ok (.goto (-25), 3) := by decide +kernel
theorem dP_pack_38 : decode bP_pack 38 = .ok (.aload_n 0, 1) := by decide +kernel
theorem dP_pack_39 : decode bP_pack 39 = .ok (.aload_n 1, 1) := by decide +kernel
theorem dP_pack_40 : decode bP_pack 40 = .ok (.iload_n 2, 1) := by decide +kernel
theorem dP_pack_41 : decode bP_pack 41 = .ok (.invokevirtual 28, 3) := by decide +kernel
theorem dP_pack_44 : decode bP_pack 44 = .ok (.ifCond .eq 16, 3) := by decide +kernel
theorem dP_pack_47 : decode bP_pack 47 = .ok (.aload_n 0, 1) := by decide +kernel
theorem dP_pack_48 : decode bP_pack 48 = .ok (.aload_n 1, 1) := by decide +kernel
theorem dP_pack_49 : decode bP_pack 49 = .ok (.iload_n 2, 1) := by decide +kernel
theorem dP_pack_50 : decode bP_pack 50 = .ok (.invokevirtual 32, 3) := by decide +kernel
theorem dP_pack_53 : decode bP_pack 53 = .ok (.ifCond .eq 7, 3) := by decide +kernel
theorem dP_pack_56 : decode bP_pack 56 = .ok (.iconst 1, 1) := by decide +kernel
theorem dP_pack_57 : decode bP_pack 57 = .ok (.goto 4, 3) := by decide +kernel
theorem dP_pack_60 : decode bP_pack 60 = .ok (.iconst 0, 1) := by decide +kernel
theorem dP_pack_61 : decode bP_pack 61 = .ok (.ireturn, 1) := by decide +kernel
theorem dP_addressOf_0 : decode bP_addressOf 0 = .ok (.aload_n 0, 1) := by decide +kernel
theorem dP_addressOf_1 : decode bP_addressOf 1 = .ok (.getfield 9, 3) := by decide +kernel
theorem dP_addressOf_4 : decode bP_addressOf 4 = .ok (.iload_n 1, 1) := by decide +kernel
theorem dP_addressOf_5 : decode bP_addressOf 5 = .ok (.iaload, 1) := by decide +kernel
theorem dP_addressOf_6 : decode bP_addressOf 6 = .ok (.ifCond .ne 12, 3) := by decide +kernel
theorem dP_addressOf_9 : decode bP_addressOf 9 = .ok (.aload_n 0, 1) := by decide +kernel
theorem dP_addressOf_10 : decode bP_addressOf 10 = .ok (.getfield 15, 3) := by decide +kernel
theorem dP_addressOf_13 : decode bP_addressOf 13 = .ok (.iload_n 1, 1) := by decide +kernel
theorem dP_addressOf_14 : decode bP_addressOf 14 = .ok (.iaload, 1) := by decide +kernel
theorem dP_addressOf_15 : decode bP_addressOf 15 = .ok (.goto 12, 3) := by decide +kernel
theorem dP_addressOf_18 : decode bP_addressOf 18 = .ok (.bipush 64, 2) := by decide +kernel
theorem dP_addressOf_20 : decode bP_addressOf 20 = .ok (.aload_n 0, 1) := by decide +kernel
theorem dP_addressOf_21 : decode bP_addressOf 21 = .ok (.getfield 15, 3) := by decide +kernel
theorem dP_addressOf_24 : decode bP_addressOf 24 = .ok (.iload_n 1, 1) := by decide +kernel
theorem dP_addressOf_25 : decode bP_addressOf 25 = .ok (.iaload, 1) := by decide +kernel
theorem dP_addressOf_26 : decode bP_addressOf 26 = .ok (.iadd, 1) := by decide +kernel
theorem dP_addressOf_27 : decode bP_addressOf 27 = .ok (.ireturn, 1) := by decide +kernel
theorem dP_packPinned_0 : decode bP_packPinned 0 = .ok (.iconst 0, 1) := by decide +kernel
theorem dP_packPinned_1 : decode bP_packPinned 1 = .ok (.istore_n 3, 1) := by decide +kernel
theorem dP_packPinned_2 : decode bP_packPinned 2 = .ok (.iload_n 3, 1) := by decide +kernel
theorem dP_packPinned_3 : decode bP_packPinned 3 = .ok (.aload_n 0, 1) := by decide +kernel
theorem dP_packPinned_4 : decode bP_packPinned 4 = .ok (.getfield 27, 3) := by decide +kernel
theorem dP_packPinned_7 : decode bP_packPinned 7 = .ok (.if_icmp .ge 62, 3) := by decide +kernel
theorem dP_packPinned_10 : decode bP_packPinned 10 = .ok (.aload_n 1, 1) := by decide +kernel
theorem dP_packPinned_11 : decode bP_packPinned 11 = .ok (.getfield 35, 3) := by decide +kernel
theorem dP_packPinned_14 : decode bP_packPinned 14 = .ok (.iload_n 3, 1) := by decide +kernel
theorem dP_packPinned_15 : decode bP_packPinned 15 = .ok (.iaload, 1) := by decide +kernel
theorem dP_packPinned_16 : decode bP_packPinned 16 = .ok (.istore 4, 2) := by decide +kernel
theorem dP_packPinned_18 : decode bP_packPinned 18 = .ok (.iload 4, 2) := by decide +kernel
theorem dP_packPinned_20 : decode bP_packPinned 20 = .ok (.iconst (-1), 1) := by decide +kernel
theorem dP_packPinned_21 : decode bP_packPinned 21 = .ok (.if_icmp .ne 6, 3) := by decide +kernel
theorem dP_packPinned_24 : decode bP_packPinned 24 = .ok (.goto 39, 3) := by decide +kernel
theorem dP_packPinned_27 : decode bP_packPinned 27 = .ok (.iload 4, 2) := by decide +kernel
theorem dP_packPinned_29 : decode bP_packPinned 29 = .ok (.iload_n 2, 1) := by decide +kernel
theorem dP_packPinned_30 : decode bP_packPinned 30 = .ok (.if_icmp .ge 18, 3) := by decide +kernel
theorem dP_packPinned_33 : decode bP_packPinned 33 = .ok (.aload_n 0, 1) := by decide +kernel
theorem dP_packPinned_34 : decode bP_packPinned 34 = .ok (.iload 4, 2) := by decide +kernel
theorem dP_packPinned_36 : decode bP_packPinned 36 = .ok (.aload_n 1, 1) := by decide +kernel
theorem dP_packPinned_37 : decode bP_packPinned 37 = .ok (.getfield 36, 3) := by decide +kernel
theorem dP_packPinned_40 : decode bP_packPinned 40 = .ok (.iload_n 3, 1) := by decide +kernel
theorem dP_packPinned_41 : decode bP_packPinned 41 = .ok (.iaload, 1) := by decide +kernel
theorem dP_packPinned_42 : decode bP_packPinned 42 = .ok (.invokevirtual 39, 3) := by decide +kernel
theorem dP_packPinned_45 : decode bP_packPinned 45 = .ok (.ifCond .ne 5, 3) := by decide +kernel
theorem dP_packPinned_48 : decode bP_packPinned 48 = .ok (.iconst 0, 1) := by decide +kernel
theorem dP_packPinned_49 : decode bP_packPinned 49 = .ok (.ireturn, 1) := by decide +kernel
theorem dP_packPinned_50 : decode bP_packPinned 50 = .ok (.aload_n 0, 1) := by decide +kernel
theorem dP_packPinned_51 : decode bP_packPinned 51 = .ok (.iload_n 3, 1) := by decide +kernel
theorem dP_packPinned_52 : decode bP_packPinned 52 = .ok (.iload 4, 2) := by decide +kernel
theorem dP_packPinned_54 : decode bP_packPinned 54 = .ok (.aload_n 1, 1) := by decide +kernel
theorem dP_packPinned_55 : decode bP_packPinned 55 = .ok (.getfield 36, 3) := by decide +kernel
theorem dP_packPinned_58 : decode bP_packPinned 58 = .ok (.iload_n 3, 1) := by decide +kernel
theorem dP_packPinned_59 : decode bP_packPinned 59 = .ok (.iaload, 1) := by decide +kernel
theorem dP_packPinned_60 : decode bP_packPinned 60 = .ok (.invokevirtual 43, 3) := by decide +kernel
theorem dP_packPinned_63 : decode bP_packPinned 63 = .ok (.iinc 3 1, 3) := by decide +kernel
theorem dP_packPinned_66 : decode bP_packPinned 66 = .ok (.goto (-64), 3) := by decide +kernel
theorem dP_packPinned_69 : decode bP_packPinned 69 = .ok (.iconst 1, 1) := by decide +kernel
theorem dP_packPinned_70 : decode bP_packPinned 70 = .ok (.ireturn, 1) := by decide +kernel
theorem dP_packFloating_0 : decode bP_packFloating 0 = .ok (.bipush 48, 2) := by decide +kernel
theorem dP_packFloating_2 : decode bP_packFloating 2 = .ok (.istore_n 3, 1) := by decide +kernel
theorem dP_packFloating_3 : decode bP_packFloating 3 = .ok (.iload_n 3, 1) := by decide +kernel
theorem dP_packFloating_4 : decode bP_packFloating 4 = .ok (.ifCond .lt 74, 3) := by decide +kernel
theorem dP_packFloating_7 : decode bP_packFloating 7 = .ok (.iconst 0, 1) := by decide +kernel
theorem dP_packFloating_8 : decode bP_packFloating 8 = .ok (.istore 4, 2) := by decide +kernel
theorem dP_packFloating_10 : decode bP_packFloating 10 = .ok (.iload 4, 2) := by decide +kernel
theorem dP_packFloating_12 : decode bP_packFloating 12 = .ok (.aload_n 0, 1) := by decide +kernel
theorem dP_packFloating_13 : decode bP_packFloating 13 = .ok (.getfield 27, 3) := by decide +kernel
theorem dP_packFloating_16 : decode bP_packFloating 16 = .ok (.if_icmp .ge 56, 3) := by decide +kernel
theorem dP_packFloating_19 : decode bP_packFloating 19 = .ok (.aload_n 1, 1) := by decide +kernel
theorem dP_packFloating_20 : decode bP_packFloating 20 = .ok (.getfield 35, 3) := by decide +kernel
theorem dP_packFloating_23 : decode bP_packFloating 23 = .ok (.iload 4, 2) := by decide +kernel
theorem dP_packFloating_25 : decode bP_packFloating 25 = .ok (.iaload, 1) := by decide +kernel
theorem dP_packFloating_26 : decode bP_packFloating 26 = .ok (.iconst (-1), 1) := by decide +kernel
theorem dP_packFloating_27 : decode bP_packFloating 27 = .ok (.if_icmp .ne 18, 3) := by decide +kernel
theorem dP_packFloating_30 : decode bP_packFloating 30 = .ok (.aload_n 1, 1) := by decide +kernel
theorem dP_packFloating_31 : decode bP_packFloating 31 = .ok (.getfield 36, 3) := by decide +kernel
theorem dP_packFloating_34 : decode bP_packFloating 34 = .ok (.iload 4, 2) := by decide +kernel
theorem dP_packFloating_36 : decode bP_packFloating 36 = .ok (.iaload, 1) := by decide +kernel
theorem dP_packFloating_37 : decode bP_packFloating 37 = .ok (.iload_n 3, 1) := by decide +kernel
theorem dP_packFloating_38 : decode bP_packFloating 38 = .ok (.if_icmp .ne 7, 3) := by decide +kernel
theorem dP_packFloating_41 : decode bP_packFloating 41 = .ok (.iconst 1, 1) := by decide +kernel
theorem dP_packFloating_42 : decode bP_packFloating 42 = .ok (.goto 4, 3) := by decide +kernel
theorem dP_packFloating_45 : decode bP_packFloating 45 = .ok (.iconst 0, 1) := by decide +kernel
theorem dP_packFloating_46 : decode bP_packFloating 46 = .ok (.istore 5, 2) := by decide +kernel
theorem dP_packFloating_48 : decode bP_packFloating 48 = .ok (.iload 5, 2) := by decide +kernel
theorem dP_packFloating_50 : decode bP_packFloating 50 = .ok (.ifCond .eq 16, 3) := by decide +kernel
theorem dP_packFloating_53 : decode bP_packFloating 53 = .ok (.aload_n 0, 1) := by decide +kernel
theorem dP_packFloating_54 : decode bP_packFloating 54 = .ok (.iload 4, 2) := by decide +kernel
theorem dP_packFloating_56 : decode bP_packFloating 56 = .ok (.iload_n 3, 1) := by decide +kernel
theorem dP_packFloating_57 : decode bP_packFloating 57 = .ok (.iload_n 2, 1) := by decide +kernel
theorem dP_packFloating_58 : decode bP_packFloating 58 = .ok (.invokevirtual 47, 3) := by decide +kernel
theorem dP_packFloating_61 : decode bP_packFloating 61 = .ok (.ifCond .ne 5, 3) := by decide +kernel
theorem dP_packFloating_64 : decode bP_packFloating 64 = .ok (.iconst 0, 1) := by decide +kernel
theorem dP_packFloating_65 : decode bP_packFloating 65 = .ok (.ireturn, 1) := by decide +kernel
theorem dP_packFloating_66 : decode bP_packFloating 66 = .ok (.iinc 4 1, 3) := by decide +kernel
theorem dP_packFloating_69 : decode bP_packFloating 69 = .ok (.goto (-59), 3) := by decide +kernel
theorem dP_packFloating_72 : decode bP_packFloating 72 = .ok (.iinc 3 (-1), 3) := by decide +kernel
theorem dP_packFloating_75 : decode bP_packFloating 75 = .ok (.goto (-72), 3) := by decide +kernel
theorem dP_packFloating_78 : decode bP_packFloating 78 = .ok (.iconst 1, 1) := by decide +kernel
theorem dP_packFloating_79 : decode bP_packFloating 79 = .ok (.ireturn, 1) := by decide +kernel
theorem dP_packLowest_0 : decode bP_packLowest 0 = .ok (.iconst 0, 1) := by decide +kernel
theorem dP_packLowest_1 : decode bP_packLowest 1 = .ok (.istore 4, 2) := by decide +kernel
theorem dP_packLowest_3 : decode bP_packLowest 3 = .ok (.iload 4, 2) := by decide +kernel
theorem dP_packLowest_5 : decode bP_packLowest 5 = .ok (.iload_n 3, 1) := by decide +kernel
theorem dP_packLowest_6 : decode bP_packLowest 6 = .ok (.if_icmp .ge 29, 3) := by decide +kernel
theorem dP_packLowest_9 : decode bP_packLowest 9 = .ok (.aload_n 0, 1) := by decide +kernel
theorem dP_packLowest_10 : decode bP_packLowest 10 = .ok (.iload 4, 2) := by decide +kernel
theorem dP_packLowest_12 : decode bP_packLowest 12 = .ok (.iload_n 2, 1) := by decide +kernel
theorem dP_packLowest_13 : decode bP_packLowest 13 = .ok (.invokevirtual 39, 3) := by decide +kernel
theorem dP_packLowest_16 : decode bP_packLowest 16 = .ok (.ifCond .eq 13, 3) := by decide +kernel
theorem dP_packLowest_19 : decode bP_packLowest 19 = .ok (.aload_n 0, 1) := by decide +kernel
theorem dP_packLowest_20 : decode bP_packLowest 20 = .ok (.iload_n 1, 1) := by decide +kernel
theorem dP_packLowest_21 : decode bP_packLowest 21 = .ok (.iload 4, 2) := by decide +kernel
theorem dP_packLowest_23 : decode bP_packLowest 23 = .ok (.iload_n 2, 1) := by decide +kernel
theorem dP_packLowest_24 : decode bP_packLowest 24 = .ok (.invokevirtual 43, 3) := by decide +kernel
theorem dP_packLowest_27 : decode bP_packLowest 27 = .ok (.iconst 1, 1) := by decide +kernel
theorem dP_packLowest_28 : decode bP_packLowest 28 = .ok (.ireturn, 1) := by decide +kernel
theorem dP_packLowest_29 : decode bP_packLowest 29 = .ok (.iinc 4 1, 3) := by decide +kernel
theorem dP_packLowest_32 : decode bP_packLowest 32 = .ok (.goto (-29), 3) := by decide +kernel
theorem dP_packLowest_35 : decode bP_packLowest 35 = .ok (.iconst 0, 1) := by decide +kernel
theorem dP_packLowest_36 : decode bP_packLowest 36 = .ok (.ireturn, 1) := by decide +kernel
theorem dP_fits_0 : decode bP_fits 0 = .ok (.aload_n 0, 1) := by decide +kernel
theorem dP_fits_1 : decode bP_fits 1 = .ok (.getfield 18, 3) := by decide +kernel
theorem dP_fits_4 : decode bP_fits 4 = .ok (.iload_n 1, 1) := by decide +kernel
theorem dP_fits_5 : decode bP_fits 5 = .ok (.iaload, 1) := by decide +kernel
theorem dP_fits_6 : decode bP_fits 6 = .ok (.iload_n 2, 1) := by decide +kernel
theorem dP_fits_7 : decode bP_fits 7 = .ok (.iadd, 1) := by decide +kernel
theorem dP_fits_8 : decode bP_fits 8 = .ok (.bipush 64, 2) := by decide +kernel
theorem dP_fits_10 : decode bP_fits 10 = .ok (.if_icmp .gt 7, 3) := by decide +kernel
theorem dP_fits_13 : decode bP_fits 13 = .ok (.iconst 1, 1) := by decide +kernel
theorem dP_fits_14 : decode bP_fits 14 = .ok (.goto 4, 3) := by decide +kernel
theorem dP_fits_17 : decode bP_fits 17 = .ok (.iconst 0, 1) := by decide +kernel
theorem dP_fits_18 : decode bP_fits 18 = .ok (.ireturn, 1) := by decide +kernel
theorem dP_put_0 : decode bP_put 0 = .ok (.aload_n 0, 1) := by decide +kernel
theorem dP_put_1 : decode bP_put 1 = .ok (.getfield 9, 3) := by decide +kernel
theorem dP_put_4 : decode bP_put 4 = .ok (.iload_n 1, 1) := by decide +kernel
theorem dP_put_5 : decode bP_put 5 = .ok (.iload_n 2, 1) := by decide +kernel
theorem dP_put_6 : decode bP_put 6 = .ok (.iastore, 1) := by decide +kernel
theorem dP_put_7 : decode bP_put 7 = .ok (.aload_n 0, 1) := by decide +kernel
theorem dP_put_8 : decode bP_put 8 = .ok (.getfield 15, 3) := by decide +kernel
theorem dP_put_11 : decode bP_put 11 = .ok (.iload_n 1, 1) := by decide +kernel
theorem dP_put_12 : decode bP_put 12 = .ok (.aload_n 0, 1) := by decide +kernel
theorem dP_put_13 : decode bP_put 13 = .ok (.getfield 18, 3) := by decide +kernel
theorem dP_put_16 : decode bP_put 16 = .ok (.iload_n 2, 1) := by decide +kernel
theorem dP_put_17 : decode bP_put 17 = .ok (.iaload, 1) := by decide +kernel
theorem dP_put_18 : decode bP_put 18 = .ok (.iastore, 1) := by decide +kernel
theorem dP_put_19 : decode bP_put 19 = .ok (.aload_n 0, 1) := by decide +kernel
theorem dP_put_20 : decode bP_put 20 = .ok (.getfield 18, 3) := by decide +kernel
theorem dP_put_23 : decode bP_put 23 = .ok (.iload_n 2, 1) := by decide +kernel
theorem dP_put_24 : decode bP_put 24 = .ok (.dup2, 1) := by decide +kernel
theorem dP_put_25 : decode bP_put 25 = .ok (.iaload, 1) := by decide +kernel
theorem dP_put_26 : decode bP_put 26 = .ok (.iload_n 3, 1) := by decide +kernel
theorem dP_put_27 : decode bP_put 27 = .ok (.iadd, 1) := by decide +kernel
theorem dP_put_28 : decode bP_put 28 = .ok (.iastore, 1) := by decide +kernel
theorem dP_put_29 : decode bP_put 29 = .ok (.return_, 1) := by decide +kernel
theorem dS_init_0 : decode bS_init 0 = .ok (.aload_n 0, 1) := by decide +kernel
theorem dS_init_1 : decode bS_init 1 = .ok (.invokespecial 3, 3) := by decide +kernel
theorem dS_init_4 : decode bS_init 4 = .ok (.aload_n 0, 1) := by decide +kernel
theorem dS_init_5 : decode bS_init 5 = .ok (.bipush 10, 2) := by decide +kernel
theorem dS_init_7 : decode bS_init 7 = .ok (.newarray .int, 2) := by decide +kernel
theorem dS_init_9 : decode bS_init 9 = .ok (.putfield 9, 3) := by decide +kernel
theorem dS_init_12 : decode bS_init 12 = .ok (.aload_n 0, 1) := by decide +kernel
theorem dS_init_13 : decode bS_init 13 = .ok (.bipush 10, 2) := by decide +kernel
theorem dS_init_15 : decode bS_init 15 = .ok (.newarray .int, 2) := by decide +kernel
theorem dS_init_17 : decode bS_init 17 = .ok (.putfield 15, 3) := by decide +kernel
theorem dS_init_20 : decode bS_init 20 = .ok (.aload_n 0, 1) := by decide +kernel
theorem dS_init_21 : decode bS_init 21 = .ok (.sipush 480, 3) := by decide +kernel
theorem dS_init_24 : decode bS_init 24 = .ok (.newarray .int, 2) := by decide +kernel
theorem dS_init_26 : decode bS_init 26 = .ok (.putfield 18, 3) := by decide +kernel
theorem dS_init_29 : decode bS_init 29 = .ok (.aload_n 0, 1) := by decide +kernel
theorem dS_init_30 : decode bS_init 30 = .ok (.sipush 480, 3) := by decide +kernel
theorem dS_init_33 : decode bS_init 33 = .ok (.newarray .int, 2) := by decide +kernel
theorem dS_init_35 : decode bS_init 35 = .ok (.putfield 21, 3) := by decide +kernel
theorem dS_init_38 : decode bS_init 38 = .ok (.return_, 1) := by decide +kernel
theorem dS_open_0 : decode bS_open 0 = .ok (.aload_n 0, 1) := by decide +kernel
theorem dS_open_1 : decode bS_open 1 = .ok (.getfield 24, 3) := by decide +kernel
theorem dS_open_4 : decode bS_open 4 = .ok (.istore_n 2, 1) := by decide +kernel
theorem dS_open_5 : decode bS_open 5 = .ok (.aload_n 0, 1) := by decide +kernel
theorem dS_open_6 : decode bS_open 6 = .ok (.getfield 9, 3) := by decide +kernel
theorem dS_open_9 : decode bS_open 9 = .ok (.iload_n 2, 1) := by decide +kernel
theorem dS_open_10 : decode bS_open 10 = .ok (.iload_n 1, 1) := by decide +kernel
theorem dS_open_11 : decode bS_open 11 = .ok (.iastore, 1) := by decide +kernel
theorem dS_open_12 : decode bS_open 12 = .ok (.aload_n 0, 1) := by decide +kernel
theorem dS_open_13 : decode bS_open 13 = .ok (.getfield 15, 3) := by decide +kernel
theorem dS_open_16 : decode bS_open 16 = .ok (.iload_n 2, 1) := by decide +kernel
theorem dS_open_17 : decode bS_open 17 = .ok (.iconst 0, 1) := by decide +kernel
theorem dS_open_18 : decode bS_open 18 = .ok (.iastore, 1) := by decide +kernel
theorem dS_open_19 : decode bS_open 19 = .ok (.aload_n 0, 1) := by decide +kernel
theorem dS_open_20 : decode bS_open 20 = .ok (.iload_n 2, 1) := by decide +kernel
theorem dS_open_21 : decode bS_open 21 = .ok (.iconst 1, 1) := by decide +kernel
theorem dS_open_22 : decode bS_open 22 = .ok (.iadd, 1) := by decide +kernel
theorem dS_open_23 : decode bS_open 23 = .ok (.putfield 24, 3) := by decide +kernel
theorem dS_open_26 : decode bS_open 26 = .ok (.iload_n 2, 1) := by decide +kernel
theorem dS_open_27 : decode bS_open 27 = .ok (.ireturn, 1) := by decide +kernel
theorem dS_canTake_0 : decode bS_canTake 0 = .ok (.aload_n 0, 1) := by decide +kernel
theorem dS_canTake_1 : decode bS_canTake 1 = .ok (.getfield 24, 3) := by decide +kernel
theorem dS_canTake_4 : decode bS_canTake 4 = .ok (.ifCond .le 25, 3) := by decide +kernel
theorem dS_canTake_7 : decode bS_canTake 7 = .ok (.aload_n 0, 1) := by decide +kernel
theorem dS_canTake_8 : decode bS_canTake 8 = .ok (.getfield 15, 3) := by decide +kernel
theorem dS_canTake_11 : decode bS_canTake 11 = .ok (.aload_n 0, 1) := by decide +kernel
theorem dS_canTake_12 : decode bS_canTake 12 = .ok (.getfield 24, 3) := by decide +kernel
theorem dS_canTake_15 : decode bS_canTake 15 = .ok (.iconst 1, 1) := by decide +kernel
theorem dS_canTake_16 : decode bS_canTake 16 = .ok (.isub, 1) := by decide +kernel
theorem dS_canTake_17 : decode bS_canTake 17 = .ok (.iaload, 1) := by decide +kernel
theorem dS_canTake_18 : decode bS_canTake 18 = .ok (.iload_n 1, 1) := by decide +kernel
theorem dS_canTake_19 : decode bS_canTake 19 = .ok (.iadd, 1) := by decide +kernel
theorem dS_canTake_20 : decode bS_canTake 20 = .ok (.bipush 48, 2) := by decide +kernel
theorem dS_canTake_22 : decode bS_canTake 22 = .ok (.if_icmp .gt 7, 3) := by decide +kernel
theorem dS_canTake_25 : decode bS_canTake 25 = .ok (.iconst 1, 1) := by decide +kernel
theorem dS_canTake_26 : decode bS_canTake 26 = .ok (.goto 4, 3) := by decide +kernel
theorem dS_canTake_29 : decode bS_canTake 29 = .ok (.iconst 0, 1) := by decide +kernel
theorem dS_canTake_30 : decode bS_canTake 30 = .ok (.ireturn, 1) := by decide +kernel
theorem dS_append_0 : decode bS_append 0 = .ok (.aload_n 0, 1) := by decide +kernel
theorem dS_append_1 : decode bS_append 1 = .ok (.getfield 24, 3) := by decide +kernel
theorem dS_append_4 : decode bS_append 4 = .ok (.iconst 1, 1) := by decide +kernel
theorem dS_append_5 : decode bS_append 5 = .ok (.isub, 1) := by decide +kernel
theorem dS_append_6 : decode bS_append 6 = .ok (.istore_n 3, 1) := by decide +kernel
theorem dS_append_7 : decode bS_append 7 = .ok (.iload_n 3, 1) := by decide +kernel
theorem dS_append_8 : decode bS_append 8 = .ok (.bipush 48, 2) := by decide +kernel
theorem dS_append_10 : decode bS_append 10 = .ok (.imul, 1) := by decide +kernel
theorem dS_append_11 : decode bS_append 11 = .ok (.aload_n 0, 1) := by decide +kernel
theorem dS_append_12 : decode bS_append 12 = .ok (.getfield 15, 3) := by decide +kernel
theorem dS_append_15 : decode bS_append 15 = .ok (.iload_n 3, 1) := by decide +kernel
theorem dS_append_16 : decode bS_append 16 = .ok (.iaload, 1) := by decide +kernel
theorem dS_append_17 : decode bS_append 17 = .ok (.iadd, 1) := by decide +kernel
theorem dS_append_18 : decode bS_append 18 = .ok (.istore 4, 2) := by decide +kernel
theorem dS_append_20 : decode bS_append 20 = .ok (.aload_n 0, 1) := by decide +kernel
theorem dS_append_21 : decode bS_append 21 = .ok (.getfield 18, 3) := by decide +kernel
theorem dS_append_24 : decode bS_append 24 = .ok (.iload 4, 2) := by decide +kernel
theorem dS_append_26 : decode bS_append 26 = .ok (.iload_n 1, 1) := by decide +kernel
theorem dS_append_27 : decode bS_append 27 = .ok (.iastore, 1) := by decide +kernel
theorem dS_append_28 : decode bS_append 28 = .ok (.aload_n 0, 1) := by decide +kernel
theorem dS_append_29 : decode bS_append 29 = .ok (.getfield 21, 3) := by decide +kernel
theorem dS_append_32 : decode bS_append 32 = .ok (.iload 4, 2) := by decide +kernel
theorem dS_append_34 : decode bS_append 34 = .ok (.iload_n 2, 1) := by decide +kernel
theorem dS_append_35 : decode bS_append 35 = .ok (.iastore, 1) := by decide +kernel
theorem dS_append_36 : decode bS_append 36 = .ok (.aload_n 0, 1) := by decide +kernel
theorem dS_append_37 : decode bS_append 37 = .ok (.getfield 15, 3) := by decide +kernel
theorem dS_append_40 : decode bS_append 40 = .ok (.iload_n 3, 1) := by decide +kernel
theorem dS_append_41 : decode bS_append 41 = .ok (.dup2, 1) := by decide +kernel
theorem dS_append_42 : decode bS_append 42 = .ok (.iaload, 1) := by decide +kernel
theorem dS_append_43 : decode bS_append 43 = .ok (.iconst 1, 1) := by decide +kernel
theorem dS_append_44 : decode bS_append 44 = .ok (.iadd, 1) := by decide +kernel
theorem dS_append_45 : decode bS_append 45 = .ok (.iastore, 1) := by decide +kernel
theorem dS_append_46 : decode bS_append 46 = .ok (.return_, 1) := by decide +kernel
theorem dS_lacksOne_0 : decode bS_lacksOne 0 = .ok (.iconst 0, 1) := by decide +kernel
theorem dS_lacksOne_1 : decode bS_lacksOne 1 = .ok (.istore_n 1, 1) := by decide +kernel
theorem dS_lacksOne_2 : decode bS_lacksOne 2 = .ok (.iload_n 1, 1) := by decide +kernel
theorem dS_lacksOne_3 : decode bS_lacksOne 3 = .ok (.aload_n 0, 1) := by decide +kernel
theorem dS_lacksOne_4 : decode bS_lacksOne 4 = .ok (.getfield 24, 3) := by decide +kernel
theorem dS_lacksOne_7 : decode bS_lacksOne 7 = .ok (.if_icmp .ge 58, 3) := by decide +kernel
theorem dS_lacksOne_10 : decode bS_lacksOne 10 = .ok (.iconst 0, 1) := by decide +kernel
theorem dS_lacksOne_11 : decode bS_lacksOne 11 = .ok (.istore_n 2, 1) := by decide +kernel
theorem dS_lacksOne_12 : decode bS_lacksOne 12 = .ok (.iload_n 2, 1) := by decide +kernel
theorem dS_lacksOne_13 : decode bS_lacksOne 13 = .ok (.aload_n 0, 1) := by decide +kernel
theorem dS_lacksOne_14 : decode bS_lacksOne 14 = .ok (.getfield 15, 3) := by decide +kernel
theorem dS_lacksOne_17 : decode bS_lacksOne 17 = .ok (.iload_n 1, 1) := by decide +kernel
theorem dS_lacksOne_18 : decode bS_lacksOne 18 = .ok (.iaload, 1) := by decide +kernel
theorem dS_lacksOne_19 : decode bS_lacksOne 19 = .ok (.if_icmp .ge 40, 3) := by decide +kernel
theorem dS_lacksOne_22 : decode bS_lacksOne 22 = .ok (.iload_n 1, 1) := by decide +kernel
theorem dS_lacksOne_23 : decode bS_lacksOne 23 = .ok (.bipush 48, 2) := by decide +kernel
theorem dS_lacksOne_25 : decode bS_lacksOne 25 = .ok (.imul, 1) := by decide +kernel
theorem dS_lacksOne_26 : decode bS_lacksOne 26 = .ok (.iload_n 2, 1) := by decide +kernel
theorem dS_lacksOne_27 : decode bS_lacksOne 27 = .ok (.iadd, 1) := by decide +kernel
theorem dS_lacksOne_28 : decode bS_lacksOne 28 = .ok (.istore_n 3, 1) := by decide +kernel
theorem dS_lacksOne_29 : decode bS_lacksOne 29 = .ok (.aload_n 0, 1) := by decide +kernel
theorem dS_lacksOne_30 : decode bS_lacksOne 30 = .ok (.getfield 18, 3) := by decide +kernel
theorem dS_lacksOne_33 : decode bS_lacksOne 33 = .ok (.iload_n 3, 1) := by decide +kernel
theorem dS_lacksOne_34 : decode bS_lacksOne 34 = .ok (.iaload, 1) := by decide +kernel
theorem dS_lacksOne_35 : decode bS_lacksOne 35 = .ok (.ifCond .eq 18, 3) := by decide +kernel
theorem dS_lacksOne_38 : decode bS_lacksOne 38 = .ok (.aload_n 0, 1) := by decide +kernel
theorem dS_lacksOne_39 : decode bS_lacksOne 39 = .ok (.getfield 21, 3) := by decide +kernel
theorem dS_lacksOne_42 : decode bS_lacksOne 42 = .ok (.iload_n 3, 1) := by decide +kernel
theorem dS_lacksOne_43 : decode bS_lacksOne 43 = .ok (.iaload, 1) := by decide +kernel
theorem dS_lacksOne_44 : decode bS_lacksOne 44 = .ok (.aload_n 0, 1) := by decide +kernel
theorem dS_lacksOne_45 : decode bS_lacksOne 45 = .ok (.getfield 24, 3) := by decide +kernel
theorem dS_lacksOne_48 : decode bS_lacksOne 48 = .ok (.if_icmp .lt 5, 3) := by decide +kernel
theorem dS_lacksOne_51 : decode bS_lacksOne 51 = .ok (.iconst 1, 1) := by decide +kernel
theorem dS_lacksOne_52 : decode bS_lacksOne 52 = .ok (.ireturn, 1) := by decide +kernel
theorem dS_lacksOne_53 : decode bS_lacksOne 53 = .ok (.iinc 2 1, 3) := by decide +kernel
theorem dS_lacksOne_56 : decode bS_lacksOne 56 = .ok (.goto (-44), 3) := by decide +kernel
theorem dS_lacksOne_59 : decode bS_lacksOne 59 = .ok (.iinc 1 1, 3) := by decide +kernel
theorem dS_lacksOne_62 : decode bS_lacksOne 62 = .ok (.goto (-60), 3) := by decide +kernel
theorem dS_lacksOne_65 : decode bS_lacksOne 65 = .ok (.iconst 0, 1) := by decide +kernel
theorem dS_lacksOne_66 : decode bS_lacksOne 66 = .ok (.ireturn, 1) := by decide +kernel
theorem dS_total_0 : decode bS_total 0 = .ok (.iconst 0, 1) := by decide +kernel
theorem dS_total_1 : decode bS_total 1 = .ok (.istore_n 1, 1) := by decide +kernel
theorem dS_total_2 : decode bS_total 2 = .ok (.iconst 0, 1) := by decide +kernel
theorem dS_total_3 : decode bS_total 3 = .ok (.istore_n 2, 1) := by decide +kernel
theorem dS_total_4 : decode bS_total 4 = .ok (.iload_n 2, 1) := by decide +kernel
theorem dS_total_5 : decode bS_total 5 = .ok (.aload_n 0, 1) := by decide +kernel
theorem dS_total_6 : decode bS_total 6 = .ok (.getfield 24, 3) := by decide +kernel
theorem dS_total_9 : decode bS_total 9 = .ok (.if_icmp .ge 18, 3) := by decide +kernel
theorem dS_total_12 : decode bS_total 12 = .ok (.iload_n 1, 1) := by decide +kernel
theorem dS_total_13 : decode bS_total 13 = .ok (.aload_n 0, 1) := by decide +kernel
theorem dS_total_14 : decode bS_total 14 = .ok (.getfield 15, 3) := by decide +kernel
theorem dS_total_17 : decode bS_total 17 = .ok (.iload_n 2, 1) := by decide +kernel
theorem dS_total_18 : decode bS_total 18 = .ok (.iaload, 1) := by decide +kernel
theorem dS_total_19 : decode bS_total 19 = .ok (.iadd, 1) := by decide +kernel
theorem dS_total_20 : decode bS_total 20 = .ok (.istore_n 1, 1) := by decide +kernel
theorem dS_total_21 : decode bS_total 21 = .ok (.iinc 2 1, 3) := by decide +kernel
theorem dS_total_24 : decode bS_total 24 = .ok (.goto (-20), 3) := by decide +kernel
theorem dS_total_27 : decode bS_total 27 = .ok (.iload_n 1, 1) := by decide +kernel
theorem dS_total_28 : decode bS_total 28 = .ok (.ireturn, 1) := by decide +kernel
theorem dL_section_0 : decode bL_section 0 = .ok (.aload_n 2, 1) := by decide +kernel
theorem dL_section_1 : decode bL_section 1 = .ok (.iconst 0, 1) := by decide +kernel
theorem dL_section_2 : decode bL_section 2 = .ok (.aload_n 0, 1) := by decide +kernel
theorem dL_section_3 : decode bL_section 3 = .ok (.iload_n 1, 1) := by decide +kernel
theorem dL_section_4 : decode bL_section 4 = .ok (.invokevirtual 7, 3) := by decide +kernel
theorem dL_section_7 : decode bL_section 7 = .ok (.i2l, 1) := by decide +kernel
theorem dL_section_8 : decode bL_section 8 = .ok (.lastore, 1) := by decide +kernel
theorem dL_section_9 : decode bL_section 9 = .ok (.goto 9, 3) := by decide +kernel
theorem dL_section_12 : decode bL_section 12 = .ok (.astore_n 3, 1) := by decide +kernel
theorem dL_section_13 : decode bL_section 13 = .ok (.iconst 1, 1) := by decide +kernel
theorem dL_section_14 : decode bL_section 14 = .ok (.ireturn, 1) := by decide +kernel
theorem dL_section_15 : decode bL_section 15 = .ok (.astore_n 3, 1) := by decide +kernel
theorem dL_section_16 : decode bL_section 16 = .ok (.iconst 2, 1) := by decide +kernel
theorem dL_section_17 : decode bL_section 17 = .ok (.ireturn, 1) := by decide +kernel
theorem dL_section_18 : decode bL_section 18 = .ok (.iconst 0, 1) := by decide +kernel
theorem dL_section_19 : decode bL_section 19 = .ok (.ireturn, 1) := by decide +kernel
theorem dL_bytes_0 : decode bL_bytes 0 = .ok (.aload_n 0, 1) := by decide +kernel
theorem dL_bytes_1 : decode bL_bytes 1 = .ok (.iload_n 1, 1) := by decide +kernel
theorem dL_bytes_2 : decode bL_bytes 2 = .ok (.iload_n 2, 1) := by decide +kernel
theorem dL_bytes_3 : decode bL_bytes 3 = .ok (.invokevirtual 17, 3) := by decide +kernel
theorem dL_bytes_6 : decode bL_bytes 6 = .ok (.goto 9, 3) := by decide +kernel
theorem dL_bytes_9 : decode bL_bytes 9 = .ok (.astore_n 3, 1) := by decide +kernel
theorem dL_bytes_10 : decode bL_bytes 10 = .ok (.iconst 1, 1) := by decide +kernel
theorem dL_bytes_11 : decode bL_bytes 11 = .ok (.ireturn, 1) := by decide +kernel
theorem dL_bytes_12 : decode bL_bytes 12 = .ok (.astore_n 3, 1) := by decide +kernel
theorem dL_bytes_13 : decode bL_bytes 13 = .ok (.iconst 2, 1) := by decide +kernel
theorem dL_bytes_14 : decode bL_bytes 14 = .ok (.ireturn, 1) := by decide +kernel
theorem dL_bytes_15 : decode bL_bytes 15 = .ok (.iconst 0, 1) := by decide +kernel
theorem dL_bytes_16 : decode bL_bytes 16 = .ok (.ireturn, 1) := by decide +kernel
theorem dL_mended_0 : decode bL_mended 0 = .ok (.aload_n 0, 1) := by decide +kernel
theorem dL_mended_1 : decode bL_mended 1 = .ok (.iload_n 1, 1) := by decide +kernel
theorem dL_mended_2 : decode bL_mended 2 = .ok (.iload_n 2, 1) := by decide +kernel
theorem dL_mended_3 : decode bL_mended 3 = .ok (.invokevirtual 21, 3) := by decide +kernel
theorem dL_mended_6 : decode bL_mended 6 = .ok (.goto 9, 3) := by decide +kernel
theorem dL_mended_9 : decode bL_mended 9 = .ok (.astore_n 3, 1) := by decide +kernel
theorem dL_mended_10 : decode bL_mended 10 = .ok (.iconst 1, 1) := by decide +kernel
theorem dL_mended_11 : decode bL_mended 11 = .ok (.ireturn, 1) := by decide +kernel
theorem dL_mended_12 : decode bL_mended 12 = .ok (.astore_n 3, 1) := by decide +kernel
theorem dL_mended_13 : decode bL_mended 13 = .ok (.iconst 2, 1) := by decide +kernel
theorem dL_mended_14 : decode bL_mended 14 = .ok (.ireturn, 1) := by decide +kernel
theorem dL_mended_15 : decode bL_mended 15 = .ok (.iconst 0, 1) := by decide +kernel
theorem dL_mended_16 : decode bL_mended 16 = .ok (.ireturn, 1) := by decide +kernel
theorem dL_link_0 : decode bL_link 0 = .ok (.aload_n 2, 1) := by decide +kernel
theorem dL_link_1 : decode bL_link 1 = .ok (.iconst 0, 1) := by decide +kernel
theorem dL_link_2 : decode bL_link 2 = .ok (.aload_n 0, 1) := by decide +kernel
theorem dL_link_3 : decode bL_link 3 = .ok (.iload_n 1, 1) := by decide +kernel
theorem dL_link_4 : decode bL_link 4 = .ok (.invokevirtual 24, 3) := by decide +kernel
theorem dL_link_7 : decode bL_link 7 = .ok (.i2l, 1) := by decide +kernel
theorem dL_link_8 : decode bL_link 8 = .ok (.lastore, 1) := by decide +kernel
theorem dL_link_9 : decode bL_link 9 = .ok (.goto 12, 3) := by decide +kernel
theorem dL_link_12 : decode bL_link 12 = .ok (.astore_n 3, 1) := by decide +kernel
theorem dL_link_13 : decode bL_link 13 = .ok (.iconst 1, 1) := by decide +kernel
theorem dL_link_14 : decode bL_link 14 = .ok (.ireturn, 1) := by decide +kernel
theorem dL_link_15 : decode bL_link 15 = .ok (.astore_n 3, 1) := by decide +kernel
theorem dL_link_16 : decode bL_link 16 = .ok (.iconst 2, 1) := by decide +kernel
theorem dL_link_17 : decode bL_link 17 = .ok (.ireturn, 1) := by decide +kernel
theorem dL_link_18 : decode bL_link 18 = .ok (.astore_n 3, 1) := by decide +kernel
theorem dL_link_19 : decode bL_link 19 = .ok (.iconst 3, 1) := by decide +kernel
theorem dL_link_20 : decode bL_link 20 = .ok (.ireturn, 1) := by decide +kernel
theorem dL_link_21 : decode bL_link 21 = .ok (.iconst 0, 1) := by decide +kernel
theorem dL_link_22 : decode bL_link 22 = .ok (.ireturn, 1) := by decide +kernel
theorem dL_packed_0 : decode bL_packed 0 = .ok (.aload_n 3, 1) := by decide +kernel
theorem dL_packed_1 : decode bL_packed 1 = .ok (.iconst 0, 1) := by decide +kernel
theorem dL_packed_2 : decode bL_packed 2 = .ok (.aload_n 0, 1) := by decide +kernel
theorem dL_packed_3 : decode bL_packed 3 = .ok (.iload_n 1, 1) := by decide +kernel
theorem dL_packed_4 : decode bL_packed 4 = .ok (.iload_n 2, 1) := by decide +kernel
theorem dL_packed_5 : decode bL_packed 5 = .ok (.invokevirtual 29, 3) := by decide +kernel
theorem dL_packed_8 : decode bL_packed 8 = .ok (.i2l, 1) := by decide +kernel
theorem dL_packed_9 : decode bL_packed 9 = .ok (.lastore, 1) := by decide +kernel
theorem dL_packed_10 : decode bL_packed 10 = .ok (.goto 7, 3) := by decide +kernel
theorem dL_packed_13 : decode bL_packed 13 = .ok (.astore 4, 2) := by decide +kernel
theorem dL_packed_15 : decode bL_packed 15 = .ok (.iconst 1, 1) := by decide +kernel
theorem dL_packed_16 : decode bL_packed 16 = .ok (.ireturn, 1) := by decide +kernel
theorem dL_packed_17 : decode bL_packed 17 = .ok (.iconst 0, 1) := by decide +kernel
theorem dL_packed_18 : decode bL_packed 18 = .ok (.ireturn, 1) := by decide +kernel
theorem dL_image_0 : decode bL_image 0 = .ok (.aload_n 2, 1) := by decide +kernel
theorem dL_image_1 : decode bL_image 1 = .ok (.iconst 0, 1) := by decide +kernel
theorem dL_image_2 : decode bL_image 2 = .ok (.aload_n 0, 1) := by decide +kernel
theorem dL_image_3 : decode bL_image 3 = .ok (.iload_n 1, 1) := by decide +kernel
theorem dL_image_4 : decode bL_image 4 = .ok (.invokevirtual 33, 3) := by decide +kernel
theorem dL_image_7 : decode bL_image 7 = .ok (.i2l, 1) := by decide +kernel
theorem dL_image_8 : decode bL_image 8 = .ok (.lastore, 1) := by decide +kernel
theorem dL_image_9 : decode bL_image 9 = .ok (.goto 6, 3) := by decide +kernel
theorem dL_image_12 : decode bL_image 12 = .ok (.astore_n 3, 1) := by decide +kernel
theorem dL_image_13 : decode bL_image 13 = .ok (.iconst 1, 1) := by decide +kernel
theorem dL_image_14 : decode bL_image 14 = .ok (.ireturn, 1) := by decide +kernel
theorem dL_image_15 : decode bL_image 15 = .ok (.iconst 0, 1) := by decide +kernel
theorem dL_image_16 : decode bL_image 16 = .ok (.ireturn, 1) := by decide +kernel
theorem dL_spoil_0 : decode bL_spoil 0 = .ok (.aload_n 0, 1) := by decide +kernel
theorem dL_spoil_1 : decode bL_spoil 1 = .ok (.iload_n 1, 1) := by decide +kernel
theorem dL_spoil_2 : decode bL_spoil 2 = .ok (.iload_n 2, 1) := by decide +kernel
theorem dL_spoil_3 : decode bL_spoil 3 = .ok (.invokevirtual 36, 3) := by decide +kernel
theorem dL_spoil_6 : decode bL_spoil 6 = .ok (.goto 6, 3) := by decide +kernel
theorem dL_spoil_9 : decode bL_spoil 9 = .ok (.astore_n 3, 1) := by decide +kernel
theorem dL_spoil_10 : decode bL_spoil 10 = .ok (.iconst 1, 1) := by decide +kernel
theorem dL_spoil_11 : decode bL_spoil 11 = .ok (.ireturn, 1) := by decide +kernel
theorem dL_spoil_12 : decode bL_spoil 12 = .ok (.iconst 0, 1) := by decide +kernel
theorem dL_spoil_13 : decode bL_spoil 13 = .ok (.ireturn, 1) := by decide +kernel
theorem dL_valid_0 : decode bL_valid 0 = .ok (.aload_n 1, 1) := by decide +kernel
theorem dL_valid_1 : decode bL_valid 1 = .ok (.iconst 0, 1) := by decide +kernel
theorem dL_valid_2 : decode bL_valid 2 = .ok (.aload_n 0, 1) := by decide +kernel
theorem dL_valid_3 : decode bL_valid 3 = .ok (.invokevirtual 39, 3) := by decide +kernel
theorem dL_valid_6 : decode bL_valid 6 = .ok (.i2l, 1) := by decide +kernel
theorem dL_valid_7 : decode bL_valid 7 = .ok (.lastore, 1) := by decide +kernel
theorem dL_valid_8 : decode bL_valid 8 = .ok (.goto 6, 3) := by decide +kernel
theorem dL_valid_11 : decode bL_valid 11 = .ok (.astore_n 2, 1) := by decide +kernel
theorem dL_valid_12 : decode bL_valid 12 = .ok (.iconst 1, 1) := by decide +kernel
theorem dL_valid_13 : decode bL_valid 13 = .ok (.ireturn, 1) := by decide +kernel
theorem dL_valid_14 : decode bL_valid 14 = .ok (.iconst 0, 1) := by decide +kernel
theorem dL_valid_15 : decode bL_valid 15 = .ok (.ireturn, 1) := by decide +kernel
theorem dL_raise_0 : decode bL_raise 0 = .ok (.aload_n 0, 1) := by decide +kernel
theorem dL_raise_1 : decode bL_raise 1 = .ok (.iload_n 1, 1) := by decide +kernel
theorem dL_raise_2 : decode bL_raise 2 = .ok (.invokevirtual 43, 3) := by decide +kernel
theorem dL_raise_5 : decode bL_raise 5 = .ok (.goto 6, 3) := by decide +kernel
theorem dL_raise_8 : decode bL_raise 8 = .ok (.astore_n 2, 1) := by decide +kernel
theorem dL_raise_9 : decode bL_raise 9 = .ok (.iconst 1, 1) := by decide +kernel
theorem dL_raise_10 : decode bL_raise 10 = .ok (.ireturn, 1) := by decide +kernel
theorem dL_raise_11 : decode bL_raise 11 = .ok (.iconst 0, 1) := by decide +kernel
theorem dL_raise_12 : decode bL_raise 12 = .ok (.ireturn, 1) := by decide +kernel
theorem dL_run_0 : decode bL_run 0 = .ok (.aload_n 2, 1) := by decide +kernel
theorem dL_run_1 : decode bL_run 1 = .ok (.iconst 0, 1) := by decide +kernel
theorem dL_run_2 : decode bL_run 2 = .ok (.aload_n 0, 1) := by decide +kernel
theorem dL_run_3 : decode bL_run 3 = .ok (.iload_n 1, 1) := by decide +kernel
theorem dL_run_4 : decode bL_run 4 = .ok (.invokevirtual 47, 3) := by decide +kernel
theorem dL_run_7 : decode bL_run 7 = .ok (.i2l, 1) := by decide +kernel
theorem dL_run_8 : decode bL_run 8 = .ok (.lastore, 1) := by decide +kernel
theorem dL_run_9 : decode bL_run 9 = .ok (.goto 6, 3) := by decide +kernel
theorem dL_run_12 : decode bL_run 12 = .ok (.astore_n 3, 1) := by decide +kernel
theorem dL_run_13 : decode bL_run 13 = .ok (.iconst 1, 1) := by decide +kernel
theorem dL_run_14 : decode bL_run 14 = .ok (.ireturn, 1) := by decide +kernel
theorem dL_run_15 : decode bL_run 15 = .ok (.iconst 0, 1) := by decide +kernel
theorem dL_run_16 : decode bL_run 16 = .ok (.ireturn, 1) := by decide +kernel
theorem dL_register_0 : decode bL_register 0 = .ok (.aload_n 2, 1) := by decide +kernel
theorem dL_register_1 : decode bL_register 1 = .ok (.iconst 0, 1) := by decide +kernel
theorem dL_register_2 : decode bL_register 2 = .ok (.aload_n 0, 1) := by decide +kernel
theorem dL_register_3 : decode bL_register 3 = .ok (.iload_n 1, 1) := by decide +kernel
theorem dL_register_4 : decode bL_register 4 = .ok (.invokevirtual 50, 3) := by decide +kernel
theorem dL_register_7 : decode bL_register 7 = .ok (.i2l, 1) := by decide +kernel
theorem dL_register_8 : decode bL_register 8 = .ok (.lastore, 1) := by decide +kernel
theorem dL_register_9 : decode bL_register 9 = .ok (.goto 6, 3) := by decide +kernel
theorem dL_register_12 : decode bL_register 12 = .ok (.astore_n 3, 1) := by decide +kernel
theorem dL_register_13 : decode bL_register 13 = .ok (.iconst 1, 1) := by decide +kernel
theorem dL_register_14 : decode bL_register 14 = .ok (.ireturn, 1) := by decide +kernel
theorem dL_register_15 : decode bL_register 15 = .ok (.iconst 0, 1) := by decide +kernel
theorem dL_register_16 : decode bL_register 16 = .ok (.ireturn, 1) := by decide +kernel
theorem dL_peek_0 : decode bL_peek 0 = .ok (.aload_n 2, 1) := by decide +kernel
theorem dL_peek_1 : decode bL_peek 1 = .ok (.iconst 0, 1) := by decide +kernel
theorem dL_peek_2 : decode bL_peek 2 = .ok (.aload_n 0, 1) := by decide +kernel
theorem dL_peek_3 : decode bL_peek 3 = .ok (.iload_n 1, 1) := by decide +kernel
theorem dL_peek_4 : decode bL_peek 4 = .ok (.invokevirtual 53, 3) := by decide +kernel
theorem dL_peek_7 : decode bL_peek 7 = .ok (.i2l, 1) := by decide +kernel
theorem dL_peek_8 : decode bL_peek 8 = .ok (.lastore, 1) := by decide +kernel
theorem dL_peek_9 : decode bL_peek 9 = .ok (.goto 6, 3) := by decide +kernel
theorem dL_peek_12 : decode bL_peek 12 = .ok (.astore_n 3, 1) := by decide +kernel
theorem dL_peek_13 : decode bL_peek 13 = .ok (.iconst 1, 1) := by decide +kernel
theorem dL_peek_14 : decode bL_peek 14 = .ok (.ireturn, 1) := by decide +kernel
theorem dL_peek_15 : decode bL_peek 15 = .ok (.iconst 0, 1) := by decide +kernel
theorem dL_peek_16 : decode bL_peek 16 = .ok (.ireturn, 1) := by decide +kernel
theorem dL_byteSent_0 : decode bL_byteSent 0 = .ok (.aload_n 2, 1) := by decide +kernel
theorem dL_byteSent_1 : decode bL_byteSent 1 = .ok (.iconst 0, 1) := by decide +kernel
theorem dL_byteSent_2 : decode bL_byteSent 2 = .ok (.aload_n 0, 1) := by decide +kernel
theorem dL_byteSent_3 : decode bL_byteSent 3 = .ok (.iload_n 1, 1) := by decide +kernel
theorem dL_byteSent_4 : decode bL_byteSent 4 = .ok (.invokevirtual 56, 3) := by decide +kernel
theorem dL_byteSent_7 : decode bL_byteSent 7 = .ok (.i2l, 1) := by decide +kernel
theorem dL_byteSent_8 : decode bL_byteSent 8 = .ok (.lastore, 1) := by decide +kernel
theorem dL_byteSent_9 : decode bL_byteSent 9 = .ok (.goto 6, 3) := by decide +kernel
theorem dL_byteSent_12 : decode bL_byteSent 12 = .ok (.astore_n 3, 1) := by decide +kernel
theorem dL_byteSent_13 : decode bL_byteSent 13 = .ok (.iconst 1, 1) := by decide +kernel
theorem dL_byteSent_14 : decode bL_byteSent 14 = .ok (.ireturn, 1) := by decide +kernel
theorem dL_byteSent_15 : decode bL_byteSent 15 = .ok (.iconst 0, 1) := by decide +kernel
theorem dL_byteSent_16 : decode bL_byteSent 16 = .ok (.ireturn, 1) := by decide +kernel
