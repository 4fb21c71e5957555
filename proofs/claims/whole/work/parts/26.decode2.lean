theorem d_Model_init_0 : decode b_Model_init 0 = .ok (.aload_n 0, 1) := by decide +kernel
theorem d_Model_init_1 : decode b_Model_init 1 = .ok (.invokespecial 1, 3) := by decide +kernel
theorem d_Model_init_4 : decode b_Model_init 4 = .ok (.aload_n 0, 1) := by decide +kernel
theorem d_Model_init_5 : decode b_Model_init 5 = .ok (.bipush 64, 2) := by decide +kernel
theorem d_Model_init_7 : decode b_Model_init 7 = .ok (.newarray .int, 2) := by decide +kernel
theorem d_Model_init_9 : decode b_Model_init 9 = .ok (.putfield 9, 3) := by decide +kernel
theorem d_Model_init_12 : decode b_Model_init 12 = .ok (.aload_n 0, 1) := by decide +kernel
theorem d_Model_init_13 : decode b_Model_init 13 = .ok (.bipush 64, 2) := by decide +kernel
theorem d_Model_init_15 : decode b_Model_init 15 = .ok (.newarray .int, 2) := by decide +kernel
theorem d_Model_init_17 : decode b_Model_init 17 = .ok (.putfield 13, 3) := by decide +kernel
theorem d_Model_init_20 : decode b_Model_init 20 = .ok (.aload_n 0, 1) := by decide +kernel
theorem d_Model_init_21 : decode b_Model_init 21 = .ok (.sipush 576, 3) := by decide +kernel
theorem d_Model_init_24 : decode b_Model_init 24 = .ok (.newarray .int, 2) := by decide +kernel
theorem d_Model_init_26 : decode b_Model_init 26 = .ok (.putfield 16, 3) := by decide +kernel
theorem d_Model_init_29 : decode b_Model_init 29 = .ok (.aload_n 0, 1) := by decide +kernel
theorem d_Model_init_30 : decode b_Model_init 30 = .ok (.bipush 64, 2) := by decide +kernel
theorem d_Model_init_32 : decode b_Model_init 32 = .ok (.newarray .boolean, 2) := by decide +kernel
theorem d_Model_init_34 : decode b_Model_init 34 = .ok (.putfield 19, 3) := by decide +kernel
theorem d_Model_init_37 : decode b_Model_init 37 = .ok (.aload_n 0, 1) := by decide +kernel
theorem d_Model_init_38 : decode b_Model_init 38 = .ok (.bipush 8, 2) := by decide +kernel
theorem d_Model_init_40 : decode b_Model_init 40 = .ok (.newarray .int, 2) := by decide +kernel
theorem d_Model_init_42 : decode b_Model_init 42 = .ok (.putfield 23, 3) := by decide +kernel
theorem d_Model_init_45 : decode b_Model_init 45 = .ok (.aload_n 0, 1) := by decide +kernel
theorem d_Model_init_46 : decode b_Model_init 46 = .ok (.iconst 4, 1) := by decide +kernel
theorem d_Model_init_47 : decode b_Model_init 47 = .ok (.newarray .int, 2) := by decide +kernel
theorem d_Model_init_49 : decode b_Model_init 49 = .ok (.putfield 26, 3) := by decide +kernel
theorem d_Model_init_52 : decode b_Model_init 52 = .ok (.aload_n 0, 1) := by decide +kernel
theorem d_Model_init_53 : decode b_Model_init 53 = .ok (.bipush 20, 2) := by decide +kernel
theorem d_Model_init_55 : decode b_Model_init 55 = .ok (.newarray .int, 2) := by decide +kernel
theorem d_Model_init_57 : decode b_Model_init 57 = .ok (.putfield 29, 3) := by decide +kernel
theorem d_Model_init_60 : decode b_Model_init 60 = .ok (.aload_n 0, 1) := by decide +kernel
theorem d_Model_init_61 : decode b_Model_init 61 = .ok (.bipush 20, 2) := by decide +kernel
theorem d_Model_init_63 : decode b_Model_init 63 = .ok (.newarray .int, 2) := by decide +kernel
theorem d_Model_init_65 : decode b_Model_init 65 = .ok (.putfield 32, 3) := by decide +kernel
theorem d_Model_init_68 : decode b_Model_init 68 = .ok (.aload_n 0, 1) := by decide +kernel
theorem d_Model_init_69 : decode b_Model_init 69 = .ok (.iload_n 1, 1) := by decide +kernel
theorem d_Model_init_70 : decode b_Model_init 70 = .ok (.iconst 3, 1) := by decide +kernel
theorem d_Model_init_71 : decode b_Model_init 71 = .ok (.iand, 1) := by decide +kernel
theorem d_Model_init_72 : decode b_Model_init 72 = .ok (.putfield 35, 3) := by decide +kernel
theorem d_Model_init_75 : decode b_Model_init 75 = .ok (.return_, 1) := by decide +kernel
theorem d_Model_code_0 : decode b_Model_code 0 = .ok (.aload_n 0, 1) := by decide +kernel
theorem d_Model_code_1 : decode b_Model_code 1 = .ok (.getfield 39, 3) := by decide +kernel
theorem d_Model_code_4 : decode b_Model_code 4 = .ok (.bipush 64, 2) := by decide +kernel
theorem d_Model_code_6 : decode b_Model_code 6 = .ok (.if_icmp .ne 6, 3) := by decide +kernel
theorem d_Model_code_9 : decode b_Model_code 9 = .ok (.bipush (-3), 2) := by decide +kernel
theorem d_Model_code_11 : decode b_Model_code 11 = .ok (.ireturn, 1) := by decide +kernel
theorem d_Model_code_12 : decode b_Model_code 12 = .ok (.aload_n 0, 1) := by decide +kernel
theorem d_Model_code_13 : decode b_Model_code 13 = .ok (.getfield 9, 3) := by decide +kernel
theorem d_Model_code_16 : decode b_Model_code 16 = .ok (.aload_n 0, 1) := by decide +kernel
theorem d_Model_code_17 : decode b_Model_code 17 = .ok (.getfield 39, 3) := by decide +kernel
theorem d_Model_code_20 : decode b_Model_code 20 = .ok (.iload_n 1, 1) := by decide +kernel
theorem d_Model_code_21 : decode b_Model_code 21 = .ok (.iastore, 1) := by decide +kernel
theorem d_Model_code_22 : decode b_Model_code 22 = .ok (.aload_n 0, 1) := by decide +kernel
theorem d_Model_code_23 : decode b_Model_code 23 = .ok (.getfield 13, 3) := by decide +kernel
theorem d_Model_code_26 : decode b_Model_code 26 = .ok (.aload_n 0, 1) := by decide +kernel
theorem d_Model_code_27 : decode b_Model_code 27 = .ok (.getfield 39, 3) := by decide +kernel
theorem d_Model_code_30 : decode b_Model_code 30 = .ok (.iload_n 2, 1) := by decide +kernel
theorem d_Model_code_31 : decode b_Model_code 31 = .ok (.iastore, 1) := by decide +kernel
theorem d_Model_code_32 : decode b_Model_code 32 = .ok (.aload_n 0, 1) := by decide +kernel
theorem d_Model_code_33 : decode b_Model_code 33 = .ok (.dup, 1) := by decide +kernel
theorem d_Model_code_34 : decode b_Model_code 34 = .ok (.getfield 39, 3) := by decide +kernel
theorem d_Model_code_37 : decode b_Model_code 37 = .ok (.iconst 1, 1) := by decide +kernel
theorem d_Model_code_38 : decode b_Model_code 38 = .ok (.iadd, 1) := by decide +kernel
theorem d_Model_code_39 : decode b_Model_code 39 = .ok (.putfield 39, 3) := by decide +kernel
theorem d_Model_code_42 : decode b_Model_code 42 = .ok (.aload_n 0, 1) := by decide +kernel
theorem d_Model_code_43 : decode b_Model_code 43 = .ok (.getfield 39, 3) := by decide +kernel
theorem d_Model_code_46 : decode b_Model_code 46 = .ok (.iconst 1, 1) := by decide +kernel
theorem d_Model_code_47 : decode b_Model_code 47 = .ok (.isub, 1) := by decide +kernel
theorem d_Model_code_48 : decode b_Model_code 48 = .ok (.ireturn, 1) := by decide +kernel
theorem d_Model_clear_0 : decode b_Model_clear 0 = .ok (.aload_n 0, 1) := by decide +kernel
theorem d_Model_clear_1 : decode b_Model_clear 1 = .ok (.getfield 39, 3) := by decide +kernel
theorem d_Model_clear_4 : decode b_Model_clear 4 = .ok (.istore_n 1, 1) := by decide +kernel
theorem d_Model_clear_5 : decode b_Model_clear 5 = .ok (.aload_n 0, 1) := by decide +kernel
theorem d_Model_clear_6 : decode b_Model_clear 6 = .ok (.iconst 0, 1) := by decide +kernel
theorem d_Model_clear_7 : decode b_Model_clear 7 = .ok (.putfield 39, 3) := by decide +kernel
theorem d_Model_clear_10 : decode b_Model_clear 10 = .ok (.iload_n 1, 1) := by decide +kernel
theorem d_Model_clear_11 : decode b_Model_clear 11 = .ok (.ireturn, 1) := by decide +kernel
theorem d_Model_drop_0 : decode b_Model_drop 0 = .ok (.aload_n 0, 1) := by decide +kernel
theorem d_Model_drop_1 : decode b_Model_drop 1 = .ok (.getfield 39, 3) := by decide +kernel
theorem d_Model_drop_4 : decode b_Model_drop 4 = .ok (.ifCond .ne 6, 3) := by decide +kernel
theorem d_Model_drop_7 : decode b_Model_drop 7 = .ok (.bipush (-2), 2) := by decide +kernel
theorem d_Model_drop_9 : decode b_Model_drop 9 = .ok (.ireturn, 1) := by decide +kernel
theorem d_Model_drop_10 : decode b_Model_drop 10 = .ok (.aload_n 0, 1) := by decide +kernel
theorem d_Model_drop_11 : decode b_Model_drop 11 = .ok (.dup, 1) := by decide +kernel
theorem d_Model_drop_12 : decode b_Model_drop 12 = .ok (.getfield 39, 3) := by decide +kernel
theorem d_Model_drop_15 : decode b_Model_drop 15 = .ok (.iconst 1, 1) := by decide +kernel
theorem d_Model_drop_16 : decode b_Model_drop 16 = .ok (.isub, 1) := by decide +kernel
theorem d_Model_drop_17 : decode b_Model_drop 17 = .ok (.putfield 39, 3) := by decide +kernel
theorem d_Model_drop_20 : decode b_Model_drop 20 = .ok (.aload_n 0, 1) := by decide +kernel
theorem d_Model_drop_21 : decode b_Model_drop 21 = .ok (.getfield 39, 3) := by decide +kernel
theorem d_Model_drop_24 : decode b_Model_drop 24 = .ok (.ireturn, 1) := by decide +kernel
theorem d_Model_isBad_0 : decode b_Model_isBad 0 = .ok (.aload_n 0, 1) := by decide +kernel
theorem d_Model_isBad_1 : decode b_Model_isBad 1 = .ok (.getfield 9, 3) := by decide +kernel
theorem d_Model_isBad_4 : decode b_Model_isBad 4 = .ok (.iload_n 1, 1) := by decide +kernel
theorem d_Model_isBad_5 : decode b_Model_isBad 5 = .ok (.iaload, 1) := by decide +kernel
theorem d_Model_isBad_6 : decode b_Model_isBad 6 = .ok (.istore_n 2, 1) := by decide +kernel
theorem d_Model_isBad_7 : decode b_Model_isBad 7 = .ok (.aload_n 0, 1) := by decide +kernel
theorem d_Model_isBad_8 : decode b_Model_isBad 8 = .ok (.getfield 13, 3) := by decide +kernel
theorem d_Model_isBad_11 : decode b_Model_isBad 11 = .ok (.iload_n 1, 1) := by decide +kernel
theorem d_Model_isBad_12 : decode b_Model_isBad 12 = .ok (.iaload, 1) := by decide +kernel
theorem d_Model_isBad_13 : decode b_Model_isBad 13 = .ok (.istore_n 3, 1) := by decide +kernel
theorem d_Model_isBad_14 : decode b_Model_isBad 14 = .ok (.iload_n 2, 1) := by decide +kernel
theorem d_Model_isBad_15 : decode b_Model_isBad 15 = .ok (.ifCond .lt 36, 3) := by decide +kernel
theorem d_Model_isBad_18 : decode b_Model_isBad 18 = .ok (.iload_n 2, 1) := by decide +kernel
theorem d_Model_isBad_19 : decode b_Model_isBad 19 = .ok (.bipush 18, 2) := by decide +kernel
theorem d_Model_isBad_21 : decode b_Model_isBad 21 = .ok (.if_icmp .gt 30, 3) := by decide +kernel
theorem d_Model_isBad_24 : decode b_Model_isBad 24 = .ok (.iload_n 2, 1) := by decide +kernel
theorem d_Model_isBad_25 : decode b_Model_isBad 25 = .ok (.bipush 16, 2) := by decide +kernel
theorem d_Model_isBad_27 : decode b_Model_isBad 27 = .ok (.if_icmp .ne 10, 3) := by decide +kernel
theorem d_Model_isBad_30 : decode b_Model_isBad 30 = .ok (.aload_n 0, 1) := by decide +kernel
theorem d_Model_isBad_31 : decode b_Model_isBad 31 = .ok (.getfield 35, 3) := by decide +kernel
theorem d_Model_isBad_34 : decode b_Model_isBad 34 = .ok (.ifCond .ne 17, 3) := by decide +kernel
theorem d_Model_isBad_37 : decode b_Model_isBad 37 = .ok (.iload_n 2, 1) := by decide +kernel
theorem d_Model_isBad_38 : decode b_Model_isBad 38 = .ok (.bipush 18, 2) := by decide +kernel
theorem d_Model_isBad_40 : decode b_Model_isBad 40 = .ok (.if_icmp .ne 13, 3) := by decide +kernel
theorem d_Model_isBad_43 : decode b_Model_isBad 43 = .ok (.aload_n 0, 1) := by decide +kernel
theorem d_Model_isBad_44 : decode b_Model_isBad 44 = .ok (.getfield 35, 3) := by decide +kernel
theorem d_Model_isBad_47 : decode b_Model_isBad 47 = .ok (.iconst 3, 1) := by decide +kernel
theorem d_Model_isBad_48 : decode b_Model_isBad 48 = .ok (.if_icmp .eq 5, 3) := by decide +kernel
theorem d_Model_isBad_51 : decode b_Model_isBad 51 = .ok (.iconst 1, 1) := by decide +kernel
theorem d_Model_isBad_52 : decode b_Model_isBad 52 = .ok (.ireturn, 1) := by decide +kernel
theorem d_Model_isBad_53 : decode b_Model_isBad 53 = .ok (.iload_n 2, 1) := by decide +kernel
theorem d_Model_isBad_54 : decode b_Model_isBad 54 = .ok (.iconst 1, 1) := by decide +kernel
theorem d_Model_isBad_55 : decode b_Model_isBad 55 = .ok (.if_icmp .ne 38, 3) := by decide +kernel
theorem d_Model_isBad_58 : decode b_Model_isBad 58 = .ok (.iload_n 3, 1) := by decide +kernel
theorem d_Model_isBad_59 : decode b_Model_isBad 59 = .ok (.ifCond .lt 28, 3) := by decide +kernel
theorem d_Model_isBad_62 : decode b_Model_isBad 62 = .ok (.iload_n 3, 1) := by decide +kernel
theorem d_Model_isBad_63 : decode b_Model_isBad 63 = .ok (.iconst 2, 1) := by decide +kernel
theorem d_Model_isBad_64 : decode b_Model_isBad 64 = .ok (.if_icmp .gt 23, 3) := by decide +kernel
theorem d_Model_isBad_67 : decode b_Model_isBad 67 = .ok (.iload_n 3, 1) := by decide +kernel
theorem d_Model_isBad_68 : decode b_Model_isBad 68 = .ok (.iconst 2, 1) := by decide +kernel
theorem d_Model_isBad_69 : decode b_Model_isBad 69 = .ok (.if_icmp .ne 22, 3) := by decide +kernel
theorem d_Model_isBad_72 : decode b_Model_isBad 72 = .ok (.aload_n 0, 1) := by decide +kernel
theorem d_Model_isBad_73 : decode b_Model_isBad 73 = .ok (.getfield 35, 3) := by decide +kernel
theorem d_Model_isBad_76 : decode b_Model_isBad 76 = .ok (.ifCond .eq 11, 3) := by decide +kernel
theorem d_Model_isBad_79 : decode b_Model_isBad 79 = .ok (.aload_n 0, 1) := by decide +kernel
theorem d_Model_isBad_80 : decode b_Model_isBad 80 = .ok (.getfield 35, 3) := by decide +kernel
theorem d_Model_isBad_83 : decode b_Model_isBad 83 = .ok (.iconst 3, 1) := by decide +kernel
theorem d_Model_isBad_84 : decode b_Model_isBad 84 = .ok (.if_icmp .ne 7, 3) := by decide +kernel
theorem d_Model_isBad_87 : decode b_Model_isBad 87 = .ok (.iconst 1, 1) := by decide +kernel
theorem d_Model_isBad_88 : decode b_Model_isBad 88 = .ok (.goto 4, 3) := by decide +kernel
theorem d_Model_isBad_91 : decode b_Model_isBad 91 = .ok (.iconst 0, 1) := by decide +kernel
theorem d_Model_isBad_92 : decode b_Model_isBad 92 = .ok (.ireturn, 1) := by decide +kernel
theorem d_Model_isBad_93 : decode b_Model_isBad 93 = .ok (.iload_n 2, 1) := by decide +kernel
theorem d_Model_isBad_94 : decode b_Model_isBad 94 = .ok (.iconst 2, 1) := by decide +kernel
theorem d_Model_isBad_95 : decode b_Model_isBad 95 = .ok (.if_icmp .eq 8, 3) := by decide +kernel
theorem d_Model_isBad_98 : decode b_Model_isBad 98 = .ok (.iload_n 2, 1) := by decide +kernel
theorem d_Model_isBad_99 : decode b_Model_isBad 99 = .ok (.iconst 3, 1) := by decide +kernel
theorem d_Model_isBad_100 : decode b_Model_isBad 100 = .ok (.if_icmp .ne 18, 3) := by decide +kernel
theorem d_Model_isBad_103 : decode b_Model_isBad 103 = .ok (.iload_n 3, 1) := by decide +kernel
theorem d_Model_isBad_104 : decode b_Model_isBad 104 = .ok (.ifCond .lt 8, 3) := by decide +kernel
theorem d_Model_isBad_107 : decode b_Model_isBad 107 = .ok (.iload_n 3, 1) := by decide +kernel
theorem d_Model_isBad_108 : decode b_Model_isBad 108 = .ok (.iconst 3, 1) := by decide +kernel
theorem d_Model_isBad_109 : decode b_Model_isBad 109 = .ok (.if_icmp .le 7, 3) := by decide +kernel
theorem d_Model_isBad_112 : decode b_Model_isBad 112 = .ok (.iconst 1, 1) := by decide +kernel
theorem d_Model_isBad_113 : decode b_Model_isBad 113 = .ok (.goto 4, 3) := by decide +kernel
theorem d_Model_isBad_116 : decode b_Model_isBad 116 = .ok (.iconst 0, 1) := by decide +kernel
theorem d_Model_isBad_117 : decode b_Model_isBad 117 = .ok (.ireturn, 1) := by decide +kernel
theorem d_Model_isBad_118 : decode b_Model_isBad 118 = .ok (.iload_n 2, 1) := by decide +kernel
theorem d_Model_isBad_119 : decode b_Model_isBad 119 = .ok (.bipush 14, 2) := by decide +kernel
theorem d_Model_isBad_121 : decode b_Model_isBad 121 = .ok (.if_icmp .eq 9, 3) := by decide +kernel
theorem d_Model_isBad_124 : decode b_Model_isBad 124 = .ok (.iload_n 2, 1) := by decide +kernel
theorem d_Model_isBad_125 : decode b_Model_isBad 125 = .ok (.bipush 15, 2) := by decide +kernel
theorem d_Model_isBad_127 : decode b_Model_isBad 127 = .ok (.if_icmp .ne 19, 3) := by decide +kernel
theorem d_Model_isBad_130 : decode b_Model_isBad 130 = .ok (.iload_n 3, 1) := by decide +kernel
theorem d_Model_isBad_131 : decode b_Model_isBad 131 = .ok (.ifCond .lt 11, 3) := by decide +kernel
theorem d_Model_isBad_134 : decode b_Model_isBad 134 = .ok (.iload_n 3, 1) := by decide +kernel
theorem d_Model_isBad_135 : decode b_Model_isBad 135 = .ok (.aload_n 0, 1) := by decide +kernel
theorem d_Model_isBad_136 : decode b_Model_isBad 136 = .ok (.getfield 39, 3) := by decide +kernel
theorem d_Model_isBad_139 : decode b_Model_isBad 139 = .ok (.if_icmp .lt 7, 3) := by decide +kernel
theorem d_Model_isBad_142 : decode b_Model_isBad 142 = .ok (.iconst 1, 1) := by decide +kernel
theorem d_Model_isBad_143 : decode b_Model_isBad 143 = .ok (.goto 4, 3) := by decide +kernel
theorem d_Model_isBad_146 : decode b_Model_isBad 146 = .ok (.iconst 0, 1) := by decide +kernel
theorem d_Model_isBad_147 : decode b_Model_isBad 147 = .ok (.ireturn, 1) := by decide +kernel
theorem d_Model_needs_0 : decode b_Model_needs 0 = .ok (.iload_n 1, 1) := by decide +kernel
theorem d_Model_needs_1 : decode b_Model_needs 1 = .ok (.iconst 5, 1) := by decide +kernel
theorem d_Model_needs_2 : decode b_Model_needs 2 = .ok (.if_icmp .eq 21, 3) := by decide +kernel
theorem d_Model_needs_5 : decode b_Model_needs 5 = .ok (.iload_n 1, 1) := by decide +kernel
theorem d_Model_needs_6 : decode b_Model_needs 6 = .ok (.bipush 7, 2) := by decide +kernel
theorem d_Model_needs_8 : decode b_Model_needs 8 = .ok (.if_icmp .lt 9, 3) := by decide +kernel
theorem d_Model_needs_11 : decode b_Model_needs 11 = .ok (.iload_n 1, 1) := by decide +kernel
theorem d_Model_needs_12 : decode b_Model_needs 12 = .ok (.bipush 13, 2) := by decide +kernel
theorem d_Model_needs_14 : decode b_Model_needs 14 = .ok (.if_icmp .le 9, 3) := by decide +kernel
theorem d_Model_needs_17 : decode b_Model_needs 17 = .ok (.iload_n 1, 1) := by decide +kernel
theorem d_Model_needs_18 : decode b_Model_needs 18 = .ok (.bipush 16, 2) := by decide +kernel
theorem d_Model_needs_20 : decode b_Model_needs 20 = .ok (.if_icmp .ne 5, 3) := by decide +kernel
theorem d_Model_needs_23 : decode b_Model_needs 23 = .ok (.iconst 2, 1) := by decide +kernel
theorem d_Model_needs_24 : decode b_Model_needs 24 = .ok (.ireturn, 1) := by decide +kernel
theorem d_Model_needs_25 : decode b_Model_needs 25 = .ok (.iload_n 1, 1) := by decide +kernel
theorem d_Model_needs_26 : decode b_Model_needs 26 = .ok (.iconst 3, 1) := by decide +kernel
theorem d_Model_needs_27 : decode b_Model_needs 27 = .ok (.if_icmp .eq 20, 3) := by decide +kernel
theorem d_Model_needs_30 : decode b_Model_needs 30 = .ok (.iload_n 1, 1) := by decide +kernel
theorem d_Model_needs_31 : decode b_Model_needs 31 = .ok (.iconst 4, 1) := by decide +kernel
theorem d_Model_needs_32 : decode b_Model_needs 32 = .ok (.if_icmp .eq 15, 3) := by decide +kernel
theorem d_Model_needs_35 : decode b_Model_needs 35 = .ok (.iload_n 1, 1) := by decide +kernel
theorem d_Model_needs_36 : decode b_Model_needs 36 = .ok (.bipush 6, 2) := by decide +kernel
theorem d_Model_needs_38 : decode b_Model_needs 38 = .ok (.if_icmp .eq 9, 3) := by decide +kernel
theorem d_Model_needs_41 : decode b_Model_needs 41 = .ok (.iload_n 1, 1) := by decide +kernel
theorem d_Model_needs_42 : decode b_Model_needs 42 = .ok (.bipush 15, 2) := by decide +kernel
theorem d_Model_needs_44 : decode b_Model_needs 44 = .ok (.if_icmp .ne 5, 3) := by decide +kernel
theorem d_Model_needs_47 : decode b_Model_needs 47 = .ok (.iconst 1, 1) := by decide +kernel
theorem d_Model_needs_48 : decode b_Model_needs 48 = .ok (.ireturn, 1) := by decide +kernel
theorem d_Model_needs_49 : decode b_Model_needs 49 = .ok (.iload_n 1, 1) := by decide +kernel
theorem d_Model_needs_50 : decode b_Model_needs 50 = .ok (.bipush 17, 2) := by decide +kernel
theorem d_Model_needs_52 : decode b_Model_needs 52 = .ok (.if_icmp .ne 14, 3) := by decide +kernel
theorem d_Model_needs_55 : decode b_Model_needs 55 = .ok (.aload_n 0, 1) := by decide +kernel
theorem d_Model_needs_56 : decode b_Model_needs 56 = .ok (.getfield 35, 3) := by decide +kernel
theorem d_Model_needs_59 : decode b_Model_needs 59 = .ok (.ifCond .eq 7, 3) := by decide +kernel
theorem d_Model_needs_62 : decode b_Model_needs 62 = .ok (.iconst 1, 1) := by decide +kernel
theorem d_Model_needs_63 : decode b_Model_needs 63 = .ok (.goto 4, 3) := by decide +kernel
theorem d_Model_needs_66 : decode b_Model_needs 66 = .ok (.iconst 0, 1) := by decide +kernel
theorem d_Model_needs_67 : decode b_Model_needs 67 = .ok (.ireturn, 1) := by decide +kernel
theorem d_Model_grows_0 : decode b_Model_grows 0 = .ok (.iload_n 0, 1) := by decide +kernel
theorem d_Model_grows_1 : decode b_Model_grows 1 = .ok (.iconst 2, 1) := by decide +kernel
theorem d_Model_grows_2 : decode b_Model_grows 2 = .ok (.if_icmp .le 8, 3) := by decide +kernel
theorem d_Model_grows_5 : decode b_Model_grows 5 = .ok (.iload_n 0, 1) := by decide +kernel
theorem d_Model_grows_6 : decode b_Model_grows 6 = .ok (.iconst 4, 1) := by decide +kernel
theorem d_Model_grows_7 : decode b_Model_grows 7 = .ok (.if_icmp .ne 5, 3) := by decide +kernel
theorem d_Model_grows_10 : decode b_Model_grows 10 = .ok (.iconst 1, 1) := by decide +kernel
theorem d_Model_grows_11 : decode b_Model_grows 11 = .ok (.ireturn, 1) := by decide +kernel
theorem d_Model_grows_12 : decode b_Model_grows 12 = .ok (.iload_n 0, 1) := by decide +kernel
theorem d_Model_grows_13 : decode b_Model_grows 13 = .ok (.iconst 3, 1) := by decide +kernel
theorem d_Model_grows_14 : decode b_Model_grows 14 = .ok (.if_icmp .eq 27, 3) := by decide +kernel
theorem d_Model_grows_17 : decode b_Model_grows 17 = .ok (.iload_n 0, 1) := by decide +kernel
theorem d_Model_grows_18 : decode b_Model_grows 18 = .ok (.bipush 6, 2) := by decide +kernel
theorem d_Model_grows_20 : decode b_Model_grows 20 = .ok (.if_icmp .eq 21, 3) := by decide +kernel
theorem d_Model_grows_23 : decode b_Model_grows 23 = .ok (.iload_n 0, 1) := by decide +kernel
theorem d_Model_grows_24 : decode b_Model_grows 24 = .ok (.bipush 7, 2) := by decide +kernel
theorem d_Model_grows_26 : decode b_Model_grows 26 = .ok (.if_icmp .lt 9, 3) := by decide +kernel
theorem d_Model_grows_29 : decode b_Model_grows 29 = .ok (.iload_n 0, 1) := by decide +kernel
theorem d_Model_grows_30 : decode b_Model_grows 30 = .ok (.bipush 13, 2) := by decide +kernel
theorem d_Model_grows_32 : decode b_Model_grows 32 = .ok (.if_icmp .le 9, 3) := by decide +kernel
theorem d_Model_grows_35 : decode b_Model_grows 35 = .ok (.iload_n 0, 1) := by decide +kernel
theorem d_Model_grows_36 : decode b_Model_grows 36 = .ok (.bipush 15, 2) := by decide +kernel
theorem d_Model_grows_38 : decode b_Model_grows 38 = .ok (.if_icmp .ne 5, 3) := by decide +kernel
theorem d_Model_grows_41 : decode b_Model_grows 41 = .ok (.iconst (-1), 1) := by decide +kernel
theorem d_Model_grows_42 : decode b_Model_grows 42 = .ok (.ireturn, 1) := by decide +kernel
theorem d_Model_grows_43 : decode b_Model_grows 43 = .ok (.iload_n 0, 1) := by decide +kernel
theorem d_Model_grows_44 : decode b_Model_grows 44 = .ok (.bipush 16, 2) := by decide +kernel
theorem d_Model_grows_46 : decode b_Model_grows 46 = .ok (.if_icmp .ne 8, 3) := by decide +kernel
theorem d_Model_grows_49 : decode b_Model_grows 49 = .ok (.bipush (-2), 2) := by decide +kernel
theorem d_Model_grows_51 : decode b_Model_grows 51 = .ok (.goto 4, 3) := by decide +kernel
theorem d_Model_grows_54 : decode b_Model_grows 54 = .ok (.iconst 0, 1) := by decide +kernel
theorem d_Model_grows_55 : decode b_Model_grows 55 = .ok (.ireturn, 1) := by decide +kernel
theorem d_Model_reach_0 : decode b_Model_reach 0 = .ok (.aload_n 0, 1) := by decide +kernel
theorem d_Model_reach_1 : decode b_Model_reach 1 = .ok (.getfield 16, 3) := by decide +kernel
theorem d_Model_reach_4 : decode b_Model_reach 4 = .ok (.bipush 9, 2) := by decide +kernel
theorem d_Model_reach_6 : decode b_Model_reach 6 = .ok (.iload_n 1, 1) := by decide +kernel
theorem d_Model_reach_7 : decode b_Model_reach 7 = .ok (.imul, 1) := by decide +kernel
theorem d_Model_reach_8 : decode b_Model_reach 8 = .ok (.iload_n 2, 1) := by decide +kernel
theorem d_Model_reach_9 : decode b_Model_reach 9 = .ok (.iadd, 1) := by decide +kernel
theorem d_Model_reach_10 : decode b_Model_reach 10 = .ok (.iaload, 1) := by decide +kernel
theorem d_Model_reach_11 : decode b_Model_reach 11 = .ok (.ifCond .ne 15, 3) := by decide +kernel
theorem d_Model_reach_14 : decode b_Model_reach 14 = .ok (.aload_n 0, 1) := by decide +kernel
theorem d_Model_reach_15 : decode b_Model_reach 15 = .ok (.getfield 16, 3) := by decide +kernel
theorem d_Model_reach_18 : decode b_Model_reach 18 = .ok (.bipush 9, 2) := by decide +kernel
theorem d_Model_reach_20 : decode b_Model_reach 20 = .ok (.iload_n 1, 1) := by decide +kernel
theorem d_Model_reach_21 : decode b_Model_reach 21 = .ok (.imul, 1) := by decide +kernel
theorem d_Model_reach_22 : decode b_Model_reach 22 = .ok (.iload_n 2, 1) := by decide +kernel
theorem d_Model_reach_23 : decode b_Model_reach 23 = .ok (.iadd, 1) := by decide +kernel
theorem d_Model_reach_24 : decode b_Model_reach 24 = .ok (.iconst 1, 1) := by decide +kernel
theorem d_Model_reach_25 : decode b_Model_reach 25 = .ok (.iastore, 1) := by decide +kernel
theorem d_Model_reach_26 : decode b_Model_reach 26 = .ok (.return_, 1) := by decide +kernel
theorem d_Model_goOn_0 : decode b_Model_goOn 0 = .ok (.aload_n 0, 1) := by decide +kernel
theorem d_Model_goOn_1 : decode b_Model_goOn 1 = .ok (.iload_n 1, 1) := by decide +kernel
theorem d_Model_goOn_2 : decode b_Model_goOn 2 = .ok (.invokevirtual 42, 3) := by decide +kernel
theorem d_Model_goOn_5 : decode b_Model_goOn 5 = .ok (.ifCond .eq 4, 3) := by decide +kernel
theorem d_Model_goOn_8 : decode b_Model_goOn 8 = .ok (.return_, 1) := by decide +kernel
theorem d_Model_goOn_9 : decode b_Model_goOn 9 = .ok (.aload_n 0, 1) := by decide +kernel
theorem d_Model_goOn_10 : decode b_Model_goOn 10 = .ok (.getfield 9, 3) := by decide +kernel
theorem d_Model_goOn_13 : decode b_Model_goOn 13 = .ok (.iload_n 1, 1) := by decide +kernel
theorem d_Model_goOn_14 : decode b_Model_goOn 14 = .ok (.iaload, 1) := by decide +kernel
theorem d_Model_goOn_15 : decode b_Model_goOn 15 = .ok (.istore_n 3, 1) := by decide +kernel
theorem d_Model_goOn_16 : decode b_Model_goOn 16 = .ok (.iload_n 2, 1) := by decide +kernel
theorem d_Model_goOn_17 : decode b_Model_goOn 17 = .ok (.iload_n 3, 1) := by decide +kernel
theorem d_Model_goOn_18 : decode b_Model_goOn 18 = .ok (.invokestatic 46, 3) := by decide +kernel
theorem d_Model_goOn_21 : decode b_Model_goOn 21 = .ok (.iadd, 1) := by decide +kernel
theorem d_Model_goOn_22 : decode b_Model_goOn 22 = .ok (.istore 4, 2) := by decide +kernel
theorem d_Model_goOn_24 : decode b_Model_goOn 24 = .ok (.iload_n 3, 1) := by decide +kernel
theorem d_Model_goOn_25 : decode b_Model_goOn 25 = .ok (.bipush 14, 2) := by decide +kernel
theorem d_Model_goOn_27 : decode b_Model_goOn 27 = .ok (.if_icmp .eq 19, 3) := by decide +kernel
theorem d_Model_goOn_30 : decode b_Model_goOn 30 = .ok (.iload_n 3, 1) := by decide +kernel
theorem d_Model_goOn_31 : decode b_Model_goOn 31 = .ok (.bipush 17, 2) := by decide +kernel
theorem d_Model_goOn_33 : decode b_Model_goOn 33 = .ok (.if_icmp .eq 13, 3) := by decide +kernel
theorem d_Model_goOn_36 : decode b_Model_goOn 36 = .ok (.iload_n 3, 1) := by decide +kernel
theorem d_Model_goOn_37 : decode b_Model_goOn 37 = .ok (.bipush 18, 2) := by decide +kernel
theorem d_Model_goOn_39 : decode b_Model_goOn 39 = .ok (.if_icmp .eq 7, 3) := by decide +kernel
theorem d_Model_goOn_42 : decode b_Model_goOn 42 = .ok (.iconst 1, 1) := by decide +kernel
theorem d_Model_goOn_43 : decode b_Model_goOn 43 = .ok (.goto 4, 3) := by decide +kernel
theorem d_Model_goOn_46 : decode b_Model_goOn 46 = .ok (.iconst 0, 1) := by decide +kernel
theorem d_Model_goOn_47 : decode b_Model_goOn 47 = .ok (.istore 5, 2) := by decide +kernel
theorem d_Model_goOn_49 : decode b_Model_goOn 49 = .ok (.iload_n 2, 1) := by decide +kernel
theorem d_Model_goOn_50 : decode b_Model_goOn 50 = .ok (.aload_n 0, 1) := by decide +kernel
theorem d_Model_goOn_51 : decode b_Model_goOn 51 = .ok (.iload_n 3, 1) := by decide +kernel
theorem d_Model_goOn_52 : decode b_Model_goOn 52 = .ok (.invokevirtual 50, 3) := by decide +kernel
theorem d_Model_goOn_55 : decode b_Model_goOn 55 = .ok (.if_icmp .lt 25, 3) := by decide +kernel
theorem d_Model_goOn_58 : decode b_Model_goOn 58 = .ok (.iload 4, 2) := by decide +kernel
theorem d_Model_goOn_60 : decode b_Model_goOn 60 = .ok (.bipush 8, 2) := by decide +kernel
theorem d_Model_goOn_62 : decode b_Model_goOn 62 = .ok (.if_icmp .gt 18, 3) := by decide +kernel
theorem d_Model_goOn_65 : decode b_Model_goOn 65 = .ok (.iload 5, 2) := by decide +kernel
theorem d_Model_goOn_67 : decode b_Model_goOn 67 = .ok (.ifCond .eq 21, 3) := by decide +kernel
theorem d_Model_goOn_70 : decode b_Model_goOn 70 = .ok (.iload_n 1, 1) := by decide +kernel
theorem d_Model_goOn_71 : decode b_Model_goOn 71 = .ok (.iconst 1, 1) := by decide +kernel
theorem d_Model_goOn_72 : decode b_Model_goOn 72 = .ok (.iadd, 1) := by decide +kernel
theorem d_Model_goOn_73 : decode b_Model_goOn 73 = .ok (.aload_n 0, 1) := by decide +kernel
theorem d_Model_goOn_74 : decode b_Model_goOn 74 = .ok (.getfield 39, 3) := by decide +kernel
theorem d_Model_goOn_77 : decode b_Model_goOn 77 = .ok (.if_icmp .ne 11, 3) := by decide +kernel
theorem d_Model_goOn_80 : decode b_Model_goOn 80 = .ok (.aload_n 0, 1) := by decide +kernel
theorem d_Model_goOn_81 : decode b_Model_goOn 81 = .ok (.getfield 19, 3) := by decide +kernel
theorem d_Model_goOn_84 : decode b_Model_goOn 84 = .ok (.iload_n 1, 1) := by decide +kernel
theorem d_Model_goOn_85 : decode b_Model_goOn 85 = .ok (.iconst 1, 1) := by decide +kernel
theorem d_Model_goOn_86 : decode b_Model_goOn 86 = .ok (.bastore, 1) := by decide +kernel
theorem d_Model_goOn_87 : decode b_Model_goOn 87 = .ok (.return_, 1) := by decide +kernel
theorem d_Model_goOn_88 : decode b_Model_goOn 88 = .ok (.iload 5, 2) := by decide +kernel
theorem d_Model_goOn_90 : decode b_Model_goOn 90 = .ok (.ifCond .eq 12, 3) := by decide +kernel
theorem d_Model_goOn_93 : decode b_Model_goOn 93 = .ok (.aload_n 0, 1) := by decide +kernel
theorem d_Model_goOn_94 : decode b_Model_goOn 94 = .ok (.iload_n 1, 1) := by decide +kernel
theorem d_Model_goOn_95 : decode b_Model_goOn 95 = .ok (.iconst 1, 1) := by decide +kernel
theorem d_Model_goOn_96 : decode b_Model_goOn 96 = .ok (.iadd, 1) := by decide +kernel
theorem d_Model_goOn_97 : decode b_Model_goOn 97 = .ok (.iload 4, 2) := by decide +kernel
theorem d_Model_goOn_99 : decode b_Model_goOn 99 = .ok (.invokevirtual 53, 3) := by decide +kernel
theorem d_Model_goOn_102 : decode b_Model_goOn 102 = .ok (.iload_n 3, 1) := by decide +kernel
theorem d_Model_goOn_103 : decode b_Model_goOn 103 = .ok (.bipush 14, 2) := by decide +kernel
theorem d_Model_goOn_105 : decode b_Model_goOn 105 = .ok (.if_icmp .eq 9, 3) := by decide +kernel
theorem d_Model_goOn_108 : decode b_Model_goOn 108 = .ok (.iload_n 3, 1) := by decide +kernel
theorem d_Model_goOn_109 : decode b_Model_goOn 109 = .ok (.bipush 15, 2) := by decide +kernel
theorem d_Model_goOn_111 : decode b_Model_goOn 111 = .ok (.if_icmp .ne 15, 3) := by decide +kernel
theorem d_Model_goOn_114 : decode b_Model_goOn 114 = .ok (.aload_n 0, 1) := by decide +kernel
theorem d_Model_goOn_115 : decode b_Model_goOn 115 = .ok (.aload_n 0, 1) := by decide +kernel
theorem d_Model_goOn_116 : decode b_Model_goOn 116 = .ok (.getfield 13, 3) := by decide +kernel
theorem d_Model_goOn_119 : decode b_Model_goOn 119 = .ok (.iload_n 1, 1) := by decide +kernel
theorem d_Model_goOn_120 : decode b_Model_goOn 120 = .ok (.iaload, 1) := by decide +kernel
theorem d_Model_goOn_121 : decode b_Model_goOn 121 = .ok (.iload 4, 2) := by decide +kernel
theorem d_Model_goOn_123 : decode b_Model_goOn 123 = .ok (.invokevirtual 53, 3) := by decide +kernel
theorem d_Model_goOn_126 : decode b_Model_goOn 126 = .ok (.return_, 1) := by decide +kernel
theorem d_Model_fill_0 : decode b_Model_fill 0 = .ok (.iconst 0, 1) := by decide +kernel
theorem d_Model_fill_1 : decode b_Model_fill 1 = .ok (.istore_n 1, 1) := by decide +kernel
theorem d_Model_fill_2 : decode b_Model_fill 2 = .ok (.iload_n 1, 1) := by decide +kernel
theorem d_Model_fill_3 : decode b_Model_fill 3 = .ok (.aload_n 0, 1) := by decide +kernel
theorem d_Model_fill_4 : decode b_Model_fill 4 = .ok (.getfield 16, 3) := by decide +kernel
theorem d_Model_fill_7 : decode b_Model_fill 7 = .ok (.arraylength, 1) := by decide +kernel
theorem d_Model_fill_8 : decode b_Model_fill 8 = .ok (.if_icmp .ge 16, 3) := by decide +kernel
theorem d_Model_fill_11 : decode b_Model_fill 11 = .ok (.aload_n 0, 1) := by decide +kernel
theorem d_Model_fill_12 : decode b_Model_fill 12 = .ok (.getfield 16, 3) := by decide +kernel
theorem d_Model_fill_15 : decode b_Model_fill 15 = .ok (.iload_n 1, 1) := by decide +kernel
theorem d_Model_fill_16 : decode b_Model_fill 16 = .ok (.iconst 0, 1) := by decide +kernel
theorem d_Model_fill_17 : decode b_Model_fill 17 = .ok (.iastore, 1) := by decide +kernel
theorem d_Model_fill_18 : decode b_Model_fill 18 = .ok (.iinc 1 1, 3) := by decide +kernel
theorem d_Model_fill_21 : decode b_Model_fill 21 = .ok (.goto (-19), 3) := by decide +kernel
theorem d_Model_fill_24 : decode b_Model_fill 24 = .ok (.iconst 0, 1) := by decide +kernel
theorem d_Model_fill_25 : decode b_Model_fill 25 = .ok (.istore_n 1, 1) := by decide +kernel
theorem d_Model_fill_26 : decode b_Model_fill 26 = .ok (.iload_n 1, 1) := by decide +kernel
theorem d_Model_fill_27 : decode b_Model_fill 27 = .ok (.aload_n 0, 1) := by decide +kernel
theorem d_Model_fill_28 : decode b_Model_fill 28 = .ok (.getfield 39, 3) := by decide +kernel
theorem d_Model_fill_31 : decode b_Model_fill 31 = .ok (.if_icmp .ge 20, 3) := by decide +kernel
theorem d_Model_fill_34 : decode b_Model_fill 34 = .ok (.aload_n 0, 1) := by decide +kernel
theorem d_Model_fill_35 : decode b_Model_fill 35 = .ok (.getfield 19, 3) := by decide +kernel
theorem d_Model_fill_38 : decode b_Model_fill 38 = .ok (.iload_n 1, 1) := by decide +kernel
theorem d_Model_fill_39 : decode b_Model_fill 39 = .ok (.aload_n 0, 1) := by decide +kernel
theorem d_Model_fill_40 : decode b_Model_fill 40 = .ok (.iload_n 1, 1) := by decide +kernel
theorem d_Model_fill_41 : decode b_Model_fill 41 = .ok (.invokevirtual 42, 3) := by decide +kernel
theorem d_Model_fill_44 : decode b_Model_fill 44 = .ok (.bastore, 1) := by decide +kernel
theorem d_Model_fill_45 : decode b_Model_fill 45 = .ok (.iinc 1 1, 3) := by decide +kernel
theorem d_Model_fill_48 : decode b_Model_fill 48 = .ok (.goto (-22), 3) := by decide +kernel
theorem d_Model_fill_51 : decode b_Model_fill 51 = .ok (.aload_n 0, 1) := by decide +kernel
theorem d_Model_fill_52 : decode b_Model_fill 52 = .ok (.getfield 39, 3) := by decide +kernel
theorem d_Model_fill_55 : decode b_Model_fill 55 = .ok (.ifCond .le 10, 3) := by decide +kernel
theorem d_Model_fill_58 : decode b_Model_fill 58 = .ok (.aload_n 0, 1) := by decide +kernel
theorem d_Model_fill_59 : decode b_Model_fill 59 = .ok (.getfield 16, 3) := by decide +kernel
theorem d_Model_fill_62 : decode b_Model_fill 62 = .ok (.iconst 0, 1) := by decide +kernel
theorem d_Model_fill_63 : decode b_Model_fill 63 = .ok (.iconst 1, 1) := by decide +kernel
theorem d_Model_fill_64 : decode b_Model_fill 64 = .ok (.iastore, 1) := by decide +kernel
theorem d_Model_fill_65 : decode b_Model_fill 65 = .ok (.iconst 1, 1) := by decide +kernel
theorem d_Model_fill_66 : decode b_Model_fill 66 = .ok (.istore_n 1, 1) := by decide +kernel
theorem d_Model_fill_67 : decode b_Model_fill 67 = .ok (.iload_n 1, 1) := by decide +kernel
theorem d_Model_fill_68 : decode b_Model_fill 68 = .ok (.ifCond .eq 61, 3) := by decide +kernel
theorem d_Model_fill_71 : decode b_Model_fill 71 = .ok (.iconst 0, 1) := by decide +kernel
theorem d_Model_fill_72 : decode b_Model_fill 72 = .ok (.istore_n 1, 1) := by decide +kernel
theorem d_Model_fill_73 : decode b_Model_fill 73 = .ok (.iconst 0, 1) := by decide +kernel
theorem d_Model_fill_74 : decode b_Model_fill 74 = .ok (.istore_n 2, 1) := by decide +kernel
theorem d_Model_fill_75 : decode b_Model_fill 75 = .ok (.iload_n 2, 1) := by decide +kernel
theorem d_Model_fill_76 : decode b_Model_fill 76 = .ok (.bipush 9, 2) := by decide +kernel
theorem d_Model_fill_78 : decode b_Model_fill 78 = .ok (.aload_n 0, 1) := by decide +kernel
theorem d_Model_fill_79 : decode b_Model_fill 79 = .ok (.getfield 39, 3) := by decide +kernel
theorem d_Model_fill_82 : decode b_Model_fill 82 = .ok (.imul, 1) := by decide +kernel
theorem d_Model_fill_83 : decode b_Model_fill 83 = .ok (.if_icmp .ge 43, 3) := by decide +kernel
theorem d_Model_fill_86 : decode b_Model_fill 86 = .ok (.aload_n 0, 1) := by decide +kernel
theorem d_Model_fill_87 : decode b_Model_fill 87 = .ok (.getfield 16, 3) := by decide +kernel
theorem d_Model_fill_90 : decode b_Model_fill 90 = .ok (.iload_n 2, 1) := by decide +kernel
theorem d_Model_fill_91 : decode b_Model_fill 91 = .ok (.iaload, 1) := by decide +kernel
theorem d_Model_fill_92 : decode b_Model_fill 92 = .ok (.iconst 1, 1) := by decide +kernel
theorem d_Model_fill_93 : decode b_Model_fill 93 = .ok (.if_icmp .eq 6, 3) := by decide +kernel
theorem d_Model_fill_96 : decode b_Model_fill 96 = .ok (.goto 24, 3) := by decide +kernel
theorem d_Model_fill_99 : decode b_Model_fill 99 = .ok (.aload_n 0, 1) := by decide +kernel
theorem d_Model_fill_100 : decode b_Model_fill 100 = .ok (.getfield 16, 3) := by decide +kernel
theorem d_Model_fill_103 : decode b_Model_fill 103 = .ok (.iload_n 2, 1) := by decide +kernel
theorem d_Model_fill_104 : decode b_Model_fill 104 = .ok (.iconst 2, 1) := by decide +kernel
theorem d_Model_fill_105 : decode b_Model_fill 105 = .ok (.iastore, 1) := by decide +kernel
theorem d_Model_fill_106 : decode b_Model_fill 106 = .ok (.iconst 1, 1) := by decide +kernel
theorem d_Model_fill_107 : decode b_Model_fill 107 = .ok (.istore_n 1, 1) := by decide +kernel
theorem d_Model_fill_108 : decode b_Model_fill 108 = .ok (.aload_n 0, 1) := by decide +kernel
theorem d_Model_fill_109 : decode b_Model_fill 109 = .ok (.iload_n 2, 1) := by decide +kernel
theorem d_Model_fill_110 : decode b_Model_fill 110 = .ok (.bipush 9, 2) := by decide +kernel
theorem d_Model_fill_112 : decode b_Model_fill 112 = .ok (.idiv, 1) := by decide +kernel
theorem d_Model_fill_113 : decode b_Model_fill 113 = .ok (.iload_n 2, 1) := by decide +kernel
theorem d_Model_fill_114 : decode b_Model_fill 114 = .ok (.bipush 9, 2) := by decide +kernel
theorem d_Model_fill_116 : decode b_Model_fill 116 = .ok (.irem, 1) := by decide +kernel
theorem d_Model_fill_117 : decode b_Model_fill 117 = .ok (.invokevirtual 57, 3) := by decide +kernel
theorem d_Model_fill_120 : decode b_Model_fill 120 = .ok (.iinc 2 1, 3) := by decide +kernel
theorem d_Model_fill_123 : decode b_Model_fill 123 = .ok (.goto (-48), 3) := by decide +kernel
theorem d_Model_fill_126 : decode b_Model_fill 126 = .ok (.goto (-59), 3) := by decide +kernel
theorem d_Model_fill_129 : decode b_Model_fill 129 = .ok (.return_, 1) := by decide +kernel
theorem d_Model_heights_0 : decode b_Model_heights 0 = .ok (.iload_n 1, 1) := by decide +kernel
theorem d_Model_heights_1 : decode b_Model_heights 1 = .ok (.ifCond .lt 11, 3) := by decide +kernel
theorem d_Model_heights_4 : decode b_Model_heights 4 = .ok (.iload_n 1, 1) := by decide +kernel
theorem d_Model_heights_5 : decode b_Model_heights 5 = .ok (.aload_n 0, 1) := by decide +kernel
theorem d_Model_heights_6 : decode b_Model_heights 6 = .ok (.getfield 39, 3) := by decide +kernel
theorem d_Model_heights_9 : decode b_Model_heights 9 = .ok (.if_icmp .lt 5, 3) := by decide +kernel
theorem d_Model_heights_12 : decode b_Model_heights 12 = .ok (.iconst (-1), 1) := by decide +kernel
theorem d_Model_heights_13 : decode b_Model_heights 13 = .ok (.ireturn, 1) := by decide +kernel
theorem d_Model_heights_14 : decode b_Model_heights 14 = .ok (.aload_n 0, 1) := by decide +kernel
theorem d_Model_heights_15 : decode b_Model_heights 15 = .ok (.invokevirtual 60, 3) := by decide +kernel
theorem d_Model_heights_18 : decode b_Model_heights 18 = .ok (.iconst 0, 1) := by decide +kernel
theorem d_Model_heights_19 : decode b_Model_heights 19 = .ok (.istore_n 2, 1) := by decide +kernel
theorem d_Model_heights_20 : decode b_Model_heights 20 = .ok (.iconst 0, 1) := by decide +kernel
theorem d_Model_heights_21 : decode b_Model_heights 21 = .ok (.istore_n 3, 1) := by decide +kernel
theorem d_Model_heights_22 : decode b_Model_heights 22 = .ok (.iload_n 3, 1) := by decide +kernel
theorem d_Model_heights_23 : decode b_Model_heights 23 = .ok (.bipush 9, 2) := by decide +kernel
theorem d_Model_heights_25 : decode b_Model_heights 25 = .ok (.if_icmp .ge 33, 3) := by decide +kernel
theorem d_Model_heights_28 : decode b_Model_heights 28 = .ok (.iload_n 2, 1) := by decide +kernel
theorem d_Model_heights_29 : decode b_Model_heights 29 = .ok (.aload_n 0, 1) := by decide +kernel
theorem d_Model_heights_30 : decode b_Model_heights 30 = .ok (.getfield 16, 3) := by decide +kernel
theorem d_Model_heights_33 : decode b_Model_heights 33 = .ok (.bipush 9, 2) := by decide +kernel
theorem d_Model_heights_35 : decode b_Model_heights 35 = .ok (.iload_n 1, 1) := by decide +kernel
theorem d_Model_heights_36 : decode b_Model_heights 36 = .ok (.imul, 1) := by decide +kernel
theorem d_Model_heights_37 : decode b_Model_heights 37 = .ok (.iload_n 3, 1) := by decide +kernel
theorem d_Model_heights_38 : decode b_Model_heights 38 = .ok (.iadd, 1) := by decide +kernel
theorem d_Model_heights_39 : decode b_Model_heights 39 = .ok (.iaload, 1) := by decide +kernel
theorem d_Model_heights_40 : decode b_Model_heights 40 = .ok (.ifCond .eq 9, 3) := by decide +kernel
theorem d_Model_heights_43 : decode b_Model_heights 43 = .ok (.iconst 1, 1) := by decide +kernel
theorem d_Model_heights_44 : decode b_Model_heights 44 = .ok (.iload_n 3, 1) := by decide +kernel
theorem d_Model_heights_45 : decode b_Model_heights 45 = .ok (.ishl, 1) := by decide +kernel
theorem d_Model_heights_46 : decode b_Model_heights 46 = .ok (.goto 4, 3) := by decide +kernel
theorem d_Model_heights_49 : decode b_Model_heights 49 = .ok (.iconst 0, 1) := by decide +kernel
theorem d_Model_heights_50 : decode b_Model_heights 50 = .ok (.ior, 1) := by decide +kernel
theorem d_Model_heights_51 : decode b_Model_heights 51 = .ok (.istore_n 2, 1) := by decide +kernel
theorem d_Model_heights_52 : decode b_Model_heights 52 = .ok (.iinc 3 1, 3) := by decide +kernel
theorem d_Model_heights_55 : decode b_Model_heights 55 = .ok (.goto (-33), 3) := by decide +kernel
theorem d_Model_heights_58 : decode b_Model_heights 58 = .ok (.iload_n 2, 1) := by decide +kernel
theorem d_Model_heights_59 : decode b_Model_heights 59 = .ok (.ireturn, 1) := by decide +kernel
theorem d_Model_check_0 : decode b_Model_check 0 = .ok (.aload_n 0, 1) := by decide +kernel
theorem d_Model_check_1 : decode b_Model_check 1 = .ok (.getfield 39, 3) := by decide +kernel
theorem d_Model_check_4 : decode b_Model_check 4 = .ok (.ifCond .ne 6, 3) := by decide +kernel
theorem d_Model_check_7 : decode b_Model_check 7 = .ok (.bipush 64, 2) := by decide +kernel
theorem d_Model_check_9 : decode b_Model_check 9 = .ok (.ireturn, 1) := by decide +kernel
theorem d_Model_check_10 : decode b_Model_check 10 = .ok (.aload_n 0, 1) := by decide +kernel
theorem d_Model_check_11 : decode b_Model_check 11 = .ok (.invokevirtual 60, 3) := by decide +kernel
theorem d_Model_check_14 : decode b_Model_check 14 = .ok (.iconst 0, 1) := by decide +kernel
theorem d_Model_check_15 : decode b_Model_check 15 = .ok (.istore_n 1, 1) := by decide +kernel
theorem d_Model_check_16 : decode b_Model_check 16 = .ok (.iload_n 1, 1) := by decide +kernel
theorem d_Model_check_17 : decode b_Model_check 17 = .ok (.aload_n 0, 1) := by decide +kernel
theorem d_Model_check_18 : decode b_Model_check 18 = .ok (.getfield 39, 3) := by decide +kernel
theorem d_Model_check_21 : decode b_Model_check 21 = .ok (.if_icmp .ge 63, 3) := by decide +kernel
theorem d_Model_check_24 : decode b_Model_check 24 = .ok (.iconst 0, 1) := by decide +kernel
theorem d_Model_check_25 : decode b_Model_check 25 = .ok (.istore_n 2, 1) := by decide +kernel
theorem d_Model_check_26 : decode b_Model_check 26 = .ok (.iconst 0, 1) := by decide +kernel
theorem d_Model_check_27 : decode b_Model_check 27 = .ok (.istore_n 3, 1) := by decide +kernel
theorem d_Model_check_28 : decode b_Model_check 28 = .ok (.iload_n 3, 1) := by decide +kernel
theorem d_Model_check_29 : decode b_Model_check 29 = .ok (.bipush 9, 2) := by decide +kernel
theorem d_Model_check_31 : decode b_Model_check 31 = .ok (.if_icmp .ge 31, 3) := by decide +kernel
theorem d_Model_check_34 : decode b_Model_check 34 = .ok (.iload_n 2, 1) := by decide +kernel
theorem d_Model_check_35 : decode b_Model_check 35 = .ok (.aload_n 0, 1) := by decide +kernel
theorem d_Model_check_36 : decode b_Model_check 36 = .ok (.getfield 16, 3) := by decide +kernel
theorem d_Model_check_39 : decode b_Model_check 39 = .ok (.bipush 9, 2) := by decide +kernel
theorem d_Model_check_41 : decode b_Model_check 41 = .ok (.iload_n 1, 1) := by decide +kernel
theorem d_Model_check_42 : decode b_Model_check 42 = .ok (.imul, 1) := by decide +kernel
theorem d_Model_check_43 : decode b_Model_check 43 = .ok (.iload_n 3, 1) := by decide +kernel
theorem d_Model_check_44 : decode b_Model_check 44 = .ok (.iadd, 1) := by decide +kernel
theorem d_Model_check_45 : decode b_Model_check 45 = .ok (.iaload, 1) := by decide +kernel
theorem d_Model_check_46 : decode b_Model_check 46 = .ok (.ifCond .eq 7, 3) := by decide +kernel
theorem d_Model_check_49 : decode b_Model_check 49 = .ok (.iconst 1, 1) := by decide +kernel
theorem d_Model_check_50 : decode b_Model_check 50 = .ok (.goto 4, 3) := by decide +kernel
theorem d_Model_check_53 : decode b_Model_check 53 = .ok (.iconst 0, 1) := by decide +kernel
theorem d_Model_check_54 : decode b_Model_check 54 = .ok (.iadd, 1) := by decide +kernel
theorem d_Model_check_55 : decode b_Model_check 55 = .ok (.istore_n 2, 1) := by decide +kernel
theorem d_Model_check_56 : decode b_Model_check 56 = .ok (.iinc 3 1, 3) := by decide +kernel
theorem d_Model_check_59 : decode b_Model_check 59 = .ok (.goto (-31), 3) := by decide +kernel
theorem d_Model_check_62 : decode b_Model_check 62 = .ok (.aload_n 0, 1) := by decide +kernel
theorem d_Model_check_63 : decode b_Model_check 63 = .ok (.getfield 19, 3) := by decide +kernel
theorem d_Model_check_66 : decode b_Model_check 66 = .ok (.iload_n 1, 1) := by decide +kernel
theorem d_Model_check_67 : decode b_Model_check 67 = .ok (.baload, 1) := by decide +kernel
theorem d_Model_check_68 : decode b_Model_check 68 = .ok (.ifCond .ne 8, 3) := by decide +kernel
theorem d_Model_check_71 : decode b_Model_check 71 = .ok (.iload_n 2, 1) := by decide +kernel
theorem d_Model_check_72 : decode b_Model_check 72 = .ok (.iconst 1, 1) := by decide +kernel
theorem d_Model_check_73 : decode b_Model_check 73 = .ok (.if_icmp .le 5, 3) := by decide +kernel
theorem d_Model_check_76 : decode b_Model_check 76 = .ok (.iload_n 1, 1) := by decide +kernel
theorem d_Model_check_77 : decode b_Model_check 77 = .ok (.ireturn, 1) := by decide +kernel
theorem d_Model_check_78 : decode b_Model_check 78 = .ok (.iinc 1 1, 3) := by decide +kernel
theorem d_Model_check_81 : decode b_Model_check 81 = .ok (.goto (-65), 3) := by decide +kernel
theorem d_Model_check_84 : decode b_Model_check 84 = .ok (.bipush (-2), 2) := by decide +kernel
theorem d_Model_check_86 : decode b_Model_check 86 = .ok (.ireturn, 1) := by decide +kernel
theorem d_Model_reckoned_0 : decode b_Model_reckoned 0 = .ok (.iload_n 0, 1) := by decide +kernel
theorem d_Model_reckoned_1 : decode b_Model_reckoned 1 = .ok (.tableswitch 86 7 12 #[39, 43, 47, 51, 63, 75], 39) := by decide +kernel
theorem d_Model_reckoned_40 : decode b_Model_reckoned 40 = .ok (.iload_n 1, 1) := by decide +kernel
theorem d_Model_reckoned_41 : decode b_Model_reckoned 41 = .ok (.iload_n 2, 1) := by decide +kernel
theorem d_Model_reckoned_42 : decode b_Model_reckoned 42 = .ok (.iadd, 1) := by decide +kernel
theorem d_Model_reckoned_43 : decode b_Model_reckoned 43 = .ok (.ireturn, 1) := by decide +kernel
theorem d_Model_reckoned_44 : decode b_Model_reckoned 44 = .ok (.iload_n 1, 1) := by decide +kernel
theorem d_Model_reckoned_45 : decode b_Model_reckoned 45 = .ok (.iload_n 2, 1) := by decide +kernel
theorem d_Model_reckoned_46 : decode b_Model_reckoned 46 = .ok (.isub, 1) := by decide +kernel
theorem d_Model_reckoned_47 : decode b_Model_reckoned 47 = .ok (.ireturn, 1) := by decide +kernel
theorem d_Model_reckoned_48 : decode b_Model_reckoned 48 = .ok (.iload_n 1, 1) := by decide +kernel
theorem d_Model_reckoned_49 : decode b_Model_reckoned 49 = .ok (.iload_n 2, 1) := by decide +kernel
theorem d_Model_reckoned_50 : decode b_Model_reckoned 50 = .ok (.imul, 1) := by decide +kernel
theorem d_Model_reckoned_51 : decode b_Model_reckoned 51 = .ok (.ireturn, 1) := by decide +kernel
theorem d_Model_reckoned_52 : decode b_Model_reckoned 52 = .ok (.iload_n 2, 1) := by decide +kernel
theorem d_Model_reckoned_53 : decode b_Model_reckoned 53 = .ok (.ifCond .ne 7, 3) := by decide +kernel
theorem d_Model_reckoned_56 : decode b_Model_reckoned 56 = .ok (.iconst 0, 1) := by decide +kernel
theorem d_Model_reckoned_57 : decode b_Model_reckoned 57 = .ok (.goto 6, 3) := by decide +kernel
theorem d_Model_reckoned_60 : decode b_Model_reckoned 60 = .ok (.iload_n 1, 1) := by decide +kernel
theorem d_Model_reckoned_61 : decode b_Model_reckoned 61 = .ok (.iload_n 2, 1) := by decide +kernel
theorem d_Model_reckoned_62 : decode b_Model_reckoned 62 = .ok (.idiv, 1) := by decide +kernel
theorem d_Model_reckoned_63 : decode b_Model_reckoned 63 = .ok (.ireturn, 1) := by decide +kernel
theorem d_Model_reckoned_64 : decode b_Model_reckoned 64 = .ok (.iload_n 2, 1) := by decide +kernel
theorem d_Model_reckoned_65 : decode b_Model_reckoned 65 = .ok (.ifCond .ne 7, 3) := by decide +kernel
theorem d_Model_reckoned_68 : decode b_Model_reckoned 68 = .ok (.iconst 0, 1) := by decide +kernel
theorem d_Model_reckoned_69 : decode b_Model_reckoned 69 = .ok (.goto 6, 3) := by decide +kernel
theorem d_Model_reckoned_72 : decode b_Model_reckoned 72 = .ok (.iload_n 1, 1) := by decide +kernel
theorem d_Model_reckoned_73 : decode b_Model_reckoned 73 = .ok (.iload_n 2, 1) := by decide +kernel
theorem d_Model_reckoned_74 : decode b_Model_reckoned 74 = .ok (.irem, 1) := by decide +kernel
theorem d_Model_reckoned_75 : decode b_Model_reckoned 75 = .ok (.ireturn, 1) := by decide +kernel
theorem d_Model_reckoned_76 : decode b_Model_reckoned 76 = .ok (.iload_n 1, 1) := by decide +kernel
theorem d_Model_reckoned_77 : decode b_Model_reckoned 77 = .ok (.iload_n 2, 1) := by decide +kernel
theorem d_Model_reckoned_78 : decode b_Model_reckoned 78 = .ok (.if_icmp .ge 7, 3) := by decide +kernel
theorem d_Model_reckoned_81 : decode b_Model_reckoned 81 = .ok (.iconst 1, 1) := by decide +kernel
theorem d_Model_reckoned_82 : decode b_Model_reckoned 82 = .ok (.goto 4, 3) := by decide +kernel
theorem d_Model_reckoned_85 : decode b_Model_reckoned 85 = .ok (.iconst 0, 1) := by decide +kernel
theorem d_Model_reckoned_86 : decode b_Model_reckoned 86 = .ok (.ireturn, 1) := by decide +kernel
theorem d_Model_reckoned_87 : decode b_Model_reckoned 87 = .ok (.iload_n 1, 1) := by decide +kernel
theorem d_Model_reckoned_88 : decode b_Model_reckoned 88 = .ok (.iload_n 2, 1) := by decide +kernel
theorem d_Model_reckoned_89 : decode b_Model_reckoned 89 = .ok (.if_icmp .ne 7, 3) := by decide +kernel
theorem d_Model_reckoned_92 : decode b_Model_reckoned 92 = .ok (.iconst 1, 1) := by decide +kernel
theorem d_Model_reckoned_93 : decode b_Model_reckoned 93 = .ok (.goto 4, 3) := by decide +kernel
theorem d_Model_reckoned_96 : decode b_Model_reckoned 96 = .ok (.iconst 0, 1) := by decide +kernel
theorem d_Model_reckoned_97 : decode b_Model_reckoned 97 = .ok (.ireturn, 1) := by decide +kernel
theorem d_Model_done_0 : decode b_Model_done 0 = .ok (.iconst 0, 1) := by decide +kernel
theorem d_Model_done_1 : decode b_Model_done 1 = .ok (.istore 4, 2) := by decide +kernel
theorem d_Model_done_3 : decode b_Model_done 3 = .ok (.iconst 0, 1) := by decide +kernel
theorem d_Model_done_4 : decode b_Model_done 4 = .ok (.istore 5, 2) := by decide +kernel
theorem d_Model_done_6 : decode b_Model_done 6 = .ok (.iconst 0, 1) := by decide +kernel
theorem d_Model_done_7 : decode b_Model_done 7 = .ok (.istore 6, 2) := by decide +kernel
theorem d_Model_done_9 : decode b_Model_done 9 = .ok (.iload 6, 2) := by decide +kernel
theorem d_Model_done_11 : decode b_Model_done 11 = .ok (.iconst 4, 1) := by decide +kernel
theorem d_Model_done_12 : decode b_Model_done 12 = .ok (.if_icmp .ge 17, 3) := by decide +kernel
theorem d_Model_done_15 : decode b_Model_done 15 = .ok (.aload_n 0, 1) := by decide +kernel
theorem d_Model_done_16 : decode b_Model_done 16 = .ok (.getfield 26, 3) := by decide +kernel
theorem d_Model_done_19 : decode b_Model_done 19 = .ok (.iload 6, 2) := by decide +kernel
theorem d_Model_done_21 : decode b_Model_done 21 = .ok (.iconst 0, 1) := by decide +kernel
theorem d_Model_done_22 : decode b_Model_done 22 = .ok (.iastore, 1) := by decide +kernel
theorem d_Model_done_23 : decode b_Model_done 23 = .ok (.iinc 6 1, 3) := by decide +kernel
theorem d_Model_done_26 : decode b_Model_done 26 = .ok (.goto (-17), 3) := by decide +kernel
theorem d_Model_done_29 : decode b_Model_done 29 = .ok (.aload_n 0, 1) := by decide +kernel
theorem d_Model_done_30 : decode b_Model_done 30 = .ok (.getfield 63, 3) := by decide +kernel
theorem d_Model_done_33 : decode b_Model_done 33 = .ok (.sipush 300, 3) := by decide +kernel
theorem d_Model_done_36 : decode b_Model_done 36 = .ok (.if_icmp .ge 435, 3) := by decide +kernel
theorem d_Model_done_39 : decode b_Model_done 39 = .ok (.aload_n 0, 1) := by decide +kernel
theorem d_Model_done_40 : decode b_Model_done 40 = .ok (.dup, 1) := by decide +kernel
theorem d_Model_done_41 : decode b_Model_done 41 = .ok (.getfield 63, 3) := by decide +kernel
theorem d_Model_done_44 : decode b_Model_done 44 = .ok (.iconst 1, 1) := by decide +kernel
theorem d_Model_done_45 : decode b_Model_done 45 = .ok (.iadd, 1) := by decide +kernel
theorem d_Model_done_46 : decode b_Model_done 46 = .ok (.putfield 63, 3) := by decide +kernel
theorem d_Model_done_49 : decode b_Model_done 49 = .ok (.aload_n 0, 1) := by decide +kernel
theorem d_Model_done_50 : decode b_Model_done 50 = .ok (.getfield 9, 3) := by decide +kernel
theorem d_Model_done_53 : decode b_Model_done 53 = .ok (.iload 5, 2) := by decide +kernel
theorem d_Model_done_55 : decode b_Model_done 55 = .ok (.iaload, 1) := by decide +kernel
theorem d_Model_done_56 : decode b_Model_done 56 = .ok (.istore 6, 2) := by decide +kernel
theorem d_Model_done_58 : decode b_Model_done 58 = .ok (.aload_n 0, 1) := by decide +kernel
theorem d_Model_done_59 : decode b_Model_done 59 = .ok (.getfield 13, 3) := by decide +kernel
theorem d_Model_done_62 : decode b_Model_done 62 = .ok (.iload 5, 2) := by decide +kernel
theorem d_Model_done_64 : decode b_Model_done 64 = .ok (.iaload, 1) := by decide +kernel
theorem d_Model_done_65 : decode b_Model_done 65 = .ok (.istore 7, 2) := by decide +kernel
theorem d_Model_done_67 : decode b_Model_done 67 = .ok (.iinc 5 1, 3) := by decide +kernel
theorem d_Model_done_70 : decode b_Model_done 70 = .ok (.iload 6, 2) := by decide +kernel
theorem d_Model_done_72 : decode b_Model_done 72 = .ok (.tableswitch 363 0 18 #[92, 107, 140, 160, 180, 202, 245, 363, 363, 363, 363, 363, 363, 363, 251, 258, 278, 339, 361], 92) := by decide +kernel
theorem d_Model_done_164 : decode b_Model_done 164 = .ok (.aload_n 0, 1) := by decide +kernel
theorem d_Model_done_165 : decode b_Model_done 165 = .ok (.getfield 23, 3) := by decide +kernel
theorem d_Model_done_168 : decode b_Model_done 168 = .ok (.iload 4, 2) := by decide +kernel
theorem d_Model_done_170 : decode b_Model_done 170 = .ok (.iinc 4 1, 3) := by decide +kernel
theorem d_Model_done_173 : decode b_Model_done 173 = .ok (.iload 7, 2) := by decide +kernel
theorem d_Model_done_175 : decode b_Model_done 175 = .ok (.iastore, 1) := by decide +kernel
theorem d_Model_done_176 : decode b_Model_done 176 = .ok (.goto 292, 3) := by decide +kernel
theorem d_Model_done_179 : decode b_Model_done 179 = .ok (.aload_n 0, 1) := by decide +kernel
theorem d_Model_done_180 : decode b_Model_done 180 = .ok (.getfield 23, 3) := by decide +kernel
theorem d_Model_done_183 : decode b_Model_done 183 = .ok (.iload 4, 2) := by decide +kernel
theorem d_Model_done_185 : decode b_Model_done 185 = .ok (.iinc 4 1, 3) := by decide +kernel
theorem d_Model_done_188 : decode b_Model_done 188 = .ok (.iload 7, 2) := by decide +kernel
theorem d_Model_done_190 : decode b_Model_done 190 = .ok (.ifCond .ne 7, 3) := by decide +kernel
theorem d_Model_done_193 : decode b_Model_done 193 = .ok (.iload_n 1, 1) := by decide +kernel
theorem d_Model_done_194 : decode b_Model_done 194 = .ok (.goto 14, 3) := by decide +kernel
theorem d_Model_done_197 : decode b_Model_done 197 = .ok (.iload 7, 2) := by decide +kernel
theorem d_Model_done_199 : decode b_Model_done 199 = .ok (.iconst 1, 1) := by decide +kernel
theorem d_Model_done_200 : decode b_Model_done 200 = .ok (.if_icmp .ne 7, 3) := by decide +kernel
theorem d_Model_done_203 : decode b_Model_done 203 = .ok (.iload_n 2, 1) := by decide +kernel
theorem d_Model_done_204 : decode b_Model_done 204 = .ok (.goto 4, 3) := by decide +kernel
theorem d_Model_done_207 : decode b_Model_done 207 = .ok (.iload_n 3, 1) := by decide +kernel
theorem d_Model_done_208 : decode b_Model_done 208 = .ok (.iastore, 1) := by decide +kernel
theorem d_Model_done_209 : decode b_Model_done 209 = .ok (.goto 259, 3) := by decide +kernel
theorem d_Model_done_212 : decode b_Model_done 212 = .ok (.aload_n 0, 1) := by decide +kernel
theorem d_Model_done_213 : decode b_Model_done 213 = .ok (.getfield 23, 3) := by decide +kernel
theorem d_Model_done_216 : decode b_Model_done 216 = .ok (.iload 4, 2) := by decide +kernel
theorem d_Model_done_218 : decode b_Model_done 218 = .ok (.iinc 4 1, 3) := by decide +kernel
theorem d_Model_done_221 : decode b_Model_done 221 = .ok (.aload_n 0, 1) := by decide +kernel
theorem d_Model_done_222 : decode b_Model_done 222 = .ok (.getfield 26, 3) := by decide +kernel
theorem d_Model_done_225 : decode b_Model_done 225 = .ok (.iload 7, 2) := by decide +kernel
theorem d_Model_done_227 : decode b_Model_done 227 = .ok (.iaload, 1) := by decide +kernel
theorem d_Model_done_228 : decode b_Model_done 228 = .ok (.iastore, 1) := by decide +kernel
theorem d_Model_done_229 : decode b_Model_done 229 = .ok (.goto 239, 3) := by decide +kernel
theorem d_Model_done_232 : decode b_Model_done 232 = .ok (.aload_n 0, 1) := by decide +kernel
theorem d_Model_done_233 : decode b_Model_done 233 = .ok (.getfield 26, 3) := by decide +kernel
theorem d_Model_done_236 : decode b_Model_done 236 = .ok (.iload 7, 2) := by decide +kernel
theorem d_Model_done_238 : decode b_Model_done 238 = .ok (.aload_n 0, 1) := by decide +kernel
theorem d_Model_done_239 : decode b_Model_done 239 = .ok (.getfield 23, 3) := by decide +kernel
theorem d_Model_done_242 : decode b_Model_done 242 = .ok (.iinc 4 (-1), 3) := by decide +kernel
theorem d_Model_done_245 : decode b_Model_done 245 = .ok (.iload 4, 2) := by decide +kernel
theorem d_Model_done_247 : decode b_Model_done 247 = .ok (.iaload, 1) := by decide +kernel
theorem d_Model_done_248 : decode b_Model_done 248 = .ok (.iastore, 1) := by decide +kernel
theorem d_Model_done_249 : decode b_Model_done 249 = .ok (.goto 219, 3) := by decide +kernel
theorem d_Model_done_252 : decode b_Model_done 252 = .ok (.aload_n 0, 1) := by decide +kernel
theorem d_Model_done_253 : decode b_Model_done 253 = .ok (.getfield 23, 3) := by decide +kernel
theorem d_Model_done_256 : decode b_Model_done 256 = .ok (.iload 4, 2) := by decide +kernel
theorem d_Model_done_258 : decode b_Model_done 258 = .ok (.aload_n 0, 1) := by decide +kernel
theorem d_Model_done_259 : decode b_Model_done 259 = .ok (.getfield 23, 3) := by decide +kernel
theorem d_Model_done_262 : decode b_Model_done 262 = .ok (.iload 4, 2) := by decide +kernel
theorem d_Model_done_264 : decode b_Model_done 264 = .ok (.iconst 1, 1) := by decide +kernel
theorem d_Model_done_265 : decode b_Model_done 265 = .ok (.isub, 1) := by decide +kernel
theorem d_Model_done_266 : decode b_Model_done 266 = .ok (.iaload, 1) := by decide +kernel
theorem d_Model_done_267 : decode b_Model_done 267 = .ok (.iastore, 1) := by decide +kernel
theorem d_Model_done_268 : decode b_Model_done 268 = .ok (.iinc 4 1, 3) := by decide +kernel
theorem d_Model_done_271 : decode b_Model_done 271 = .ok (.goto 197, 3) := by decide +kernel
theorem d_Model_done_274 : decode b_Model_done 274 = .ok (.aload_n 0, 1) := by decide +kernel
theorem d_Model_done_275 : decode b_Model_done 275 = .ok (.getfield 23, 3) := by decide +kernel
theorem d_Model_done_278 : decode b_Model_done 278 = .ok (.iload 4, 2) := by decide +kernel
theorem d_Model_done_280 : decode b_Model_done 280 = .ok (.iconst 1, 1) := by decide +kernel
theorem d_Model_done_281 : decode b_Model_done 281 = .ok (.isub, 1) := by decide +kernel
theorem d_Model_done_282 : decode b_Model_done 282 = .ok (.iaload, 1) := by decide +kernel
theorem d_Model_done_283 : decode b_Model_done 283 = .ok (.istore 8, 2) := by decide +kernel
theorem d_Model_done_285 : decode b_Model_done 285 = .ok (.aload_n 0, 1) := by decide +kernel
theorem d_Model_done_286 : decode b_Model_done 286 = .ok (.getfield 23, 3) := by decide +kernel
theorem d_Model_done_289 : decode b_Model_done 289 = .ok (.iload 4, 2) := by decide +kernel
theorem d_Model_done_291 : decode b_Model_done 291 = .ok (.iconst 1, 1) := by decide +kernel
theorem d_Model_done_292 : decode b_Model_done 292 = .ok (.isub, 1) := by decide +kernel
theorem d_Model_done_293 : decode b_Model_done 293 = .ok (.aload_n 0, 1) := by decide +kernel
theorem d_Model_done_294 : decode b_Model_done 294 = .ok (.getfield 23, 3) := by decide +kernel
theorem d_Model_done_297 : decode b_Model_done 297 = .ok (.iload 4, 2) := by decide +kernel
theorem d_Model_done_299 : decode b_Model_done 299 = .ok (.iconst 2, 1) := by decide +kernel
theorem d_Model_done_300 : decode b_Model_done 300 = .ok (.isub, 1) := by decide +kernel
theorem d_Model_done_301 : decode b_Model_done 301 = .ok (.iaload, 1) := by decide +kernel
theorem d_Model_done_302 : decode b_Model_done 302 = .ok (.iastore, 1) := by decide +kernel
theorem d_Model_done_303 : decode b_Model_done 303 = .ok (.aload_n 0, 1) := by decide +kernel
theorem d_Model_done_304 : decode b_Model_done 304 = .ok (.getfield 23, 3) := by decide +kernel
theorem d_Model_done_307 : decode b_Model_done 307 = .ok (.iload 4, 2) := by decide +kernel
theorem d_Model_done_309 : decode b_Model_done 309 = .ok (.iconst 2, 1) := by decide +kernel
theorem d_Model_done_310 : decode b_Model_done 310 = .ok (.isub, 1) := by decide +kernel
theorem d_Model_done_311 : decode b_Model_done 311 = .ok (.iload 8, 2) := by decide +kernel
theorem d_Model_done_313 : decode b_Model_done 313 = .ok (.iastore, 1) := by decide +kernel
theorem d_Model_done_314 : decode b_Model_done 314 = .ok (.goto 154, 3) := by decide +kernel
theorem d_Model_done_317 : decode b_Model_done 317 = .ok (.iinc 4 (-1), 3) := by decide +kernel
theorem d_Model_done_320 : decode b_Model_done 320 = .ok (.goto 148, 3) := by decide +kernel
theorem d_Model_done_323 : decode b_Model_done 323 = .ok (.iload 7, 2) := by decide +kernel
theorem d_Model_done_325 : decode b_Model_done 325 = .ok (.istore 5, 2) := by decide +kernel
theorem d_Model_done_327 : decode b_Model_done 327 = .ok (.goto 141, 3) := by decide +kernel
theorem d_Model_done_330 : decode b_Model_done 330 = .ok (.iinc 4 (-1), 3) := by decide +kernel
theorem d_Model_done_333 : decode b_Model_done 333 = .ok (.aload_n 0, 1) := by decide +kernel
theorem d_Model_done_334 : decode b_Model_done 334 = .ok (.getfield 23, 3) := by decide +kernel
theorem d_Model_done_337 : decode b_Model_done 337 = .ok (.iload 4, 2) := by decide +kernel
theorem d_Model_done_339 : decode b_Model_done 339 = .ok (.iaload, 1) := by decide +kernel
theorem d_Model_done_340 : decode b_Model_done 340 = .ok (.ifCond .ne 128, 3) := by decide +kernel
theorem d_Model_done_343 : decode b_Model_done 343 = .ok (.iload 7, 2) := by decide +kernel
theorem d_Model_done_345 : decode b_Model_done 345 = .ok (.istore 5, 2) := by decide +kernel
theorem d_Model_done_347 : decode b_Model_done 347 = .ok (.goto 121, 3) := by decide +kernel
theorem d_Model_done_350 : decode b_Model_done 350 = .ok (.aload_n 0, 1) := by decide +kernel
theorem d_Model_done_351 : decode b_Model_done 351 = .ok (.getfield 66, 3) := by decide +kernel
theorem d_Model_done_354 : decode b_Model_done 354 = .ok (.bipush 20, 2) := by decide +kernel
theorem d_Model_done_356 : decode b_Model_done 356 = .ok (.if_icmp .ne 5, 3) := by decide +kernel
theorem d_Model_done_359 : decode b_Model_done 359 = .ok (.iconst 2, 1) := by decide +kernel
theorem d_Model_done_360 : decode b_Model_done 360 = .ok (.ireturn, 1) := by decide +kernel
theorem d_Model_done_361 : decode b_Model_done 361 = .ok (.iinc 4 (-2), 3) := by decide +kernel
theorem d_Model_done_364 : decode b_Model_done 364 = .ok (.aload_n 0, 1) := by decide +kernel
theorem d_Model_done_365 : decode b_Model_done 365 = .ok (.getfield 29, 3) := by decide +kernel
theorem d_Model_done_368 : decode b_Model_done 368 = .ok (.aload_n 0, 1) := by decide +kernel
theorem d_Model_done_369 : decode b_Model_done 369 = .ok (.getfield 66, 3) := by decide +kernel
theorem d_Model_done_372 : decode b_Model_done 372 = .ok (.aload_n 0, 1) := by decide +kernel
theorem d_Model_done_373 : decode b_Model_done 373 = .ok (.getfield 23, 3) := by decide +kernel
theorem d_Model_done_376 : decode b_Model_done 376 = .ok (.iload 4, 2) := by decide +kernel
theorem d_Model_done_378 : decode b_Model_done 378 = .ok (.iaload, 1) := by decide +kernel
theorem d_Model_done_379 : decode b_Model_done 379 = .ok (.iastore, 1) := by decide +kernel
theorem d_Model_done_380 : decode b_Model_done 380 = .ok (.aload_n 0, 1) := by decide +kernel
theorem d_Model_done_381 : decode b_Model_done 381 = .ok (.getfield 32, 3) := by decide +kernel
theorem d_Model_done_384 : decode b_Model_done 384 = .ok (.aload_n 0, 1) := by decide +kernel
theorem d_Model_done_385 : decode b_Model_done 385 = .ok (.getfield 66, 3) := by decide +kernel
theorem d_Model_done_388 : decode b_Model_done 388 = .ok (.aload_n 0, 1) := by decide +kernel
theorem d_Model_done_389 : decode b_Model_done 389 = .ok (.getfield 23, 3) := by decide +kernel
theorem d_Model_done_392 : decode b_Model_done 392 = .ok (.iload 4, 2) := by decide +kernel
theorem d_Model_done_394 : decode b_Model_done 394 = .ok (.iconst 1, 1) := by decide +kernel
theorem d_Model_done_395 : decode b_Model_done 395 = .ok (.iadd, 1) := by decide +kernel
theorem d_Model_done_396 : decode b_Model_done 396 = .ok (.iaload, 1) := by decide +kernel
theorem d_Model_done_397 : decode b_Model_done 397 = .ok (.iastore, 1) := by decide +kernel
theorem d_Model_done_398 : decode b_Model_done 398 = .ok (.aload_n 0, 1) := by decide +kernel
theorem d_Model_done_399 : decode b_Model_done 399 = .ok (.dup, 1) := by decide +kernel
theorem d_Model_done_400 : decode b_Model_done 400 = .ok (.getfield 66, 3) := by decide +kernel
theorem d_Model_done_403 : decode b_Model_done 403 = .ok (.iconst 1, 1) := by decide +kernel
theorem d_Model_done_404 : decode b_Model_done 404 = .ok (.iadd, 1) := by decide +kernel
theorem d_Model_done_405 : decode b_Model_done 405 = .ok (.putfield 66, 3) := by decide +kernel
theorem d_Model_done_408 : decode b_Model_done 408 = .ok (.goto 60, 3) := by decide +kernel
theorem d_Model_done_411 : decode b_Model_done 411 = .ok (.aload_n 0, 1) := by decide +kernel
theorem d_Model_done_412 : decode b_Model_done 412 = .ok (.getfield 35, 3) := by decide +kernel
theorem d_Model_done_415 : decode b_Model_done 415 = .ok (.ifCond .eq 16, 3) := by decide +kernel
theorem d_Model_done_418 : decode b_Model_done 418 = .ok (.aload_n 0, 1) := by decide +kernel
theorem d_Model_done_419 : decode b_Model_done 419 = .ok (.aload_n 0, 1) := by decide +kernel
theorem d_Model_done_420 : decode b_Model_done 420 = .ok (.getfield 23, 3) := by decide +kernel
theorem d_Model_done_423 : decode b_Model_done 423 = .ok (.iload 4, 2) := by decide +kernel
theorem d_Model_done_425 : decode b_Model_done 425 = .ok (.iconst 1, 1) := by decide +kernel
theorem d_Model_done_426 : decode b_Model_done 426 = .ok (.isub, 1) := by decide +kernel
theorem d_Model_done_427 : decode b_Model_done 427 = .ok (.iaload, 1) := by decide +kernel
theorem d_Model_done_428 : decode b_Model_done 428 = .ok (.putfield 69, 3) := by decide +kernel
theorem d_Model_done_431 : decode b_Model_done 431 = .ok (.iconst 0, 1) := by decide +kernel
theorem d_Model_done_432 : decode b_Model_done 432 = .ok (.ireturn, 1) := by decide +kernel
theorem d_Model_done_433 : decode b_Model_done 433 = .ok (.iconst 1, 1) := by decide +kernel
theorem d_Model_done_434 : decode b_Model_done 434 = .ok (.ireturn, 1) := by decide +kernel
theorem d_Model_done_435 : decode b_Model_done 435 = .ok (.iinc 4 (-1), 3) := by decide +kernel
theorem d_Model_done_438 : decode b_Model_done 438 = .ok (.aload_n 0, 1) := by decide +kernel
theorem d_Model_done_439 : decode b_Model_done 439 = .ok (.getfield 23, 3) := by decide +kernel
theorem d_Model_done_442 : decode b_Model_done 442 = .ok (.iload 4, 2) := by decide +kernel
theorem d_Model_done_444 : decode b_Model_done 444 = .ok (.iconst 1, 1) := by decide +kernel
theorem d_Model_done_445 : decode b_Model_done 445 = .ok (.isub, 1) := by decide +kernel
theorem d_Model_done_446 : decode b_Model_done 446 = .ok (.iload 6, 2) := by decide +kernel
theorem d_Model_done_448 : decode b_Model_done 448 = .ok (.aload_n 0, 1) := by decide +kernel
theorem d_Model_done_449 : decode b_Model_done 449 = .ok (.getfield 23, 3) := by decide +kernel
theorem d_Model_done_452 : decode b_Model_done 452 = .ok (.iload 4, 2) := by decide +kernel
theorem d_Model_done_454 : decode b_Model_done 454 = .ok (.iconst 1, 1) := by decide +kernel
theorem d_Model_done_455 : decode b_Model_done 455 = .ok (.isub, 1) := by decide +kernel
theorem d_Model_done_456 : decode b_Model_done 456 = .ok (.iaload, 1) := by decide +kernel
theorem d_Model_done_457 : decode b_Model_done 457 = .ok (.aload_n 0, 1) := by decide +kernel
theorem d_Model_done_458 : decode b_Model_done 458 = .ok (.getfield 23, 3) := by decide +kernel
theorem d_Model_done_461 : decode b_Model_done 461 = .ok (.iload 4, 2) := by decide +kernel
theorem d_Model_done_463 : decode b_Model_done 463 = .ok (.iaload, 1) := by decide +kernel
theorem d_Model_done_464 : decode b_Model_done 464 = .ok (.invokestatic 72, 3) := by decide +kernel
theorem d_Model_done_467 : decode b_Model_done 467 = .ok (.iastore, 1) := by decide +kernel
theorem d_Model_done_468 : decode b_Model_done 468 = .ok (.goto (-439), 3) := by decide +kernel
theorem d_Model_done_471 : decode b_Model_done 471 = .ok (.iconst 2, 1) := by decide +kernel
theorem d_Model_done_472 : decode b_Model_done 472 = .ok (.ireturn, 1) := by decide +kernel
theorem d_Model_call_0 : decode b_Model_call 0 = .ok (.aload_n 0, 1) := by decide +kernel
theorem d_Model_call_1 : decode b_Model_call 1 = .ok (.invokevirtual 76, 3) := by decide +kernel
theorem d_Model_call_4 : decode b_Model_call 4 = .ok (.bipush (-2), 2) := by decide +kernel
theorem d_Model_call_6 : decode b_Model_call 6 = .ok (.if_icmp .eq 6, 3) := by decide +kernel
theorem d_Model_call_9 : decode b_Model_call 9 = .ok (.bipush (-2), 2) := by decide +kernel
theorem d_Model_call_11 : decode b_Model_call 11 = .ok (.ireturn, 1) := by decide +kernel
theorem d_Model_call_12 : decode b_Model_call 12 = .ok (.aload_n 0, 1) := by decide +kernel
theorem d_Model_call_13 : decode b_Model_call 13 = .ok (.iconst 0, 1) := by decide +kernel
theorem d_Model_call_14 : decode b_Model_call 14 = .ok (.putfield 66, 3) := by decide +kernel
theorem d_Model_call_17 : decode b_Model_call 17 = .ok (.aload_n 0, 1) := by decide +kernel
theorem d_Model_call_18 : decode b_Model_call 18 = .ok (.iconst 0, 1) := by decide +kernel
theorem d_Model_call_19 : decode b_Model_call 19 = .ok (.putfield 63, 3) := by decide +kernel
theorem d_Model_call_22 : decode b_Model_call 22 = .ok (.aload_n 0, 1) := by decide +kernel
theorem d_Model_call_23 : decode b_Model_call 23 = .ok (.iconst 0, 1) := by decide +kernel
theorem d_Model_call_24 : decode b_Model_call 24 = .ok (.putfield 69, 3) := by decide +kernel
theorem d_Model_call_27 : decode b_Model_call 27 = .ok (.aload_n 0, 1) := by decide +kernel
theorem d_Model_call_28 : decode b_Model_call 28 = .ok (.iload_n 1, 1) := by decide +kernel
theorem d_Model_call_29 : decode b_Model_call 29 = .ok (.iload_n 2, 1) := by decide +kernel
theorem d_Model_call_30 : decode b_Model_call 30 = .ok (.iload_n 3, 1) := by decide +kernel
theorem d_Model_call_31 : decode b_Model_call 31 = .ok (.invokevirtual 80, 3) := by decide +kernel
theorem d_Model_call_34 : decode b_Model_call 34 = .ok (.istore 4, 2) := by decide +kernel
theorem d_Model_call_36 : decode b_Model_call 36 = .ok (.iload 4, 2) := by decide +kernel
theorem d_Model_call_38 : decode b_Model_call 38 = .ok (.iconst 2, 1) := by decide +kernel
theorem d_Model_call_39 : decode b_Model_call 39 = .ok (.if_icmp .ne 8, 3) := by decide +kernel
theorem d_Model_call_42 : decode b_Model_call 42 = .ok (.aload_n 0, 1) := by decide +kernel
theorem d_Model_call_43 : decode b_Model_call 43 = .ok (.iconst 0, 1) := by decide +kernel
theorem d_Model_call_44 : decode b_Model_call 44 = .ok (.putfield 66, 3) := by decide +kernel
theorem d_Model_call_47 : decode b_Model_call 47 = .ok (.iload 4, 2) := by decide +kernel
theorem d_Model_call_49 : decode b_Model_call 49 = .ok (.ireturn, 1) := by decide +kernel
theorem d_Model_result_0 : decode b_Model_result 0 = .ok (.aload_n 0, 1) := by decide +kernel
theorem d_Model_result_1 : decode b_Model_result 1 = .ok (.getfield 69, 3) := by decide +kernel
theorem d_Model_result_4 : decode b_Model_result 4 = .ok (.ireturn, 1) := by decide +kernel
theorem d_Model_steps_0 : decode b_Model_steps 0 = .ok (.aload_n 0, 1) := by decide +kernel
theorem d_Model_steps_1 : decode b_Model_steps 1 = .ok (.getfield 63, 3) := by decide +kernel
theorem d_Model_steps_4 : decode b_Model_steps 4 = .ok (.ireturn, 1) := by decide +kernel
theorem d_Model_pairs_0 : decode b_Model_pairs 0 = .ok (.aload_n 0, 1) := by decide +kernel
theorem d_Model_pairs_1 : decode b_Model_pairs 1 = .ok (.getfield 66, 3) := by decide +kernel
theorem d_Model_pairs_4 : decode b_Model_pairs 4 = .ok (.ireturn, 1) := by decide +kernel
theorem d_Model_pair_0 : decode b_Model_pair 0 = .ok (.iload_n 1, 1) := by decide +kernel
theorem d_Model_pair_1 : decode b_Model_pair 1 = .ok (.ifCond .lt 20, 3) := by decide +kernel
theorem d_Model_pair_4 : decode b_Model_pair 4 = .ok (.iload_n 1, 1) := by decide +kernel
theorem d_Model_pair_5 : decode b_Model_pair 5 = .ok (.aload_n 0, 1) := by decide +kernel
theorem d_Model_pair_6 : decode b_Model_pair 6 = .ok (.getfield 66, 3) := by decide +kernel
theorem d_Model_pair_9 : decode b_Model_pair 9 = .ok (.if_icmp .ge 12, 3) := by decide +kernel
theorem d_Model_pair_12 : decode b_Model_pair 12 = .ok (.iload_n 2, 1) := by decide +kernel
theorem d_Model_pair_13 : decode b_Model_pair 13 = .ok (.ifCond .lt 8, 3) := by decide +kernel
theorem d_Model_pair_16 : decode b_Model_pair 16 = .ok (.iload_n 2, 1) := by decide +kernel
theorem d_Model_pair_17 : decode b_Model_pair 17 = .ok (.iconst 1, 1) := by decide +kernel
theorem d_Model_pair_18 : decode b_Model_pair 18 = .ok (.if_icmp .le 7, 3) := by decide +kernel
theorem d_Model_pair_21 : decode b_Model_pair 21 = .ok (.ldc2_w 83, 3) := by decide +kernel
theorem d_Model_pair_24 : decode b_Model_pair 24 = .ok (.lreturn, 1) := by decide +kernel
theorem d_Model_pair_25 : decode b_Model_pair 25 = .ok (.iload_n 2, 1) := by decide +kernel
theorem d_Model_pair_26 : decode b_Model_pair 26 = .ok (.ifCond .ne 13, 3) := by decide +kernel
theorem d_Model_pair_29 : decode b_Model_pair 29 = .ok (.aload_n 0, 1) := by decide +kernel
theorem d_Model_pair_30 : decode b_Model_pair 30 = .ok (.getfield 29, 3) := by decide +kernel
theorem d_Model_pair_33 : decode b_Model_pair 33 = .ok (.iload_n 1, 1) := by decide +kernel
theorem d_Model_pair_34 : decode b_Model_pair 34 = .ok (.iaload, 1) := by decide +kernel
theorem d_Model_pair_35 : decode b_Model_pair 35 = .ok (.i2l, 1) := by decide +kernel
theorem d_Model_pair_36 : decode b_Model_pair 36 = .ok (.goto 10, 3) := by decide +kernel
theorem d_Model_pair_39 : decode b_Model_pair 39 = .ok (.aload_n 0, 1) := by decide +kernel
theorem d_Model_pair_40 : decode b_Model_pair 40 = .ok (.getfield 32, 3) := by decide +kernel
theorem d_Model_pair_43 : decode b_Model_pair 43 = .ok (.iload_n 1, 1) := by decide +kernel
theorem d_Model_pair_44 : decode b_Model_pair 44 = .ok (.iaload, 1) := by decide +kernel
theorem d_Model_pair_45 : decode b_Model_pair 45 = .ok (.i2l, 1) := by decide +kernel
theorem d_Model_pair_46 : decode b_Model_pair 46 = .ok (.lreturn, 1) := by decide +kernel
