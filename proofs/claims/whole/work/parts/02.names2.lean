theorem inX0 : ∀ w ∈ wsX00, w ∈ lw_tbl := by decide +kernel
theorem inX1 : ∀ w ∈ wsX10, w ∈ lw_tbl := by decide +kernel
theorem inX2 : ∀ w ∈ wsX20, w ∈ lw_tbl := by decide +kernel
theorem inX3 : ∀ w ∈ wsX30, w ∈ lw_tbl := by decide +kernel
abbrev cM_tells : ByteArray := prog_5_method_7_code
def yM_tells : MethodName := ⟨RX3, "tells", "(I)I"⟩
theorem dM_tells_0 : decode cM_tells 0 = .ok (.aload_n 0, 1) := by decide +kernel
theorem dM_tells_1 : decode cM_tells 1 = .ok (.getfield 13, 3) := by decide +kernel
theorem dM_tells_4 : decode cM_tells 4 = .ok (.iload_n 1, 1) := by decide +kernel
theorem dM_tells_5 : decode cM_tells 5 = .ok (.iaload, 1) := by decide +kernel
theorem dM_tells_6 : decode cM_tells 6 = .ok (.bipush 92, 2) := by decide +kernel
theorem dM_tells_8 : decode cM_tells 8 = .ok (.if_icmp .ne 29, 3) := by decide +kernel
theorem dM_tells_11 : decode cM_tells 11 = .ok (.iload_n 1, 1) := by decide +kernel
theorem dM_tells_12 : decode cM_tells 12 = .ok (.iconst 1, 1) := by decide +kernel
theorem dM_tells_13 : decode cM_tells 13 = .ok (.iadd, 1) := by decide +kernel
theorem dM_tells_14 : decode cM_tells 14 = .ok (.aload_n 0, 1) := by decide +kernel
theorem dM_tells_15 : decode cM_tells 15 = .ok (.getfield 31, 3) := by decide +kernel
theorem dM_tells_18 : decode cM_tells 18 = .ok (.if_icmp .ge 19, 3) := by decide +kernel
theorem dM_tells_21 : decode cM_tells 21 = .ok (.aload_n 0, 1) := by decide +kernel
theorem dM_tells_22 : decode cM_tells 22 = .ok (.aload_n 0, 1) := by decide +kernel
theorem dM_tells_23 : decode cM_tells 23 = .ok (.getfield 13, 3) := by decide +kernel
theorem dM_tells_26 : decode cM_tells 26 = .ok (.iload_n 1, 1) := by decide +kernel
theorem dM_tells_27 : decode cM_tells 27 = .ok (.iconst 1, 1) := by decide +kernel
theorem dM_tells_28 : decode cM_tells 28 = .ok (.iadd, 1) := by decide +kernel
theorem dM_tells_29 : decode cM_tells 29 = .ok (.iaload, 1) := by decide +kernel
theorem dM_tells_30 : decode cM_tells 30 = .ok (.putfield 37, 3) := by decide +kernel
theorem dM_tells_33 : decode cM_tells 33 = .ok (.iload_n 1, 1) := by decide +kernel
theorem dM_tells_34 : decode cM_tells 34 = .ok (.iconst 2, 1) := by decide +kernel
theorem dM_tells_35 : decode cM_tells 35 = .ok (.iadd, 1) := by decide +kernel
theorem dM_tells_36 : decode cM_tells 36 = .ok (.ireturn, 1) := by decide +kernel
theorem dM_tells_37 : decode cM_tells 37 = .ok (.aload_n 0, 1) := by decide +kernel
theorem dM_tells_38 : decode cM_tells 38 = .ok (.aload_n 0, 1) := by decide +kernel
theorem dM_tells_39 : decode cM_tells 39 = .ok (.getfield 13, 3) := by decide +kernel
theorem dM_tells_42 : decode cM_tells 42 = .ok (.iload_n 1, 1) := by decide +kernel
theorem dM_tells_43 : decode cM_tells 43 = .ok (.iaload, 1) := by decide +kernel
theorem dM_tells_44 : decode cM_tells 44 = .ok (.putfield 37, 3) := by decide +kernel
theorem dM_tells_47 : decode cM_tells 47 = .ok (.iload_n 1, 1) := by decide +kernel
theorem dM_tells_48 : decode cM_tells 48 = .ok (.iconst 1, 1) := by decide +kernel
theorem dM_tells_49 : decode cM_tells 49 = .ok (.iadd, 1) := by decide +kernel
theorem dM_tells_50 : decode cM_tells 50 = .ok (.ireturn, 1) := by decide +kernel
abbrev cM_isOne : ByteArray := prog_5_method_8_code
def yM_isOne : MethodName := ⟨RX3, "isOne", "(II)Z"⟩
theorem dM_isOne_0 : decode cM_isOne 0 = .ok (.iload_n 1, 1) := by decide +kernel
theorem dM_isOne_1 : decode cM_isOne 1 = .ok (.iconst 1, 1) := by decide +kernel
theorem dM_isOne_2 : decode cM_isOne 2 = .ok (.iadd, 1) := by decide +kernel
theorem dM_isOne_3 : decode cM_isOne 3 = .ok (.istore_n 3, 1) := by decide +kernel
theorem dM_isOne_4 : decode cM_isOne 4 = .ok (.iload_n 3, 1) := by decide +kernel
theorem dM_isOne_5 : decode cM_isOne 5 = .ok (.aload_n 0, 1) := by decide +kernel
theorem dM_isOne_6 : decode cM_isOne 6 = .ok (.getfield 31, 3) := by decide +kernel
theorem dM_isOne_9 : decode cM_isOne 9 = .ok (.if_icmp .ge 18, 3) := by decide +kernel
theorem dM_isOne_12 : decode cM_isOne 12 = .ok (.aload_n 0, 1) := by decide +kernel
theorem dM_isOne_13 : decode cM_isOne 13 = .ok (.getfield 13, 3) := by decide +kernel
theorem dM_isOne_16 : decode cM_isOne 16 = .ok (.iload_n 3, 1) := by decide +kernel
theorem dM_isOne_17 : decode cM_isOne 17 = .ok (.iaload, 1) := by decide +kernel
theorem dM_isOne_18 : decode cM_isOne 18 = .ok (.bipush 94, 2) := by decide +kernel
theorem dM_isOne_20 : decode cM_isOne 20 = .ok (.if_icmp .ne 7, 3) := by decide +kernel
theorem dM_isOne_23 : decode cM_isOne 23 = .ok (.iconst 1, 1) := by decide +kernel
theorem dM_isOne_24 : decode cM_isOne 24 = .ok (.goto 4, 3) := by decide +kernel
theorem dM_isOne_27 : decode cM_isOne 27 = .ok (.iconst 0, 1) := by decide +kernel
theorem dM_isOne_28 : decode cM_isOne 28 = .ok (.istore 4, 2) := by decide +kernel
theorem dM_isOne_30 : decode cM_isOne 30 = .ok (.iload_n 3, 1) := by decide +kernel
theorem dM_isOne_31 : decode cM_isOne 31 = .ok (.iload 4, 2) := by decide +kernel
theorem dM_isOne_33 : decode cM_isOne 33 = .ok (.ifCond .eq 7, 3) := by decide +kernel
theorem dM_isOne_36 : decode cM_isOne 36 = .ok (.iconst 1, 1) := by decide +kernel
theorem dM_isOne_37 : decode cM_isOne 37 = .ok (.goto 4, 3) := by decide +kernel
theorem dM_isOne_40 : decode cM_isOne 40 = .ok (.iconst 0, 1) := by decide +kernel
theorem dM_isOne_41 : decode cM_isOne 41 = .ok (.iadd, 1) := by decide +kernel
theorem dM_isOne_42 : decode cM_isOne 42 = .ok (.istore_n 3, 1) := by decide +kernel
theorem dM_isOne_43 : decode cM_isOne 43 = .ok (.iconst 0, 1) := by decide +kernel
theorem dM_isOne_44 : decode cM_isOne 44 = .ok (.istore 5, 2) := by decide +kernel
theorem dM_isOne_46 : decode cM_isOne 46 = .ok (.iload_n 3, 1) := by decide +kernel
theorem dM_isOne_47 : decode cM_isOne 47 = .ok (.aload_n 0, 1) := by decide +kernel
theorem dM_isOne_48 : decode cM_isOne 48 = .ok (.getfield 31, 3) := by decide +kernel
theorem dM_isOne_51 : decode cM_isOne 51 = .ok (.if_icmp .ge 105, 3) := by decide +kernel
theorem dM_isOne_54 : decode cM_isOne 54 = .ok (.aload_n 0, 1) := by decide +kernel
theorem dM_isOne_55 : decode cM_isOne 55 = .ok (.getfield 13, 3) := by decide +kernel
theorem dM_isOne_58 : decode cM_isOne 58 = .ok (.iload_n 3, 1) := by decide +kernel
theorem dM_isOne_59 : decode cM_isOne 59 = .ok (.iaload, 1) := by decide +kernel
theorem dM_isOne_60 : decode cM_isOne 60 = .ok (.bipush 93, 2) := by decide +kernel
theorem dM_isOne_62 : decode cM_isOne 62 = .ok (.if_icmp .eq 94, 3) := by decide +kernel
theorem dM_isOne_65 : decode cM_isOne 65 = .ok (.aload_n 0, 1) := by decide +kernel
theorem dM_isOne_66 : decode cM_isOne 66 = .ok (.iload_n 3, 1) := by decide +kernel
theorem dM_isOne_67 : decode cM_isOne 67 = .ok (.invokevirtual 40, 3) := by decide +kernel
theorem dM_isOne_70 : decode cM_isOne 70 = .ok (.istore_n 3, 1) := by decide +kernel
theorem dM_isOne_71 : decode cM_isOne 71 = .ok (.aload_n 0, 1) := by decide +kernel
theorem dM_isOne_72 : decode cM_isOne 72 = .ok (.getfield 37, 3) := by decide +kernel
theorem dM_isOne_75 : decode cM_isOne 75 = .ok (.istore 6, 2) := by decide +kernel
theorem dM_isOne_77 : decode cM_isOne 77 = .ok (.iload 6, 2) := by decide +kernel
theorem dM_isOne_79 : decode cM_isOne 79 = .ok (.istore 7, 2) := by decide +kernel
theorem dM_isOne_81 : decode cM_isOne 81 = .ok (.iload_n 3, 1) := by decide +kernel
theorem dM_isOne_82 : decode cM_isOne 82 = .ok (.iconst 1, 1) := by decide +kernel
theorem dM_isOne_83 : decode cM_isOne 83 = .ok (.iadd, 1) := by decide +kernel
theorem dM_isOne_84 : decode cM_isOne 84 = .ok (.aload_n 0, 1) := by decide +kernel
theorem dM_isOne_85 : decode cM_isOne 85 = .ok (.getfield 31, 3) := by decide +kernel
theorem dM_isOne_88 : decode cM_isOne 88 = .ok (.if_icmp .ge 41, 3) := by decide +kernel
theorem dM_isOne_91 : decode cM_isOne 91 = .ok (.aload_n 0, 1) := by decide +kernel
theorem dM_isOne_92 : decode cM_isOne 92 = .ok (.getfield 13, 3) := by decide +kernel
theorem dM_isOne_95 : decode cM_isOne 95 = .ok (.iload_n 3, 1) := by decide +kernel
theorem dM_isOne_96 : decode cM_isOne 96 = .ok (.iaload, 1) := by decide +kernel
theorem dM_isOne_97 : decode cM_isOne 97 = .ok (.bipush 45, 2) := by decide +kernel
theorem dM_isOne_99 : decode cM_isOne 99 = .ok (.if_icmp .ne 30, 3) := by decide +kernel
theorem dM_isOne_102 : decode cM_isOne 102 = .ok (.aload_n 0, 1) := by decide +kernel
theorem dM_isOne_103 : decode cM_isOne 103 = .ok (.getfield 13, 3) := by decide +kernel
theorem dM_isOne_106 : decode cM_isOne 106 = .ok (.iload_n 3, 1) := by decide +kernel
theorem dM_isOne_107 : decode cM_isOne 107 = .ok (.iconst 1, 1) := by decide +kernel
theorem dM_isOne_108 : decode cM_isOne 108 = .ok (.iadd, 1) := by decide +kernel
theorem dM_isOne_109 : decode cM_isOne 109 = .ok (.iaload, 1) := by decide +kernel
theorem dM_isOne_110 : decode cM_isOne 110 = .ok (.bipush 93, 2) := by decide +kernel
theorem dM_isOne_112 : decode cM_isOne 112 = .ok (.if_icmp .eq 17, 3) := by decide +kernel
theorem dM_isOne_115 : decode cM_isOne 115 = .ok (.aload_n 0, 1) := by decide +kernel
theorem dM_isOne_116 : decode cM_isOne 116 = .ok (.iload_n 3, 1) := by decide +kernel
theorem dM_isOne_117 : decode cM_isOne 117 = .ok (.iconst 1, 1) := by decide +kernel
theorem dM_isOne_118 : decode cM_isOne 118 = .ok (.iadd, 1) := by decide +kernel
theorem dM_isOne_119 : decode cM_isOne 119 = .ok (.invokevirtual 40, 3) := by decide +kernel
theorem dM_isOne_122 : decode cM_isOne 122 = .ok (.istore_n 3, 1) := by decide +kernel
theorem dM_isOne_123 : decode cM_isOne 123 = .ok (.aload_n 0, 1) := by decide +kernel
theorem dM_isOne_124 : decode cM_isOne 124 = .ok (.getfield 37, 3) := by decide +kernel
theorem dM_isOne_127 : decode cM_isOne 127 = .ok (.istore 7, 2) := by decide +kernel
theorem dM_isOne_129 : decode cM_isOne 129 = .ok (.iload 5, 2) := by decide +kernel
theorem dM_isOne_131 : decode cM_isOne 131 = .ok (.ifCond .ne 15, 3) := by decide +kernel
theorem dM_isOne_134 : decode cM_isOne 134 = .ok (.iload_n 2, 1) := by decide +kernel
theorem dM_isOne_135 : decode cM_isOne 135 = .ok (.iload 6, 2) := by decide +kernel
theorem dM_isOne_137 : decode cM_isOne 137 = .ok (.if_icmp .lt 13, 3) := by decide +kernel
theorem dM_isOne_140 : decode cM_isOne 140 = .ok (.iload_n 2, 1) := by decide +kernel
theorem dM_isOne_141 : decode cM_isOne 141 = .ok (.iload 7, 2) := by decide +kernel
theorem dM_isOne_143 : decode cM_isOne 143 = .ok (.if_icmp .gt 7, 3) := by decide +kernel
theorem dM_isOne_146 : decode cM_isOne 146 = .ok (.iconst 1, 1) := by decide +kernel
theorem dM_isOne_147 : decode cM_isOne 147 = .ok (.goto 4, 3) := by decide +kernel
theorem dM_isOne_150 : decode cM_isOne 150 = .ok (.iconst 0, 1) := by decide +kernel
theorem dM_isOne_151 : decode cM_isOne 151 = .ok (.istore 5, 2) := by decide +kernel
theorem dM_isOne_153 : decode cM_isOne 153 = .ok (.goto (-107), 3) := by decide +kernel
theorem dM_isOne_156 : decode cM_isOne 156 = .ok (.aload_n 0, 1) := by decide +kernel
theorem dM_isOne_157 : decode cM_isOne 157 = .ok (.iload_n 3, 1) := by decide +kernel
theorem dM_isOne_158 : decode cM_isOne 158 = .ok (.aload_n 0, 1) := by decide +kernel
theorem dM_isOne_159 : decode cM_isOne 159 = .ok (.getfield 31, 3) := by decide +kernel
theorem dM_isOne_162 : decode cM_isOne 162 = .ok (.if_icmp .ge 9, 3) := by decide +kernel
theorem dM_isOne_165 : decode cM_isOne 165 = .ok (.iload_n 3, 1) := by decide +kernel
theorem dM_isOne_166 : decode cM_isOne 166 = .ok (.iconst 1, 1) := by decide +kernel
theorem dM_isOne_167 : decode cM_isOne 167 = .ok (.iadd, 1) := by decide +kernel
theorem dM_isOne_168 : decode cM_isOne 168 = .ok (.goto 4, 3) := by decide +kernel
theorem dM_isOne_171 : decode cM_isOne 171 = .ok (.iload_n 3, 1) := by decide +kernel
theorem dM_isOne_172 : decode cM_isOne 172 = .ok (.putfield 44, 3) := by decide +kernel
theorem dM_isOne_175 : decode cM_isOne 175 = .ok (.iload 5, 2) := by decide +kernel
theorem dM_isOne_177 : decode cM_isOne 177 = .ok (.iload 4, 2) := by decide +kernel
theorem dM_isOne_179 : decode cM_isOne 179 = .ok (.if_icmp .eq 7, 3) := by decide +kernel
theorem dM_isOne_182 : decode cM_isOne 182 = .ok (.iconst 1, 1) := by decide +kernel
theorem dM_isOne_183 : decode cM_isOne 183 = .ok (.goto 4, 3) := by decide +kernel
theorem dM_isOne_186 : decode cM_isOne 186 = .ok (.iconst 0, 1) := by decide +kernel
theorem dM_isOne_187 : decode cM_isOne 187 = .ok (.ireturn, 1) := by decide +kernel
abbrev cM_suits : ByteArray := prog_5_method_9_code
def yM_suits : MethodName := ⟨RX3, "suits", "(II)Z"⟩
theorem dM_suits_0 : decode cM_suits 0 = .ok (.aload_n 0, 1) := by decide +kernel
theorem dM_suits_1 : decode cM_suits 1 = .ok (.getfield 13, 3) := by decide +kernel
theorem dM_suits_4 : decode cM_suits 4 = .ok (.iload_n 1, 1) := by decide +kernel
theorem dM_suits_5 : decode cM_suits 5 = .ok (.iaload, 1) := by decide +kernel
theorem dM_suits_6 : decode cM_suits 6 = .ok (.bipush 91, 2) := by decide +kernel
theorem dM_suits_8 : decode cM_suits 8 = .ok (.if_icmp .ne 10, 3) := by decide +kernel
theorem dM_suits_11 : decode cM_suits 11 = .ok (.aload_n 0, 1) := by decide +kernel
theorem dM_suits_12 : decode cM_suits 12 = .ok (.iload_n 1, 1) := by decide +kernel
theorem dM_suits_13 : decode cM_suits 13 = .ok (.iload_n 2, 1) := by decide +kernel
theorem dM_suits_14 : decode cM_suits 14 = .ok (.invokevirtual 47, 3) := by decide +kernel
theorem dM_suits_17 : decode cM_suits 17 = .ok (.ireturn, 1) := by decide +kernel
theorem dM_suits_18 : decode cM_suits 18 = .ok (.aload_n 0, 1) := by decide +kernel
theorem dM_suits_19 : decode cM_suits 19 = .ok (.getfield 13, 3) := by decide +kernel
theorem dM_suits_22 : decode cM_suits 22 = .ok (.iload_n 1, 1) := by decide +kernel
theorem dM_suits_23 : decode cM_suits 23 = .ok (.iaload, 1) := by decide +kernel
theorem dM_suits_24 : decode cM_suits 24 = .ok (.bipush 63, 2) := by decide +kernel
theorem dM_suits_26 : decode cM_suits 26 = .ok (.if_icmp .ne 12, 3) := by decide +kernel
theorem dM_suits_29 : decode cM_suits 29 = .ok (.aload_n 0, 1) := by decide +kernel
theorem dM_suits_30 : decode cM_suits 30 = .ok (.iload_n 1, 1) := by decide +kernel
theorem dM_suits_31 : decode cM_suits 31 = .ok (.iconst 1, 1) := by decide +kernel
theorem dM_suits_32 : decode cM_suits 32 = .ok (.iadd, 1) := by decide +kernel
theorem dM_suits_33 : decode cM_suits 33 = .ok (.putfield 44, 3) := by decide +kernel
theorem dM_suits_36 : decode cM_suits 36 = .ok (.iconst 1, 1) := by decide +kernel
theorem dM_suits_37 : decode cM_suits 37 = .ok (.ireturn, 1) := by decide +kernel
theorem dM_suits_38 : decode cM_suits 38 = .ok (.aload_n 0, 1) := by decide +kernel
theorem dM_suits_39 : decode cM_suits 39 = .ok (.aload_n 0, 1) := by decide +kernel
theorem dM_suits_40 : decode cM_suits 40 = .ok (.iload_n 1, 1) := by decide +kernel
theorem dM_suits_41 : decode cM_suits 41 = .ok (.invokevirtual 40, 3) := by decide +kernel
theorem dM_suits_44 : decode cM_suits 44 = .ok (.putfield 44, 3) := by decide +kernel
theorem dM_suits_47 : decode cM_suits 47 = .ok (.aload_n 0, 1) := by decide +kernel
theorem dM_suits_48 : decode cM_suits 48 = .ok (.getfield 37, 3) := by decide +kernel
theorem dM_suits_51 : decode cM_suits 51 = .ok (.iload_n 2, 1) := by decide +kernel
theorem dM_suits_52 : decode cM_suits 52 = .ok (.if_icmp .ne 7, 3) := by decide +kernel
theorem dM_suits_55 : decode cM_suits 55 = .ok (.iconst 1, 1) := by decide +kernel
theorem dM_suits_56 : decode cM_suits 56 = .ok (.goto 4, 3) := by decide +kernel
theorem dM_suits_59 : decode cM_suits 59 = .ok (.iconst 0, 1) := by decide +kernel
theorem dM_suits_60 : decode cM_suits 60 = .ok (.ireturn, 1) := by decide +kernel
abbrev cM_reckon : ByteArray := prog_5_method_10_code
def yM_reckon : MethodName := ⟨RX3, "reckon", "(II)V"⟩
theorem dM_reckon_0 : decode cM_reckon 0 = .ok (.aload_n 0, 1) := by decide +kernel
theorem dM_reckon_1 : decode cM_reckon 1 = .ok (.getfield 19, 3) := by decide +kernel
theorem dM_reckon_4 : decode cM_reckon 4 = .ok (.iconst 0, 1) := by decide +kernel
theorem dM_reckon_5 : decode cM_reckon 5 = .ok (.iconst 1, 1) := by decide +kernel
theorem dM_reckon_6 : decode cM_reckon 6 = .ok (.bastore, 1) := by decide +kernel
theorem dM_reckon_7 : decode cM_reckon 7 = .ok (.iconst 1, 1) := by decide +kernel
theorem dM_reckon_8 : decode cM_reckon 8 = .ok (.istore_n 3, 1) := by decide +kernel
theorem dM_reckon_9 : decode cM_reckon 9 = .ok (.iload_n 3, 1) := by decide +kernel
theorem dM_reckon_10 : decode cM_reckon 10 = .ok (.iload_n 2, 1) := by decide +kernel
theorem dM_reckon_11 : decode cM_reckon 11 = .ok (.if_icmp .gt 16, 3) := by decide +kernel
theorem dM_reckon_14 : decode cM_reckon 14 = .ok (.aload_n 0, 1) := by decide +kernel
theorem dM_reckon_15 : decode cM_reckon 15 = .ok (.getfield 19, 3) := by decide +kernel
theorem dM_reckon_18 : decode cM_reckon 18 = .ok (.iload_n 3, 1) := by decide +kernel
theorem dM_reckon_19 : decode cM_reckon 19 = .ok (.iconst 0, 1) := by decide +kernel
theorem dM_reckon_20 : decode cM_reckon 20 = .ok (.bastore, 1) := by decide +kernel
theorem dM_reckon_21 : decode cM_reckon 21 = .ok (.iinc 3 1, 3) := by decide +kernel
theorem dM_reckon_24 : decode cM_reckon 24 = .ok (.goto (-15), 3) := by decide +kernel
theorem dM_reckon_27 : decode cM_reckon 27 = .ok (.iconst 0, 1) := by decide +kernel
theorem dM_reckon_28 : decode cM_reckon 28 = .ok (.istore_n 3, 1) := by decide +kernel
theorem dM_reckon_29 : decode cM_reckon 29 = .ok (.iload_n 3, 1) := by decide +kernel
theorem dM_reckon_30 : decode cM_reckon 30 = .ok (.aload_n 0, 1) := by decide +kernel
theorem dM_reckon_31 : decode cM_reckon 31 = .ok (.getfield 31, 3) := by decide +kernel
theorem dM_reckon_34 : decode cM_reckon 34 = .ok (.if_icmp .ge 148, 3) := by decide +kernel
theorem dM_reckon_37 : decode cM_reckon 37 = .ok (.aload_n 0, 1) := by decide +kernel
theorem dM_reckon_38 : decode cM_reckon 38 = .ok (.getfield 13, 3) := by decide +kernel
theorem dM_reckon_41 : decode cM_reckon 41 = .ok (.iload_n 3, 1) := by decide +kernel
theorem dM_reckon_42 : decode cM_reckon 42 = .ok (.iaload, 1) := by decide +kernel
theorem dM_reckon_43 : decode cM_reckon 43 = .ok (.bipush 42, 2) := by decide +kernel
theorem dM_reckon_45 : decode cM_reckon 45 = .ok (.if_icmp .ne 58, 3) := by decide +kernel
theorem dM_reckon_48 : decode cM_reckon 48 = .ok (.iconst 1, 1) := by decide +kernel
theorem dM_reckon_49 : decode cM_reckon 49 = .ok (.istore 4, 2) := by decide +kernel
theorem dM_reckon_51 : decode cM_reckon 51 = .ok (.iload 4, 2) := by decide +kernel
theorem dM_reckon_53 : decode cM_reckon 53 = .ok (.iload_n 2, 1) := by decide +kernel
theorem dM_reckon_54 : decode cM_reckon 54 = .ok (.if_icmp .gt 43, 3) := by decide +kernel
theorem dM_reckon_57 : decode cM_reckon 57 = .ok (.aload_n 0, 1) := by decide +kernel
theorem dM_reckon_58 : decode cM_reckon 58 = .ok (.getfield 19, 3) := by decide +kernel
theorem dM_reckon_61 : decode cM_reckon 61 = .ok (.iload 4, 2) := by decide +kernel
theorem dM_reckon_63 : decode cM_reckon 63 = .ok (.aload_n 0, 1) := by decide +kernel
theorem dM_reckon_64 : decode cM_reckon 64 = .ok (.getfield 19, 3) := by decide +kernel
theorem dM_reckon_67 : decode cM_reckon 67 = .ok (.iload 4, 2) := by decide +kernel
theorem dM_reckon_69 : decode cM_reckon 69 = .ok (.baload, 1) := by decide +kernel
theorem dM_reckon_70 : decode cM_reckon 70 = .ok (.ifCond .ne 15, 3) := by decide +kernel
theorem dM_reckon_73 : decode cM_reckon 73 = .ok (.aload_n 0, 1) := by decide +kernel
theorem dM_reckon_74 : decode cM_reckon 74 = .ok (.getfield 19, 3) := by decide +kernel
theorem dM_reckon_77 : decode cM_reckon 77 = .ok (.iload 4, 2) := by decide +kernel
theorem dM_reckon_79 : decode cM_reckon 79 = .ok (.iconst 1, 1) := by decide +kernel
theorem dM_reckon_80 : decode cM_reckon 80 = .ok (.isub, 1) := by decide +kernel
theorem dM_reckon_81 : decode cM_reckon 81 = .ok (.baload, 1) := by decide +kernel
theorem dM_reckon_82 : decode cM_reckon 82 = .ok (.ifCond .eq 7, 3) := by decide +kernel
theorem dM_reckon_85 : decode cM_reckon 85 = .ok (.iconst 1, 1) := by decide +kernel
theorem dM_reckon_86 : decode cM_reckon 86 = .ok (.goto 4, 3) := by decide +kernel
theorem dM_reckon_89 : decode cM_reckon 89 = .ok (.iconst 0, 1) := by decide +kernel
theorem dM_reckon_90 : decode cM_reckon 90 = .ok (.bastore, 1) := by decide +kernel
theorem dM_reckon_91 : decode cM_reckon 91 = .ok (.iinc 4 1, 3) := by decide +kernel
theorem dM_reckon_94 : decode cM_reckon 94 = .ok (.goto (-43), 3) := by decide +kernel
theorem dM_reckon_97 : decode cM_reckon 97 = .ok (.iinc 3 1, 3) := by decide +kernel
theorem dM_reckon_100 : decode cM_reckon 100 = .ok (.goto (-71), 3) := by decide +kernel
theorem dM_reckon_103 : decode cM_reckon 103 = .ok (.iload_n 2, 1) := by decide +kernel
theorem dM_reckon_104 : decode cM_reckon 104 = .ok (.istore 4, 2) := by decide +kernel
theorem dM_reckon_106 : decode cM_reckon 106 = .ok (.iload 4, 2) := by decide +kernel
theorem dM_reckon_108 : decode cM_reckon 108 = .ok (.ifCond .le 52, 3) := by decide +kernel
theorem dM_reckon_111 : decode cM_reckon 111 = .ok (.aload_n 0, 1) := by decide +kernel
theorem dM_reckon_112 : decode cM_reckon 112 = .ok (.getfield 19, 3) := by decide +kernel
theorem dM_reckon_115 : decode cM_reckon 115 = .ok (.iload 4, 2) := by decide +kernel
theorem dM_reckon_117 : decode cM_reckon 117 = .ok (.aload_n 0, 1) := by decide +kernel
theorem dM_reckon_118 : decode cM_reckon 118 = .ok (.getfield 19, 3) := by decide +kernel
theorem dM_reckon_121 : decode cM_reckon 121 = .ok (.iload 4, 2) := by decide +kernel
theorem dM_reckon_123 : decode cM_reckon 123 = .ok (.iconst 1, 1) := by decide +kernel
theorem dM_reckon_124 : decode cM_reckon 124 = .ok (.isub, 1) := by decide +kernel
theorem dM_reckon_125 : decode cM_reckon 125 = .ok (.baload, 1) := by decide +kernel
theorem dM_reckon_126 : decode cM_reckon 126 = .ok (.ifCond .eq 26, 3) := by decide +kernel
theorem dM_reckon_129 : decode cM_reckon 129 = .ok (.aload_n 0, 1) := by decide +kernel
theorem dM_reckon_130 : decode cM_reckon 130 = .ok (.iload_n 3, 1) := by decide +kernel
theorem dM_reckon_131 : decode cM_reckon 131 = .ok (.aload_n 0, 1) := by decide +kernel
theorem dM_reckon_132 : decode cM_reckon 132 = .ok (.getfield 16, 3) := by decide +kernel
theorem dM_reckon_135 : decode cM_reckon 135 = .ok (.iload_n 1, 1) := by decide +kernel
theorem dM_reckon_136 : decode cM_reckon 136 = .ok (.iload 4, 2) := by decide +kernel
theorem dM_reckon_138 : decode cM_reckon 138 = .ok (.iadd, 1) := by decide +kernel
theorem dM_reckon_139 : decode cM_reckon 139 = .ok (.iconst 1, 1) := by decide +kernel
theorem dM_reckon_140 : decode cM_reckon 140 = .ok (.isub, 1) := by decide +kernel
theorem dM_reckon_141 : decode cM_reckon 141 = .ok (.iaload, 1) := by decide +kernel
theorem dM_reckon_142 : decode cM_reckon 142 = .ok (.invokevirtual 51, 3) := by decide +kernel
theorem dM_reckon_145 : decode cM_reckon 145 = .ok (.ifCond .eq 7, 3) := by decide +kernel
theorem dM_reckon_148 : decode cM_reckon 148 = .ok (.iconst 1, 1) := by decide +kernel
theorem dM_reckon_149 : decode cM_reckon 149 = .ok (.goto 4, 3) := by decide +kernel
theorem dM_reckon_152 : decode cM_reckon 152 = .ok (.iconst 0, 1) := by decide +kernel
theorem dM_reckon_153 : decode cM_reckon 153 = .ok (.bastore, 1) := by decide +kernel
theorem dM_reckon_154 : decode cM_reckon 154 = .ok (.iinc 4 (-1), 3) := by decide +kernel
theorem dM_reckon_157 : decode cM_reckon 157 = .ok (.goto (-51), 3) := by decide +kernel
theorem dM_reckon_160 : decode cM_reckon 160 = .ok (.aload_n 0, 1) := by decide +kernel
theorem dM_reckon_161 : decode cM_reckon 161 = .ok (.getfield 19, 3) := by decide +kernel
theorem dM_reckon_164 : decode cM_reckon 164 = .ok (.iconst 0, 1) := by decide +kernel
theorem dM_reckon_165 : decode cM_reckon 165 = .ok (.iconst 0, 1) := by decide +kernel
theorem dM_reckon_166 : decode cM_reckon 166 = .ok (.bastore, 1) := by decide +kernel
theorem dM_reckon_167 : decode cM_reckon 167 = .ok (.aload_n 0, 1) := by decide +kernel
theorem dM_reckon_168 : decode cM_reckon 168 = .ok (.iload_n 3, 1) := by decide +kernel
theorem dM_reckon_169 : decode cM_reckon 169 = .ok (.iconst 0, 1) := by decide +kernel
theorem dM_reckon_170 : decode cM_reckon 170 = .ok (.invokevirtual 51, 3) := by decide +kernel
theorem dM_reckon_173 : decode cM_reckon 173 = .ok (.pop, 1) := by decide +kernel
theorem dM_reckon_174 : decode cM_reckon 174 = .ok (.aload_n 0, 1) := by decide +kernel
theorem dM_reckon_175 : decode cM_reckon 175 = .ok (.getfield 44, 3) := by decide +kernel
theorem dM_reckon_178 : decode cM_reckon 178 = .ok (.istore_n 3, 1) := by decide +kernel
theorem dM_reckon_179 : decode cM_reckon 179 = .ok (.goto (-150), 3) := by decide +kernel
theorem dM_reckon_182 : decode cM_reckon 182 = .ok (.return_, 1) := by decide +kernel
abbrev cM_fits : ByteArray := prog_5_method_11_code
def yM_fits : MethodName := ⟨RX3, "fits", "()Z"⟩
theorem dM_fits_0 : decode cM_fits 0 = .ok (.aload_n 0, 1) := by decide +kernel
theorem dM_fits_1 : decode cM_fits 1 = .ok (.iconst 0, 1) := by decide +kernel
theorem dM_fits_2 : decode cM_fits 2 = .ok (.aload_n 0, 1) := by decide +kernel
theorem dM_fits_3 : decode cM_fits 3 = .ok (.getfield 34, 3) := by decide +kernel
theorem dM_fits_6 : decode cM_fits 6 = .ok (.invokevirtual 54, 3) := by decide +kernel
theorem dM_fits_9 : decode cM_fits 9 = .ok (.aload_n 0, 1) := by decide +kernel
theorem dM_fits_10 : decode cM_fits 10 = .ok (.getfield 19, 3) := by decide +kernel
theorem dM_fits_13 : decode cM_fits 13 = .ok (.aload_n 0, 1) := by decide +kernel
theorem dM_fits_14 : decode cM_fits 14 = .ok (.getfield 34, 3) := by decide +kernel
theorem dM_fits_17 : decode cM_fits 17 = .ok (.baload, 1) := by decide +kernel
theorem dM_fits_18 : decode cM_fits 18 = .ok (.ireturn, 1) := by decide +kernel
abbrev cM_fitsPart : ByteArray := prog_5_method_12_code
def yM_fitsPart : MethodName := ⟨RX3, "fitsPart", "(II)Z"⟩
theorem dM_fitsPart_0 : decode cM_fitsPart 0 = .ok (.iload_n 1, 1) := by decide +kernel
theorem dM_fitsPart_1 : decode cM_fitsPart 1 = .ok (.ifCond .lt 25, 3) := by decide +kernel
theorem dM_fitsPart_4 : decode cM_fitsPart 4 = .ok (.iload_n 2, 1) := by decide +kernel
theorem dM_fitsPart_5 : decode cM_fitsPart 5 = .ok (.ifCond .lt 21, 3) := by decide +kernel
theorem dM_fitsPart_8 : decode cM_fitsPart 8 = .ok (.iload_n 1, 1) := by decide +kernel
theorem dM_fitsPart_9 : decode cM_fitsPart 9 = .ok (.aload_n 0, 1) := by decide +kernel
theorem dM_fitsPart_10 : decode cM_fitsPart 10 = .ok (.getfield 34, 3) := by decide +kernel
theorem dM_fitsPart_13 : decode cM_fitsPart 13 = .ok (.if_icmp .gt 13, 3) := by decide +kernel
theorem dM_fitsPart_16 : decode cM_fitsPart 16 = .ok (.iload_n 2, 1) := by decide +kernel
theorem dM_fitsPart_17 : decode cM_fitsPart 17 = .ok (.aload_n 0, 1) := by decide +kernel
theorem dM_fitsPart_18 : decode cM_fitsPart 18 = .ok (.getfield 34, 3) := by decide +kernel
theorem dM_fitsPart_21 : decode cM_fitsPart 21 = .ok (.iload_n 1, 1) := by decide +kernel
theorem dM_fitsPart_22 : decode cM_fitsPart 22 = .ok (.isub, 1) := by decide +kernel
theorem dM_fitsPart_23 : decode cM_fitsPart 23 = .ok (.if_icmp .le 5, 3) := by decide +kernel
theorem dM_fitsPart_26 : decode cM_fitsPart 26 = .ok (.iconst 0, 1) := by decide +kernel
theorem dM_fitsPart_27 : decode cM_fitsPart 27 = .ok (.ireturn, 1) := by decide +kernel
theorem dM_fitsPart_28 : decode cM_fitsPart 28 = .ok (.aload_n 0, 1) := by decide +kernel
theorem dM_fitsPart_29 : decode cM_fitsPart 29 = .ok (.iload_n 1, 1) := by decide +kernel
theorem dM_fitsPart_30 : decode cM_fitsPart 30 = .ok (.iload_n 2, 1) := by decide +kernel
theorem dM_fitsPart_31 : decode cM_fitsPart 31 = .ok (.invokevirtual 54, 3) := by decide +kernel
theorem dM_fitsPart_34 : decode cM_fitsPart 34 = .ok (.aload_n 0, 1) := by decide +kernel
theorem dM_fitsPart_35 : decode cM_fitsPart 35 = .ok (.getfield 19, 3) := by decide +kernel
theorem dM_fitsPart_38 : decode cM_fitsPart 38 = .ok (.iload_n 2, 1) := by decide +kernel
theorem dM_fitsPart_39 : decode cM_fitsPart 39 = .ok (.baload, 1) := by decide +kernel
theorem dM_fitsPart_40 : decode cM_fitsPart 40 = .ok (.ireturn, 1) := by decide +kernel
abbrev cM_beginnings : ByteArray := prog_5_method_13_code
def yM_beginnings : MethodName := ⟨RX3, "beginnings", "()I"⟩
theorem dM_beginnings_0 : decode cM_beginnings 0 = .ok (.aload_n 0, 1) := by decide +kernel
theorem dM_beginnings_1 : decode cM_beginnings 1 = .ok (.iconst 0, 1) := by decide +kernel
theorem dM_beginnings_2 : decode cM_beginnings 2 = .ok (.aload_n 0, 1) := by decide +kernel
theorem dM_beginnings_3 : decode cM_beginnings 3 = .ok (.getfield 34, 3) := by decide +kernel
theorem dM_beginnings_6 : decode cM_beginnings 6 = .ok (.invokevirtual 54, 3) := by decide +kernel
theorem dM_beginnings_9 : decode cM_beginnings 9 = .ok (.iconst 0, 1) := by decide +kernel
theorem dM_beginnings_10 : decode cM_beginnings 10 = .ok (.istore_n 1, 1) := by decide +kernel
theorem dM_beginnings_11 : decode cM_beginnings 11 = .ok (.iconst 0, 1) := by decide +kernel
theorem dM_beginnings_12 : decode cM_beginnings 12 = .ok (.istore_n 2, 1) := by decide +kernel
theorem dM_beginnings_13 : decode cM_beginnings 13 = .ok (.iload_n 2, 1) := by decide +kernel
theorem dM_beginnings_14 : decode cM_beginnings 14 = .ok (.aload_n 0, 1) := by decide +kernel
theorem dM_beginnings_15 : decode cM_beginnings 15 = .ok (.getfield 34, 3) := by decide +kernel
theorem dM_beginnings_18 : decode cM_beginnings 18 = .ok (.if_icmp .gt 26, 3) := by decide +kernel
theorem dM_beginnings_21 : decode cM_beginnings 21 = .ok (.iload_n 1, 1) := by decide +kernel
theorem dM_beginnings_22 : decode cM_beginnings 22 = .ok (.aload_n 0, 1) := by decide +kernel
theorem dM_beginnings_23 : decode cM_beginnings 23 = .ok (.getfield 19, 3) := by decide +kernel
theorem dM_beginnings_26 : decode cM_beginnings 26 = .ok (.iload_n 2, 1) := by decide +kernel
theorem dM_beginnings_27 : decode cM_beginnings 27 = .ok (.baload, 1) := by decide +kernel
theorem dM_beginnings_28 : decode cM_beginnings 28 = .ok (.ifCond .eq 7, 3) := by decide +kernel
theorem dM_beginnings_31 : decode cM_beginnings 31 = .ok (.iconst 1, 1) := by decide +kernel
theorem dM_beginnings_32 : decode cM_beginnings 32 = .ok (.goto 4, 3) := by decide +kernel
theorem dM_beginnings_35 : decode cM_beginnings 35 = .ok (.iconst 0, 1) := by decide +kernel
theorem dM_beginnings_36 : decode cM_beginnings 36 = .ok (.iadd, 1) := by decide +kernel
theorem dM_beginnings_37 : decode cM_beginnings 37 = .ok (.istore_n 1, 1) := by decide +kernel
theorem dM_beginnings_38 : decode cM_beginnings 38 = .ok (.iinc 2 1, 3) := by decide +kernel
theorem dM_beginnings_41 : decode cM_beginnings 41 = .ok (.goto (-28), 3) := by decide +kernel
theorem dM_beginnings_44 : decode cM_beginnings 44 = .ok (.iload_n 1, 1) := by decide +kernel
theorem dM_beginnings_45 : decode cM_beginnings 45 = .ok (.ireturn, 1) := by decide +kernel
def wsM_tells : List Cond := .code yM_tells cM_tells 2 (some .int) :: ([.fieldLink RX3 13 "WildCardsModel" "pattern" "[I", .fieldLink RX3 31 "WildCardsModel" "size" "I", .fieldLink RX3 37 "WildCardsModel" "told" "I"] ++ wsX30)
def wsM_isOne : List Cond := .code yM_isOne cM_isOne 8 (some .boolean) :: ([.fieldLink RX3 31 "WildCardsModel" "size" "I", .fieldLink RX3 13 "WildCardsModel" "pattern" "[I", .methodLink RX3 40 yM_tells, .instanceMethod yM_tells, .selects RX3 yM_tells yM_tells, .initialized RX3, .code yM_tells cM_tells 2 (some .int), .fieldLink RX3 37 "WildCardsModel" "told" "I", .fieldLink RX3 44 "WildCardsModel" "end" "I"] ++ wsX30)
set_option maxRecDepth 20000 in
theorem gM_isOne_M_tells : GoodIn wsM_isOne (wsV RX3 40 RX3 yM_tells wsM_tells) := goodIn_of _ (by decide +kernel)
def wsM_suits : List Cond := .code yM_suits cM_suits 3 (some .boolean) :: ([.fieldLink RX3 13 "WildCardsModel" "pattern" "[I", .methodLink RX3 47 yM_isOne, .instanceMethod yM_isOne, .selects RX3 yM_isOne yM_isOne, .initialized RX3, .code yM_isOne cM_isOne 8 (some .boolean), .fieldLink RX3 31 "WildCardsModel" "size" "I", .methodLink RX3 40 yM_tells, .instanceMethod yM_tells, .selects RX3 yM_tells yM_tells, .code yM_tells cM_tells 2 (some .int), .fieldLink RX3 37 "WildCardsModel" "told" "I", .fieldLink RX3 44 "WildCardsModel" "end" "I"] ++ wsX30)
set_option maxRecDepth 20000 in
theorem gM_suits_M_isOne : GoodIn wsM_suits (wsV RX3 47 RX3 yM_isOne wsM_isOne) := goodIn_of _ (by decide +kernel)
set_option maxRecDepth 20000 in
theorem gM_suits_M_tells : GoodIn wsM_suits (wsV RX3 40 RX3 yM_tells wsM_tells) := goodIn_of _ (by decide +kernel)
def wsM_reckon : List Cond := .code yM_reckon cM_reckon 5 none :: ([.fieldLink RX3 19 "WildCardsModel" "fit" "[Z", .fieldLink RX3 31 "WildCardsModel" "size" "I", .fieldLink RX3 13 "WildCardsModel" "pattern" "[I", .fieldLink RX3 16 "WildCardsModel" "word" "[I", .methodLink RX3 51 yM_suits, .instanceMethod yM_suits, .selects RX3 yM_suits yM_suits, .initialized RX3, .code yM_suits cM_suits 3 (some .boolean), .methodLink RX3 47 yM_isOne, .instanceMethod yM_isOne, .selects RX3 yM_isOne yM_isOne, .code yM_isOne cM_isOne 8 (some .boolean), .methodLink RX3 40 yM_tells, .instanceMethod yM_tells, .selects RX3 yM_tells yM_tells, .code yM_tells cM_tells 2 (some .int), .fieldLink RX3 37 "WildCardsModel" "told" "I", .fieldLink RX3 44 "WildCardsModel" "end" "I"] ++ wsX30)
set_option maxRecDepth 20000 in
theorem gM_reckon_M_suits : GoodIn wsM_reckon (wsV RX3 51 RX3 yM_suits wsM_suits) := goodIn_of _ (by decide +kernel)
def wsM_fits : List Cond := .code yM_fits cM_fits 1 (some .boolean) :: ([.fieldLink RX3 34 "WildCardsModel" "length" "I", .methodLink RX3 54 yM_reckon, .instanceMethod yM_reckon, .selects RX3 yM_reckon yM_reckon, .initialized RX3, .code yM_reckon cM_reckon 5 none, .fieldLink RX3 19 "WildCardsModel" "fit" "[Z", .fieldLink RX3 31 "WildCardsModel" "size" "I", .fieldLink RX3 13 "WildCardsModel" "pattern" "[I", .fieldLink RX3 16 "WildCardsModel" "word" "[I", .methodLink RX3 51 yM_suits, .instanceMethod yM_suits, .selects RX3 yM_suits yM_suits, .code yM_suits cM_suits 3 (some .boolean), .methodLink RX3 47 yM_isOne, .instanceMethod yM_isOne, .selects RX3 yM_isOne yM_isOne, .code yM_isOne cM_isOne 8 (some .boolean), .methodLink RX3 40 yM_tells, .instanceMethod yM_tells, .selects RX3 yM_tells yM_tells, .code yM_tells cM_tells 2 (some .int), .fieldLink RX3 37 "WildCardsModel" "told" "I", .fieldLink RX3 44 "WildCardsModel" "end" "I"] ++ wsX30)
set_option maxRecDepth 20000 in
theorem gM_fits_M_reckon : GoodIn wsM_fits (wsV RX3 54 RX3 yM_reckon wsM_reckon) := goodIn_of _ (by decide +kernel)
def wsM_fitsPart : List Cond := .code yM_fitsPart cM_fitsPart 3 (some .boolean) :: ([.fieldLink RX3 34 "WildCardsModel" "length" "I", .methodLink RX3 54 yM_reckon, .instanceMethod yM_reckon, .selects RX3 yM_reckon yM_reckon, .initialized RX3, .code yM_reckon cM_reckon 5 none, .fieldLink RX3 19 "WildCardsModel" "fit" "[Z", .fieldLink RX3 31 "WildCardsModel" "size" "I", .fieldLink RX3 13 "WildCardsModel" "pattern" "[I", .fieldLink RX3 16 "WildCardsModel" "word" "[I", .methodLink RX3 51 yM_suits, .instanceMethod yM_suits, .selects RX3 yM_suits yM_suits, .code yM_suits cM_suits 3 (some .boolean), .methodLink RX3 47 yM_isOne, .instanceMethod yM_isOne, .selects RX3 yM_isOne yM_isOne, .code yM_isOne cM_isOne 8 (some .boolean), .methodLink RX3 40 yM_tells, .instanceMethod yM_tells, .selects RX3 yM_tells yM_tells, .code yM_tells cM_tells 2 (some .int), .fieldLink RX3 37 "WildCardsModel" "told" "I", .fieldLink RX3 44 "WildCardsModel" "end" "I"] ++ wsX30)
set_option maxRecDepth 20000 in
theorem gM_fitsPart_M_reckon : GoodIn wsM_fitsPart (wsV RX3 54 RX3 yM_reckon wsM_reckon) := goodIn_of _ (by decide +kernel)
def wsM_beginnings : List Cond := .code yM_beginnings cM_beginnings 3 (some .int) :: ([.fieldLink RX3 34 "WildCardsModel" "length" "I", .methodLink RX3 54 yM_reckon, .instanceMethod yM_reckon, .selects RX3 yM_reckon yM_reckon, .initialized RX3, .code yM_reckon cM_reckon 5 none, .fieldLink RX3 19 "WildCardsModel" "fit" "[Z", .fieldLink RX3 31 "WildCardsModel" "size" "I", .fieldLink RX3 13 "WildCardsModel" "pattern" "[I", .fieldLink RX3 16 "WildCardsModel" "word" "[I", .methodLink RX3 51 yM_suits, .instanceMethod yM_suits, .selects RX3 yM_suits yM_suits, .code yM_suits cM_suits 3 (some .boolean), .methodLink RX3 47 yM_isOne, .instanceMethod yM_isOne, .selects RX3 yM_isOne yM_isOne, .code yM_isOne cM_isOne 8 (some .boolean), .methodLink RX3 40 yM_tells, .instanceMethod yM_tells, .selects RX3 yM_tells yM_tells, .code yM_tells cM_tells 2 (some .int), .fieldLink RX3 37 "WildCardsModel" "told" "I", .fieldLink RX3 44 "WildCardsModel" "end" "I"] ++ wsX30)
set_option maxRecDepth 20000 in
theorem gM_beginnings_M_reckon : GoodIn wsM_beginnings (wsV RX3 54 RX3 yM_reckon wsM_reckon) := goodIn_of _ (by decide +kernel)
set_option maxRecDepth 20000 in
theorem gL_law_X2_init : GoodIn lw_tbl (wsX2_init) := goodIn_p _ [25, 28, 33] (by decide +kernel) (by decide +kernel)
set_option maxRecDepth 20000 in
theorem gL_law_X3_init : GoodIn lw_tbl (wsX3_init) := goodIn_p _ [197, 28] (by decide +kernel) (by decide +kernel)
set_option maxRecDepth 20000 in
theorem gL_law_X2_feed : GoodIn lw_tbl (wsV RL 13 RX2 yX2_feed wsX2_feed) := goodIn_p _ [69, 73] (by decide +kernel) (by decide +kernel)
set_option maxRecDepth 20000 in
theorem gL_law_X3_feed : GoodIn lw_tbl (wsV RL 17 RX3 yX3_feed wsX3_feed) := goodIn_p _ [231, 235] (by decide +kernel) (by decide +kernel)
set_option maxRecDepth 20000 in
theorem gL_law_X2_end : GoodIn lw_tbl (wsV RL 18 RX2 yX2_end wsX2_end) := goodIn_p _ [77] (by decide +kernel) (by decide +kernel)
set_option maxRecDepth 20000 in
theorem gL_law_X3_end : GoodIn lw_tbl (wsV RL 22 RX3 yX3_end wsX3_end) := goodIn_p _ [239] (by decide +kernel) (by decide +kernel)
set_option maxRecDepth 20000 in
theorem gL_law_X2_pattern : GoodIn lw_tbl (wsV RL 23 RX2 yX2_pattern wsX2_pattern) := goodIn_p _ [81, 85, 88, 93, 28, 111, 115, 119, 123, 126, 130, 133, 136, 141, 145, 149, 153, 157] (by decide +kernel) (by decide +kernel)
set_option maxRecDepth 20000 in
theorem gL_law_X3_pattern : GoodIn lw_tbl (wsV RL 27 RX3 yX3_pattern wsX3_pattern) := goodIn_p _ [243] (by decide +kernel) (by decide +kernel)
set_option maxRecDepth 20000 in
theorem gL_law_X2_word : GoodIn lw_tbl (wsV RL 28 RX2 yX2_word wsX2_word) := goodIn_p _ [161] (by decide +kernel) (by decide +kernel)
set_option maxRecDepth 20000 in
theorem gL_law_X3_word : GoodIn lw_tbl (wsV RL 31 RX3 yX3_word wsX3_word) := goodIn_p _ [247] (by decide +kernel) (by decide +kernel)
set_option maxRecDepth 20000 in
theorem gL_law_X2_fits : GoodIn lw_tbl (wsV RL 32 RX2 yX2_fits wsX2_fits) := goodIn_p _ [168, 172, 176, 88, 180, 184, 126] (by decide +kernel) (by decide +kernel)
set_option maxRecDepth 20000 in
theorem gL_law_M_fits : GoodIn lw_tbl (wsV RL 36 RX3 yM_fits wsM_fits) := goodIn_p _ [251, 255, 259, 263, 267] (by decide +kernel) (by decide +kernel)
set_option maxRecDepth 20000 in
theorem gL_law_X2_fitsPart : GoodIn lw_tbl (wsV RL 37 RX2 yX2_fitsPart wsX2_fitsPart) := goodIn_p _ [188, 172, 176, 88, 180, 184, 126] (by decide +kernel) (by decide +kernel)
set_option maxRecDepth 20000 in
theorem gL_law_M_fitsPart : GoodIn lw_tbl (wsV RL 41 RX3 yM_fitsPart wsM_fitsPart) := goodIn_p _ [271, 255, 259, 263, 267] (by decide +kernel) (by decide +kernel)
set_option maxRecDepth 20000 in
theorem gL_law_X2_beginnings : GoodIn lw_tbl (wsV RL 42 RX2 yX2_beginnings wsX2_beginnings) := goodIn_p _ [192, 176, 88, 184, 126, 180] (by decide +kernel) (by decide +kernel)
set_option maxRecDepth 20000 in
theorem gL_law_M_beginnings : GoodIn lw_tbl (wsV RL 45 RX3 yM_beginnings wsM_beginnings) := goodIn_p _ [275, 255, 259, 263, 267] (by decide +kernel) (by decide +kernel)
