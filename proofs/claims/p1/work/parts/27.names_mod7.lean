/-! NAMES: methods and their decode rows, printed by an own text program out of the Statement. -/
abbrev b_Mo_segment : ByteArray := prog_9_method_48_code
def y_Mo_segment : MethodName := ⟨"CommitLedgerModel", "segment", "(II)I"⟩
theorem d_Mo_segment_0 : decode b_Mo_segment 0 = .ok (.aload_n 0, 1) := by decide +kernel
theorem d_Mo_segment_1 : decode b_Mo_segment 1 = .ok (.iload_n 2, 1) := by decide +kernel
theorem d_Mo_segment_2 : decode b_Mo_segment 2 = .ok (.ifCond .lt 8, 3) := by decide +kernel
theorem d_Mo_segment_5 : decode b_Mo_segment 5 = .ok (.iload_n 2, 1) := by decide +kernel
theorem d_Mo_segment_6 : decode b_Mo_segment 6 = .ok (.iconst 4, 1) := by decide +kernel
theorem d_Mo_segment_7 : decode b_Mo_segment 7 = .ok (.if_icmp .le 7, 3) := by decide +kernel
theorem d_Mo_segment_10 : decode b_Mo_segment 10 = .ok (.iconst 1, 1) := by decide +kernel
theorem d_Mo_segment_11 : decode b_Mo_segment 11 = .ok (.goto 4, 3) := by decide +kernel
theorem d_Mo_segment_14 : decode b_Mo_segment 14 = .ok (.iconst 0, 1) := by decide +kernel
theorem d_Mo_segment_15 : decode b_Mo_segment 15 = .ok (.iconst 1, 1) := by decide +kernel
theorem d_Mo_segment_16 : decode b_Mo_segment 16 = .ok (.invokevirtual 152, 3) := by decide +kernel
theorem d_Mo_segment_19 : decode b_Mo_segment 19 = .ok (.ifCond .ne 51, 3) := by decide +kernel
theorem d_Mo_segment_22 : decode b_Mo_segment 22 = .ok (.aload_n 0, 1) := by decide +kernel
theorem d_Mo_segment_23 : decode b_Mo_segment 23 = .ok (.aload_n 0, 1) := by decide +kernel
theorem d_Mo_segment_24 : decode b_Mo_segment 24 = .ok (.getfield 99, 3) := by decide +kernel
theorem d_Mo_segment_27 : decode b_Mo_segment 27 = .ok (.ifCond .ne 7, 3) := by decide +kernel
theorem d_Mo_segment_30 : decode b_Mo_segment 30 = .ok (.iconst 1, 1) := by decide +kernel
theorem d_Mo_segment_31 : decode b_Mo_segment 31 = .ok (.goto 4, 3) := by decide +kernel
theorem d_Mo_segment_34 : decode b_Mo_segment 34 = .ok (.iconst 0, 1) := by decide +kernel
theorem d_Mo_segment_35 : decode b_Mo_segment 35 = .ok (.iconst 2, 1) := by decide +kernel
theorem d_Mo_segment_36 : decode b_Mo_segment 36 = .ok (.invokevirtual 152, 3) := by decide +kernel
theorem d_Mo_segment_39 : decode b_Mo_segment 39 = .ok (.ifCond .ne 31, 3) := by decide +kernel
theorem d_Mo_segment_42 : decode b_Mo_segment 42 = .ok (.aload_n 0, 1) := by decide +kernel
theorem d_Mo_segment_43 : decode b_Mo_segment 43 = .ok (.iload_n 1, 1) := by decide +kernel
theorem d_Mo_segment_44 : decode b_Mo_segment 44 = .ok (.ifCond .lt 14, 3) := by decide +kernel
theorem d_Mo_segment_47 : decode b_Mo_segment 47 = .ok (.iload_n 1, 1) := by decide +kernel
theorem d_Mo_segment_48 : decode b_Mo_segment 48 = .ok (.aload_n 0, 1) := by decide +kernel
theorem d_Mo_segment_49 : decode b_Mo_segment 49 = .ok (.getfield 40, 3) := by decide +kernel
theorem d_Mo_segment_52 : decode b_Mo_segment 52 = .ok (.getfield 122, 3) := by decide +kernel
theorem d_Mo_segment_55 : decode b_Mo_segment 55 = .ok (.if_icmp .lt 7, 3) := by decide +kernel
theorem d_Mo_segment_58 : decode b_Mo_segment 58 = .ok (.iconst 1, 1) := by decide +kernel
theorem d_Mo_segment_59 : decode b_Mo_segment 59 = .ok (.goto 4, 3) := by decide +kernel
theorem d_Mo_segment_62 : decode b_Mo_segment 62 = .ok (.iconst 0, 1) := by decide +kernel
theorem d_Mo_segment_63 : decode b_Mo_segment 63 = .ok (.iconst 3, 1) := by decide +kernel
theorem d_Mo_segment_64 : decode b_Mo_segment 64 = .ok (.invokevirtual 152, 3) := by decide +kernel
theorem d_Mo_segment_67 : decode b_Mo_segment 67 = .ok (.ifCond .eq 11, 3) := by decide +kernel
theorem d_Mo_segment_70 : decode b_Mo_segment 70 = .ok (.aload_n 0, 1) := by decide +kernel
theorem d_Mo_segment_71 : decode b_Mo_segment 71 = .ok (.iconst 0, 1) := by decide +kernel
theorem d_Mo_segment_72 : decode b_Mo_segment 72 = .ok (.bipush 123, 2) := by decide +kernel
theorem d_Mo_segment_74 : decode b_Mo_segment 74 = .ok (.invokevirtual 148, 3) := by decide +kernel
theorem d_Mo_segment_77 : decode b_Mo_segment 77 = .ok (.ireturn, 1) := by decide +kernel
theorem d_Mo_segment_78 : decode b_Mo_segment 78 = .ok (.aload_n 0, 1) := by decide +kernel
theorem d_Mo_segment_79 : decode b_Mo_segment 79 = .ok (.getfield 40, 3) := by decide +kernel
theorem d_Mo_segment_82 : decode b_Mo_segment 82 = .ok (.getfield 182, 3) := by decide +kernel
theorem d_Mo_segment_85 : decode b_Mo_segment 85 = .ok (.iload_n 1, 1) := by decide +kernel
theorem d_Mo_segment_86 : decode b_Mo_segment 86 = .ok (.iconst 1, 1) := by decide +kernel
theorem d_Mo_segment_87 : decode b_Mo_segment 87 = .ok (.iadd, 1) := by decide +kernel
theorem d_Mo_segment_88 : decode b_Mo_segment 88 = .ok (.iaload, 1) := by decide +kernel
theorem d_Mo_segment_89 : decode b_Mo_segment 89 = .ok (.aload_n 0, 1) := by decide +kernel
theorem d_Mo_segment_90 : decode b_Mo_segment 90 = .ok (.getfield 40, 3) := by decide +kernel
theorem d_Mo_segment_93 : decode b_Mo_segment 93 = .ok (.getfield 182, 3) := by decide +kernel
theorem d_Mo_segment_96 : decode b_Mo_segment 96 = .ok (.iload_n 1, 1) := by decide +kernel
theorem d_Mo_segment_97 : decode b_Mo_segment 97 = .ok (.iaload, 1) := by decide +kernel
theorem d_Mo_segment_98 : decode b_Mo_segment 98 = .ok (.isub, 1) := by decide +kernel
theorem d_Mo_segment_99 : decode b_Mo_segment 99 = .ok (.istore_n 3, 1) := by decide +kernel
theorem d_Mo_segment_100 : decode b_Mo_segment 100 = .ok (.iload_n 2, 1) := by decide +kernel
theorem d_Mo_segment_101 : decode b_Mo_segment 101 = .ok (.tableswitch 84 0 3 #[31, 39, 56, 68], 31) := by decide +kernel
theorem d_Mo_segment_132 : decode b_Mo_segment 132 = .ok (.aload_n 0, 1) := by decide +kernel
theorem d_Mo_segment_133 : decode b_Mo_segment 133 = .ok (.iload_n 3, 1) := by decide +kernel
theorem d_Mo_segment_134 : decode b_Mo_segment 134 = .ok (.bipush 123, 2) := by decide +kernel
theorem d_Mo_segment_136 : decode b_Mo_segment 136 = .ok (.invokevirtual 148, 3) := by decide +kernel
theorem d_Mo_segment_139 : decode b_Mo_segment 139 = .ok (.ireturn, 1) := by decide +kernel
theorem d_Mo_segment_140 : decode b_Mo_segment 140 = .ok (.aload_n 0, 1) := by decide +kernel
theorem d_Mo_segment_141 : decode b_Mo_segment 141 = .ok (.iload_n 3, 1) := by decide +kernel
theorem d_Mo_segment_142 : decode b_Mo_segment 142 = .ok (.aload_n 0, 1) := by decide +kernel
theorem d_Mo_segment_143 : decode b_Mo_segment 143 = .ok (.getfield 40, 3) := by decide +kernel
theorem d_Mo_segment_146 : decode b_Mo_segment 146 = .ok (.iload_n 1, 1) := by decide +kernel
theorem d_Mo_segment_147 : decode b_Mo_segment 147 = .ok (.invokevirtual 202, 3) := by decide +kernel
theorem d_Mo_segment_150 : decode b_Mo_segment 150 = .ok (.isub, 1) := by decide +kernel
theorem d_Mo_segment_151 : decode b_Mo_segment 151 = .ok (.bipush 123, 2) := by decide +kernel
theorem d_Mo_segment_153 : decode b_Mo_segment 153 = .ok (.invokevirtual 148, 3) := by decide +kernel
theorem d_Mo_segment_156 : decode b_Mo_segment 156 = .ok (.ireturn, 1) := by decide +kernel
theorem d_Mo_segment_157 : decode b_Mo_segment 157 = .ok (.aload_n 0, 1) := by decide +kernel
theorem d_Mo_segment_158 : decode b_Mo_segment 158 = .ok (.aload_n 0, 1) := by decide +kernel
theorem d_Mo_segment_159 : decode b_Mo_segment 159 = .ok (.iload_n 1, 1) := by decide +kernel
theorem d_Mo_segment_160 : decode b_Mo_segment 160 = .ok (.invokevirtual 205, 3) := by decide +kernel
theorem d_Mo_segment_163 : decode b_Mo_segment 163 = .ok (.bipush 123, 2) := by decide +kernel
theorem d_Mo_segment_165 : decode b_Mo_segment 165 = .ok (.invokevirtual 148, 3) := by decide +kernel
theorem d_Mo_segment_168 : decode b_Mo_segment 168 = .ok (.ireturn, 1) := by decide +kernel
theorem d_Mo_segment_169 : decode b_Mo_segment 169 = .ok (.aload_n 0, 1) := by decide +kernel
theorem d_Mo_segment_170 : decode b_Mo_segment 170 = .ok (.aload_n 0, 1) := by decide +kernel
theorem d_Mo_segment_171 : decode b_Mo_segment 171 = .ok (.getfield 40, 3) := by decide +kernel
theorem d_Mo_segment_174 : decode b_Mo_segment 174 = .ok (.getfield 166, 3) := by decide +kernel
theorem d_Mo_segment_177 : decode b_Mo_segment 177 = .ok (.iload_n 1, 1) := by decide +kernel
theorem d_Mo_segment_178 : decode b_Mo_segment 178 = .ok (.iaload, 1) := by decide +kernel
theorem d_Mo_segment_179 : decode b_Mo_segment 179 = .ok (.bipush 123, 2) := by decide +kernel
theorem d_Mo_segment_181 : decode b_Mo_segment 181 = .ok (.invokevirtual 148, 3) := by decide +kernel
theorem d_Mo_segment_184 : decode b_Mo_segment 184 = .ok (.ireturn, 1) := by decide +kernel
theorem d_Mo_segment_185 : decode b_Mo_segment 185 = .ok (.aload_n 0, 1) := by decide +kernel
theorem d_Mo_segment_186 : decode b_Mo_segment 186 = .ok (.aload_n 0, 1) := by decide +kernel
theorem d_Mo_segment_187 : decode b_Mo_segment 187 = .ok (.getfield 16, 3) := by decide +kernel
theorem d_Mo_segment_190 : decode b_Mo_segment 190 = .ok (.aload_n 0, 1) := by decide +kernel
theorem d_Mo_segment_191 : decode b_Mo_segment 191 = .ok (.getfield 40, 3) := by decide +kernel
theorem d_Mo_segment_194 : decode b_Mo_segment 194 = .ok (.getfield 185, 3) := by decide +kernel
theorem d_Mo_segment_197 : decode b_Mo_segment 197 = .ok (.aload_n 0, 1) := by decide +kernel
theorem d_Mo_segment_198 : decode b_Mo_segment 198 = .ok (.getfield 40, 3) := by decide +kernel
theorem d_Mo_segment_201 : decode b_Mo_segment 201 = .ok (.getfield 182, 3) := by decide +kernel
theorem d_Mo_segment_204 : decode b_Mo_segment 204 = .ok (.iload_n 1, 1) := by decide +kernel
theorem d_Mo_segment_205 : decode b_Mo_segment 205 = .ok (.iaload, 1) := by decide +kernel
theorem d_Mo_segment_206 : decode b_Mo_segment 206 = .ok (.iaload, 1) := by decide +kernel
theorem d_Mo_segment_207 : decode b_Mo_segment 207 = .ok (.iaload, 1) := by decide +kernel
theorem d_Mo_segment_208 : decode b_Mo_segment 208 = .ok (.bipush 123, 2) := by decide +kernel
theorem d_Mo_segment_210 : decode b_Mo_segment 210 = .ok (.invokevirtual 148, 3) := by decide +kernel
theorem d_Mo_segment_213 : decode b_Mo_segment 213 = .ok (.ireturn, 1) := by decide +kernel
theorem kc_Mo_segment : Cond.code y_Mo_segment b_Mo_segment 4 (some .int) ∈ gx_all := gx_in 1288 (by decide +kernel)
abbrev b_Mo_serial : ByteArray := prog_9_method_46_code
def y_Mo_serial : MethodName := ⟨"CommitLedgerModel", "serial", "(II)I"⟩
theorem d_Mo_serial_0 : decode b_Mo_serial 0 = .ok (.aload_n 0, 1) := by decide +kernel
theorem d_Mo_serial_1 : decode b_Mo_serial 1 = .ok (.iload_n 1, 1) := by decide +kernel
theorem d_Mo_serial_2 : decode b_Mo_serial 2 = .ok (.invokevirtual 257, 3) := by decide +kernel
theorem d_Mo_serial_5 : decode b_Mo_serial 5 = .ok (.astore_n 3, 1) := by decide +kernel
theorem d_Mo_serial_6 : decode b_Mo_serial 6 = .ok (.iconst 0, 1) := by decide +kernel
theorem d_Mo_serial_7 : decode b_Mo_serial 7 = .ok (.istore 4, 2) := by decide +kernel
theorem d_Mo_serial_9 : decode b_Mo_serial 9 = .ok (.iconst 0, 1) := by decide +kernel
theorem d_Mo_serial_10 : decode b_Mo_serial 10 = .ok (.istore 5, 2) := by decide +kernel
theorem d_Mo_serial_12 : decode b_Mo_serial 12 = .ok (.iload 5, 2) := by decide +kernel
theorem d_Mo_serial_14 : decode b_Mo_serial 14 = .ok (.aload_n 3, 1) := by decide +kernel
theorem d_Mo_serial_15 : decode b_Mo_serial 15 = .ok (.invokevirtual 200, 3) := by decide +kernel
theorem d_Mo_serial_18 : decode b_Mo_serial 18 = .ok (.if_icmp .ge 56, 3) := by decide +kernel
theorem d_Mo_serial_21 : decode b_Mo_serial 21 = .ok (.aload_n 0, 1) := by decide +kernel
theorem d_Mo_serial_22 : decode b_Mo_serial 22 = .ok (.getfield 84, 3) := by decide +kernel
theorem d_Mo_serial_25 : decode b_Mo_serial 25 = .ok (.ifCond .ne 49, 3) := by decide +kernel
theorem d_Mo_serial_28 : decode b_Mo_serial 28 = .ok (.aload_n 3, 1) := by decide +kernel
theorem d_Mo_serial_29 : decode b_Mo_serial 29 = .ok (.getfield 188, 3) := by decide +kernel
theorem d_Mo_serial_32 : decode b_Mo_serial 32 = .ok (.iload 5, 2) := by decide +kernel
theorem d_Mo_serial_34 : decode b_Mo_serial 34 = .ok (.baload, 1) := by decide +kernel
theorem d_Mo_serial_35 : decode b_Mo_serial 35 = .ok (.ifCond .ne 6, 3) := by decide +kernel
theorem d_Mo_serial_38 : decode b_Mo_serial 38 = .ok (.goto 30, 3) := by decide +kernel
theorem d_Mo_serial_41 : decode b_Mo_serial 41 = .ok (.iload 4, 2) := by decide +kernel
theorem d_Mo_serial_43 : decode b_Mo_serial 43 = .ok (.iload_n 2, 1) := by decide +kernel
theorem d_Mo_serial_44 : decode b_Mo_serial 44 = .ok (.if_icmp .ne 21, 3) := by decide +kernel
theorem d_Mo_serial_47 : decode b_Mo_serial 47 = .ok (.aload_n 0, 1) := by decide +kernel
theorem d_Mo_serial_48 : decode b_Mo_serial 48 = .ok (.aload_n 0, 1) := by decide +kernel
theorem d_Mo_serial_49 : decode b_Mo_serial 49 = .ok (.getfield 16, 3) := by decide +kernel
theorem d_Mo_serial_52 : decode b_Mo_serial 52 = .ok (.aload_n 3, 1) := by decide +kernel
theorem d_Mo_serial_53 : decode b_Mo_serial 53 = .ok (.getfield 185, 3) := by decide +kernel
theorem d_Mo_serial_56 : decode b_Mo_serial 56 = .ok (.iload 5, 2) := by decide +kernel
theorem d_Mo_serial_58 : decode b_Mo_serial 58 = .ok (.iaload, 1) := by decide +kernel
theorem d_Mo_serial_59 : decode b_Mo_serial 59 = .ok (.iaload, 1) := by decide +kernel
theorem d_Mo_serial_60 : decode b_Mo_serial 60 = .ok (.iconst 3, 1) := by decide +kernel
theorem d_Mo_serial_61 : decode b_Mo_serial 61 = .ok (.invokevirtual 148, 3) := by decide +kernel
theorem d_Mo_serial_64 : decode b_Mo_serial 64 = .ok (.ireturn, 1) := by decide +kernel
theorem d_Mo_serial_65 : decode b_Mo_serial 65 = .ok (.iinc 4 1, 3) := by decide +kernel
theorem d_Mo_serial_68 : decode b_Mo_serial 68 = .ok (.iinc 5 1, 3) := by decide +kernel
theorem d_Mo_serial_71 : decode b_Mo_serial 71 = .ok (.goto (-59), 3) := by decide +kernel
theorem d_Mo_serial_74 : decode b_Mo_serial 74 = .ok (.aload_n 0, 1) := by decide +kernel
theorem d_Mo_serial_75 : decode b_Mo_serial 75 = .ok (.iconst 1, 1) := by decide +kernel
theorem d_Mo_serial_76 : decode b_Mo_serial 76 = .ok (.iconst 3, 1) := by decide +kernel
theorem d_Mo_serial_77 : decode b_Mo_serial 77 = .ok (.invokevirtual 152, 3) := by decide +kernel
theorem d_Mo_serial_80 : decode b_Mo_serial 80 = .ok (.pop, 1) := by decide +kernel
theorem d_Mo_serial_81 : decode b_Mo_serial 81 = .ok (.aload_n 0, 1) := by decide +kernel
theorem d_Mo_serial_82 : decode b_Mo_serial 82 = .ok (.iconst 0, 1) := by decide +kernel
theorem d_Mo_serial_83 : decode b_Mo_serial 83 = .ok (.iconst 3, 1) := by decide +kernel
theorem d_Mo_serial_84 : decode b_Mo_serial 84 = .ok (.invokevirtual 148, 3) := by decide +kernel
theorem d_Mo_serial_87 : decode b_Mo_serial 87 = .ok (.ireturn, 1) := by decide +kernel
theorem kc_Mo_serial : Cond.code y_Mo_serial b_Mo_serial 6 (some .int) ∈ gx_all := gx_in 1276 (by decide +kernel)
abbrev b_Mo_sync : ByteArray := prog_9_method_28_code
def y_Mo_sync : MethodName := ⟨"CommitLedgerModel", "sync", "(I)Z"⟩
theorem d_Mo_sync_0 : decode b_Mo_sync 0 = .ok (.aload_n 0, 1) := by decide +kernel
theorem d_Mo_sync_1 : decode b_Mo_sync 1 = .ok (.getfield 23, 3) := by decide +kernel
theorem d_Mo_sync_4 : decode b_Mo_sync 4 = .ok (.aload_n 0, 1) := by decide +kernel
theorem d_Mo_sync_5 : decode b_Mo_sync 5 = .ok (.iload_n 1, 1) := by decide +kernel
theorem d_Mo_sync_6 : decode b_Mo_sync 6 = .ok (.invokevirtual 128, 3) := by decide +kernel
theorem d_Mo_sync_9 : decode b_Mo_sync 9 = .ok (.baload, 1) := by decide +kernel
theorem d_Mo_sync_10 : decode b_Mo_sync 10 = .ok (.ifCond .eq 5, 3) := by decide +kernel
theorem d_Mo_sync_13 : decode b_Mo_sync 13 = .ok (.iconst 1, 1) := by decide +kernel
theorem d_Mo_sync_14 : decode b_Mo_sync 14 = .ok (.ireturn, 1) := by decide +kernel
theorem d_Mo_sync_15 : decode b_Mo_sync 15 = .ok (.aload_n 0, 1) := by decide +kernel
theorem d_Mo_sync_16 : decode b_Mo_sync 16 = .ok (.invokevirtual 115, 3) := by decide +kernel
theorem d_Mo_sync_19 : decode b_Mo_sync 19 = .ok (.ifCond .ne 5, 3) := by decide +kernel
theorem d_Mo_sync_22 : decode b_Mo_sync 22 = .ok (.iconst 0, 1) := by decide +kernel
theorem d_Mo_sync_23 : decode b_Mo_sync 23 = .ok (.ireturn, 1) := by decide +kernel
theorem d_Mo_sync_24 : decode b_Mo_sync 24 = .ok (.aload_n 0, 1) := by decide +kernel
theorem d_Mo_sync_25 : decode b_Mo_sync 25 = .ok (.getfield 23, 3) := by decide +kernel
theorem d_Mo_sync_28 : decode b_Mo_sync 28 = .ok (.aload_n 0, 1) := by decide +kernel
theorem d_Mo_sync_29 : decode b_Mo_sync 29 = .ok (.iload_n 1, 1) := by decide +kernel
theorem d_Mo_sync_30 : decode b_Mo_sync 30 = .ok (.invokevirtual 128, 3) := by decide +kernel
theorem d_Mo_sync_33 : decode b_Mo_sync 33 = .ok (.iconst 1, 1) := by decide +kernel
theorem d_Mo_sync_34 : decode b_Mo_sync 34 = .ok (.bastore, 1) := by decide +kernel
theorem d_Mo_sync_35 : decode b_Mo_sync 35 = .ok (.iconst 1, 1) := by decide +kernel
theorem d_Mo_sync_36 : decode b_Mo_sync 36 = .ok (.ireturn, 1) := by decide +kernel
theorem kc_Mo_sync : Cond.code y_Mo_sync b_Mo_sync 2 (some .boolean) ∈ gx_all := gx_in 1214 (by decide +kernel)
abbrev b_Mo_thrown : ByteArray := prog_9_method_2_code
def y_Mo_thrown : MethodName := ⟨"CommitLedgerModel", "thrown", "()I"⟩
theorem d_Mo_thrown_0 : decode b_Mo_thrown 0 = .ok (.aload_n 0, 1) := by decide +kernel
theorem d_Mo_thrown_1 : decode b_Mo_thrown 1 = .ok (.getfield 80, 3) := by decide +kernel
theorem d_Mo_thrown_4 : decode b_Mo_thrown 4 = .ok (.ireturn, 1) := by decide +kernel
theorem kc_Mo_thrown : Cond.code y_Mo_thrown b_Mo_thrown 1 (some .int) ∈ gx_all := gx_in 1075 (by decide +kernel)
abbrev b_Mo_tidyFiles : ByteArray := prog_9_method_11_code
def y_Mo_tidyFiles : MethodName := ⟨"CommitLedgerModel", "tidyFiles", "()V"⟩
theorem d_Mo_tidyFiles_0 : decode b_Mo_tidyFiles 0 = .ok (.aload_n 0, 1) := by decide +kernel
theorem d_Mo_tidyFiles_1 : decode b_Mo_tidyFiles 1 = .ok (.getfield 112, 3) := by decide +kernel
theorem d_Mo_tidyFiles_4 : decode b_Mo_tidyFiles 4 = .ok (.ifCond .eq 4, 3) := by decide +kernel
theorem d_Mo_tidyFiles_7 : decode b_Mo_tidyFiles 7 = .ok (.return_, 1) := by decide +kernel
theorem d_Mo_tidyFiles_8 : decode b_Mo_tidyFiles 8 = .ok (.iconst 0, 1) := by decide +kernel
theorem d_Mo_tidyFiles_9 : decode b_Mo_tidyFiles 9 = .ok (.istore_n 1, 1) := by decide +kernel
theorem d_Mo_tidyFiles_10 : decode b_Mo_tidyFiles 10 = .ok (.iload_n 1, 1) := by decide +kernel
theorem d_Mo_tidyFiles_11 : decode b_Mo_tidyFiles 11 = .ok (.aload_n 0, 1) := by decide +kernel
theorem d_Mo_tidyFiles_12 : decode b_Mo_tidyFiles 12 = .ok (.getfield 93, 3) := by decide +kernel
theorem d_Mo_tidyFiles_15 : decode b_Mo_tidyFiles 15 = .ok (.if_icmp .ge 16, 3) := by decide +kernel
theorem d_Mo_tidyFiles_18 : decode b_Mo_tidyFiles 18 = .ok (.aload_n 0, 1) := by decide +kernel
theorem d_Mo_tidyFiles_19 : decode b_Mo_tidyFiles 19 = .ok (.getfield 30, 3) := by decide +kernel
theorem d_Mo_tidyFiles_22 : decode b_Mo_tidyFiles 22 = .ok (.iload_n 1, 1) := by decide +kernel
theorem d_Mo_tidyFiles_23 : decode b_Mo_tidyFiles 23 = .ok (.iconst 0, 1) := by decide +kernel
theorem d_Mo_tidyFiles_24 : decode b_Mo_tidyFiles 24 = .ok (.bastore, 1) := by decide +kernel
theorem d_Mo_tidyFiles_25 : decode b_Mo_tidyFiles 25 = .ok (.iinc 1 1, 3) := by decide +kernel
theorem d_Mo_tidyFiles_28 : decode b_Mo_tidyFiles 28 = .ok (.goto (-18), 3) := by decide +kernel
theorem d_Mo_tidyFiles_31 : decode b_Mo_tidyFiles 31 = .ok (.aload_n 0, 1) := by decide +kernel
theorem d_Mo_tidyFiles_32 : decode b_Mo_tidyFiles 32 = .ok (.getfield 135, 3) := by decide +kernel
theorem d_Mo_tidyFiles_35 : decode b_Mo_tidyFiles 35 = .ok (.ifCond .le 29, 3) := by decide +kernel
theorem d_Mo_tidyFiles_38 : decode b_Mo_tidyFiles 38 = .ok (.aload_n 0, 1) := by decide +kernel
theorem d_Mo_tidyFiles_39 : decode b_Mo_tidyFiles 39 = .ok (.aload_n 0, 1) := by decide +kernel
theorem d_Mo_tidyFiles_40 : decode b_Mo_tidyFiles 40 = .ok (.getfield 44, 3) := by decide +kernel
theorem d_Mo_tidyFiles_43 : decode b_Mo_tidyFiles 43 = .ok (.iconst 1, 1) := by decide +kernel
theorem d_Mo_tidyFiles_44 : decode b_Mo_tidyFiles 44 = .ok (.invokevirtual 138, 3) := by decide +kernel
theorem d_Mo_tidyFiles_47 : decode b_Mo_tidyFiles 47 = .ok (.aload_n 0, 1) := by decide +kernel
theorem d_Mo_tidyFiles_48 : decode b_Mo_tidyFiles 48 = .ok (.getfield 30, 3) := by decide +kernel
theorem d_Mo_tidyFiles_51 : decode b_Mo_tidyFiles 51 = .ok (.aload_n 0, 1) := by decide +kernel
theorem d_Mo_tidyFiles_52 : decode b_Mo_tidyFiles 52 = .ok (.aload_n 0, 1) := by decide +kernel
theorem d_Mo_tidyFiles_53 : decode b_Mo_tidyFiles 53 = .ok (.getfield 44, 3) := by decide +kernel
theorem d_Mo_tidyFiles_56 : decode b_Mo_tidyFiles 56 = .ok (.getfield 142, 3) := by decide +kernel
theorem d_Mo_tidyFiles_59 : decode b_Mo_tidyFiles 59 = .ok (.invokevirtual 128, 3) := by decide +kernel
theorem d_Mo_tidyFiles_62 : decode b_Mo_tidyFiles 62 = .ok (.iconst 1, 1) := by decide +kernel
theorem d_Mo_tidyFiles_63 : decode b_Mo_tidyFiles 63 = .ok (.bastore, 1) := by decide +kernel
theorem d_Mo_tidyFiles_64 : decode b_Mo_tidyFiles 64 = .ok (.aload_n 0, 1) := by decide +kernel
theorem d_Mo_tidyFiles_65 : decode b_Mo_tidyFiles 65 = .ok (.getfield 109, 3) := by decide +kernel
theorem d_Mo_tidyFiles_68 : decode b_Mo_tidyFiles 68 = .ok (.ifCond .eq 29, 3) := by decide +kernel
theorem d_Mo_tidyFiles_71 : decode b_Mo_tidyFiles 71 = .ok (.aload_n 0, 1) := by decide +kernel
theorem d_Mo_tidyFiles_72 : decode b_Mo_tidyFiles 72 = .ok (.aload_n 0, 1) := by decide +kernel
theorem d_Mo_tidyFiles_73 : decode b_Mo_tidyFiles 73 = .ok (.getfield 47, 3) := by decide +kernel
theorem d_Mo_tidyFiles_76 : decode b_Mo_tidyFiles 76 = .ok (.iconst 1, 1) := by decide +kernel
theorem d_Mo_tidyFiles_77 : decode b_Mo_tidyFiles 77 = .ok (.invokevirtual 138, 3) := by decide +kernel
theorem d_Mo_tidyFiles_80 : decode b_Mo_tidyFiles 80 = .ok (.aload_n 0, 1) := by decide +kernel
theorem d_Mo_tidyFiles_81 : decode b_Mo_tidyFiles 81 = .ok (.getfield 30, 3) := by decide +kernel
theorem d_Mo_tidyFiles_84 : decode b_Mo_tidyFiles 84 = .ok (.aload_n 0, 1) := by decide +kernel
theorem d_Mo_tidyFiles_85 : decode b_Mo_tidyFiles 85 = .ok (.aload_n 0, 1) := by decide +kernel
theorem d_Mo_tidyFiles_86 : decode b_Mo_tidyFiles 86 = .ok (.getfield 47, 3) := by decide +kernel
theorem d_Mo_tidyFiles_89 : decode b_Mo_tidyFiles 89 = .ok (.getfield 142, 3) := by decide +kernel
theorem d_Mo_tidyFiles_92 : decode b_Mo_tidyFiles 92 = .ok (.invokevirtual 128, 3) := by decide +kernel
theorem d_Mo_tidyFiles_95 : decode b_Mo_tidyFiles 95 = .ok (.iconst 1, 1) := by decide +kernel
theorem d_Mo_tidyFiles_96 : decode b_Mo_tidyFiles 96 = .ok (.bastore, 1) := by decide +kernel
theorem d_Mo_tidyFiles_97 : decode b_Mo_tidyFiles 97 = .ok (.aload_n 0, 1) := by decide +kernel
theorem d_Mo_tidyFiles_98 : decode b_Mo_tidyFiles 98 = .ok (.getfield 99, 3) := by decide +kernel
theorem d_Mo_tidyFiles_101 : decode b_Mo_tidyFiles 101 = .ok (.ifCond .eq 12, 3) := by decide +kernel
theorem d_Mo_tidyFiles_104 : decode b_Mo_tidyFiles 104 = .ok (.aload_n 0, 1) := by decide +kernel
theorem d_Mo_tidyFiles_105 : decode b_Mo_tidyFiles 105 = .ok (.aload_n 0, 1) := by decide +kernel
theorem d_Mo_tidyFiles_106 : decode b_Mo_tidyFiles 106 = .ok (.getfield 40, 3) := by decide +kernel
theorem d_Mo_tidyFiles_109 : decode b_Mo_tidyFiles 109 = .ok (.iconst 1, 1) := by decide +kernel
theorem d_Mo_tidyFiles_110 : decode b_Mo_tidyFiles 110 = .ok (.invokevirtual 138, 3) := by decide +kernel
theorem d_Mo_tidyFiles_113 : decode b_Mo_tidyFiles 113 = .ok (.iconst 0, 1) := by decide +kernel
theorem d_Mo_tidyFiles_114 : decode b_Mo_tidyFiles 114 = .ok (.istore_n 1, 1) := by decide +kernel
theorem d_Mo_tidyFiles_115 : decode b_Mo_tidyFiles 115 = .ok (.iload_n 1, 1) := by decide +kernel
theorem d_Mo_tidyFiles_116 : decode b_Mo_tidyFiles 116 = .ok (.aload_n 0, 1) := by decide +kernel
theorem d_Mo_tidyFiles_117 : decode b_Mo_tidyFiles 117 = .ok (.getfield 106, 3) := by decide +kernel
theorem d_Mo_tidyFiles_120 : decode b_Mo_tidyFiles 120 = .ok (.if_icmp .ge 25, 3) := by decide +kernel
theorem d_Mo_tidyFiles_123 : decode b_Mo_tidyFiles 123 = .ok (.aload_n 0, 1) := by decide +kernel
theorem d_Mo_tidyFiles_124 : decode b_Mo_tidyFiles 124 = .ok (.getfield 30, 3) := by decide +kernel
theorem d_Mo_tidyFiles_127 : decode b_Mo_tidyFiles 127 = .ok (.aload_n 0, 1) := by decide +kernel
theorem d_Mo_tidyFiles_128 : decode b_Mo_tidyFiles 128 = .ok (.aload_n 0, 1) := by decide +kernel
theorem d_Mo_tidyFiles_129 : decode b_Mo_tidyFiles 129 = .ok (.getfield 73, 3) := by decide +kernel
theorem d_Mo_tidyFiles_132 : decode b_Mo_tidyFiles 132 = .ok (.iload_n 1, 1) := by decide +kernel
theorem d_Mo_tidyFiles_133 : decode b_Mo_tidyFiles 133 = .ok (.iaload, 1) := by decide +kernel
theorem d_Mo_tidyFiles_134 : decode b_Mo_tidyFiles 134 = .ok (.invokevirtual 128, 3) := by decide +kernel
theorem d_Mo_tidyFiles_137 : decode b_Mo_tidyFiles 137 = .ok (.iconst 1, 1) := by decide +kernel
theorem d_Mo_tidyFiles_138 : decode b_Mo_tidyFiles 138 = .ok (.bastore, 1) := by decide +kernel
theorem d_Mo_tidyFiles_139 : decode b_Mo_tidyFiles 139 = .ok (.iinc 1 1, 3) := by decide +kernel
theorem d_Mo_tidyFiles_142 : decode b_Mo_tidyFiles 142 = .ok (.goto (-27), 3) := by decide +kernel
theorem d_Mo_tidyFiles_145 : decode b_Mo_tidyFiles 145 = .ok (.aload_n 0, 1) := by decide +kernel
theorem d_Mo_tidyFiles_146 : decode b_Mo_tidyFiles 146 = .ok (.getfield 76, 3) := by decide +kernel
theorem d_Mo_tidyFiles_149 : decode b_Mo_tidyFiles 149 = .ok (.astore_n 1, 1) := by decide +kernel
theorem d_Mo_tidyFiles_150 : decode b_Mo_tidyFiles 150 = .ok (.aload_n 1, 1) := by decide +kernel
theorem d_Mo_tidyFiles_151 : decode b_Mo_tidyFiles 151 = .ok (.arraylength, 1) := by decide +kernel
theorem d_Mo_tidyFiles_152 : decode b_Mo_tidyFiles 152 = .ok (.istore_n 2, 1) := by decide +kernel
theorem d_Mo_tidyFiles_153 : decode b_Mo_tidyFiles 153 = .ok (.iconst 0, 1) := by decide +kernel
theorem d_Mo_tidyFiles_154 : decode b_Mo_tidyFiles 154 = .ok (.istore_n 3, 1) := by decide +kernel
theorem d_Mo_tidyFiles_155 : decode b_Mo_tidyFiles 155 = .ok (.iload_n 3, 1) := by decide +kernel
theorem d_Mo_tidyFiles_156 : decode b_Mo_tidyFiles 156 = .ok (.iload_n 2, 1) := by decide +kernel
theorem d_Mo_tidyFiles_157 : decode b_Mo_tidyFiles 157 = .ok (.if_icmp .ge 29, 3) := by decide +kernel
theorem d_Mo_tidyFiles_160 : decode b_Mo_tidyFiles 160 = .ok (.aload_n 1, 1) := by decide +kernel
theorem d_Mo_tidyFiles_161 : decode b_Mo_tidyFiles 161 = .ok (.iload_n 3, 1) := by decide +kernel
theorem d_Mo_tidyFiles_162 : decode b_Mo_tidyFiles 162 = .ok (.aaload, 1) := by decide +kernel
theorem d_Mo_tidyFiles_163 : decode b_Mo_tidyFiles 163 = .ok (.astore 4, 2) := by decide +kernel
theorem d_Mo_tidyFiles_165 : decode b_Mo_tidyFiles 165 = .ok (.aload 4, 2) := by decide +kernel
theorem d_Mo_tidyFiles_167 : decode b_Mo_tidyFiles 167 = .ok (.getfield 103, 3) := by decide +kernel
theorem d_Mo_tidyFiles_170 : decode b_Mo_tidyFiles 170 = .ok (.ifCond .le 10, 3) := by decide +kernel
theorem d_Mo_tidyFiles_173 : decode b_Mo_tidyFiles 173 = .ok (.aload_n 0, 1) := by decide +kernel
theorem d_Mo_tidyFiles_174 : decode b_Mo_tidyFiles 174 = .ok (.aload 4, 2) := by decide +kernel
theorem d_Mo_tidyFiles_176 : decode b_Mo_tidyFiles 176 = .ok (.iconst 0, 1) := by decide +kernel
theorem d_Mo_tidyFiles_177 : decode b_Mo_tidyFiles 177 = .ok (.invokevirtual 138, 3) := by decide +kernel
theorem d_Mo_tidyFiles_180 : decode b_Mo_tidyFiles 180 = .ok (.iinc 3 1, 3) := by decide +kernel
theorem d_Mo_tidyFiles_183 : decode b_Mo_tidyFiles 183 = .ok (.goto (-28), 3) := by decide +kernel
theorem d_Mo_tidyFiles_186 : decode b_Mo_tidyFiles 186 = .ok (.aload_n 0, 1) := by decide +kernel
theorem d_Mo_tidyFiles_187 : decode b_Mo_tidyFiles 187 = .ok (.invokevirtual 96, 3) := by decide +kernel
theorem d_Mo_tidyFiles_190 : decode b_Mo_tidyFiles 190 = .ok (.return_, 1) := by decide +kernel
theorem kc_Mo_tidyFiles : Cond.code y_Mo_tidyFiles b_Mo_tidyFiles 5 none ∈ gx_all := gx_in 1124 (by decide +kernel)
abbrev b_Mo_value : ByteArray := prog_9_method_44_code
def y_Mo_value : MethodName := ⟨"CommitLedgerModel", "value", "(II)I"⟩
theorem d_Mo_value_0 : decode b_Mo_value 0 = .ok (.aload_n 0, 1) := by decide +kernel
theorem d_Mo_value_1 : decode b_Mo_value 1 = .ok (.iload_n 1, 1) := by decide +kernel
theorem d_Mo_value_2 : decode b_Mo_value 2 = .ok (.invokevirtual 257, 3) := by decide +kernel
theorem d_Mo_value_5 : decode b_Mo_value 5 = .ok (.astore_n 3, 1) := by decide +kernel
theorem d_Mo_value_6 : decode b_Mo_value 6 = .ok (.iconst (-1), 1) := by decide +kernel
theorem d_Mo_value_7 : decode b_Mo_value 7 = .ok (.istore 4, 2) := by decide +kernel
theorem d_Mo_value_9 : decode b_Mo_value 9 = .ok (.iconst 0, 1) := by decide +kernel
theorem d_Mo_value_10 : decode b_Mo_value 10 = .ok (.istore 5, 2) := by decide +kernel
theorem d_Mo_value_12 : decode b_Mo_value 12 = .ok (.iload 5, 2) := by decide +kernel
theorem d_Mo_value_14 : decode b_Mo_value 14 = .ok (.aload_n 3, 1) := by decide +kernel
theorem d_Mo_value_15 : decode b_Mo_value 15 = .ok (.invokevirtual 200, 3) := by decide +kernel
theorem d_Mo_value_18 : decode b_Mo_value 18 = .ok (.if_icmp .ge 46, 3) := by decide +kernel
theorem d_Mo_value_21 : decode b_Mo_value 21 = .ok (.aload_n 0, 1) := by decide +kernel
theorem d_Mo_value_22 : decode b_Mo_value 22 = .ok (.getfield 84, 3) := by decide +kernel
theorem d_Mo_value_25 : decode b_Mo_value 25 = .ok (.ifCond .ne 39, 3) := by decide +kernel
theorem d_Mo_value_28 : decode b_Mo_value 28 = .ok (.aload_n 3, 1) := by decide +kernel
theorem d_Mo_value_29 : decode b_Mo_value 29 = .ok (.getfield 188, 3) := by decide +kernel
theorem d_Mo_value_32 : decode b_Mo_value 32 = .ok (.iload 5, 2) := by decide +kernel
theorem d_Mo_value_34 : decode b_Mo_value 34 = .ok (.baload, 1) := by decide +kernel
theorem d_Mo_value_35 : decode b_Mo_value 35 = .ok (.ifCond .eq 23, 3) := by decide +kernel
theorem d_Mo_value_38 : decode b_Mo_value 38 = .ok (.aload_n 0, 1) := by decide +kernel
theorem d_Mo_value_39 : decode b_Mo_value 39 = .ok (.getfield 9, 3) := by decide +kernel
theorem d_Mo_value_42 : decode b_Mo_value 42 = .ok (.aload_n 3, 1) := by decide +kernel
theorem d_Mo_value_43 : decode b_Mo_value 43 = .ok (.getfield 185, 3) := by decide +kernel
theorem d_Mo_value_46 : decode b_Mo_value 46 = .ok (.iload 5, 2) := by decide +kernel
theorem d_Mo_value_48 : decode b_Mo_value 48 = .ok (.iaload, 1) := by decide +kernel
theorem d_Mo_value_49 : decode b_Mo_value 49 = .ok (.iaload, 1) := by decide +kernel
theorem d_Mo_value_50 : decode b_Mo_value 50 = .ok (.iload_n 2, 1) := by decide +kernel
theorem d_Mo_value_51 : decode b_Mo_value 51 = .ok (.if_icmp .ne 7, 3) := by decide +kernel
theorem d_Mo_value_54 : decode b_Mo_value 54 = .ok (.iload 5, 2) := by decide +kernel
theorem d_Mo_value_56 : decode b_Mo_value 56 = .ok (.istore 4, 2) := by decide +kernel
theorem d_Mo_value_58 : decode b_Mo_value 58 = .ok (.iinc 5 1, 3) := by decide +kernel
theorem d_Mo_value_61 : decode b_Mo_value 61 = .ok (.goto (-49), 3) := by decide +kernel
theorem d_Mo_value_64 : decode b_Mo_value 64 = .ok (.aload_n 0, 1) := by decide +kernel
theorem d_Mo_value_65 : decode b_Mo_value 65 = .ok (.iload 4, 2) := by decide +kernel
theorem d_Mo_value_67 : decode b_Mo_value 67 = .ok (.ifCond .ge 7, 3) := by decide +kernel
theorem d_Mo_value_70 : decode b_Mo_value 70 = .ok (.iconst 1, 1) := by decide +kernel
theorem d_Mo_value_71 : decode b_Mo_value 71 = .ok (.goto 4, 3) := by decide +kernel
theorem d_Mo_value_74 : decode b_Mo_value 74 = .ok (.iconst 0, 1) := by decide +kernel
theorem d_Mo_value_75 : decode b_Mo_value 75 = .ok (.iconst 3, 1) := by decide +kernel
theorem d_Mo_value_76 : decode b_Mo_value 76 = .ok (.invokevirtual 152, 3) := by decide +kernel
theorem d_Mo_value_79 : decode b_Mo_value 79 = .ok (.ifCond .eq 10, 3) := by decide +kernel
theorem d_Mo_value_82 : decode b_Mo_value 82 = .ok (.aload_n 0, 1) := by decide +kernel
theorem d_Mo_value_83 : decode b_Mo_value 83 = .ok (.iconst 0, 1) := by decide +kernel
theorem d_Mo_value_84 : decode b_Mo_value 84 = .ok (.iconst 3, 1) := by decide +kernel
theorem d_Mo_value_85 : decode b_Mo_value 85 = .ok (.invokevirtual 148, 3) := by decide +kernel
theorem d_Mo_value_88 : decode b_Mo_value 88 = .ok (.ireturn, 1) := by decide +kernel
theorem d_Mo_value_89 : decode b_Mo_value 89 = .ok (.aload_n 0, 1) := by decide +kernel
theorem d_Mo_value_90 : decode b_Mo_value 90 = .ok (.aload_n 0, 1) := by decide +kernel
theorem d_Mo_value_91 : decode b_Mo_value 91 = .ok (.getfield 13, 3) := by decide +kernel
theorem d_Mo_value_94 : decode b_Mo_value 94 = .ok (.aload_n 3, 1) := by decide +kernel
theorem d_Mo_value_95 : decode b_Mo_value 95 = .ok (.getfield 185, 3) := by decide +kernel
theorem d_Mo_value_98 : decode b_Mo_value 98 = .ok (.iload 4, 2) := by decide +kernel
theorem d_Mo_value_100 : decode b_Mo_value 100 = .ok (.iaload, 1) := by decide +kernel
theorem d_Mo_value_101 : decode b_Mo_value 101 = .ok (.iaload, 1) := by decide +kernel
theorem d_Mo_value_102 : decode b_Mo_value 102 = .ok (.iconst 3, 1) := by decide +kernel
theorem d_Mo_value_103 : decode b_Mo_value 103 = .ok (.invokevirtual 148, 3) := by decide +kernel
theorem d_Mo_value_106 : decode b_Mo_value 106 = .ok (.ireturn, 1) := by decide +kernel
theorem kc_Mo_value : Cond.code y_Mo_value b_Mo_value 6 (some .int) ∈ gx_all := gx_in 1268 (by decide +kernel)
abbrev b_Mo_write : ByteArray := prog_9_method_9_code
def y_Mo_write : MethodName := ⟨"CommitLedgerModel", "write", "()I"⟩
theorem d_Mo_write_0 : decode b_Mo_write 0 = .ok (.aload_n 0, 1) := by decide +kernel
theorem d_Mo_write_1 : decode b_Mo_write 1 = .ok (.invokevirtual 115, 3) := by decide +kernel
theorem d_Mo_write_4 : decode b_Mo_write 4 = .ok (.ifCond .ne 5, 3) := by decide +kernel
theorem d_Mo_write_7 : decode b_Mo_write 7 = .ok (.iconst (-1), 1) := by decide +kernel
theorem d_Mo_write_8 : decode b_Mo_write 8 = .ok (.ireturn, 1) := by decide +kernel
theorem d_Mo_write_9 : decode b_Mo_write 9 = .ok (.aload_n 0, 1) := by decide +kernel
theorem d_Mo_write_10 : decode b_Mo_write 10 = .ok (.getfield 20, 3) := by decide +kernel
theorem d_Mo_write_13 : decode b_Mo_write 13 = .ok (.aload_n 0, 1) := by decide +kernel
theorem d_Mo_write_14 : decode b_Mo_write 14 = .ok (.getfield 93, 3) := by decide +kernel
theorem d_Mo_write_17 : decode b_Mo_write 17 = .ok (.aload_n 0, 1) := by decide +kernel
theorem d_Mo_write_18 : decode b_Mo_write 18 = .ok (.getfield 119, 3) := by decide +kernel
theorem d_Mo_write_21 : decode b_Mo_write 21 = .ok (.iastore, 1) := by decide +kernel
theorem d_Mo_write_22 : decode b_Mo_write 22 = .ok (.aload_n 0, 1) := by decide +kernel
theorem d_Mo_write_23 : decode b_Mo_write 23 = .ok (.getfield 23, 3) := by decide +kernel
theorem d_Mo_write_26 : decode b_Mo_write 26 = .ok (.aload_n 0, 1) := by decide +kernel
theorem d_Mo_write_27 : decode b_Mo_write 27 = .ok (.getfield 93, 3) := by decide +kernel
theorem d_Mo_write_30 : decode b_Mo_write 30 = .ok (.iconst 0, 1) := by decide +kernel
theorem d_Mo_write_31 : decode b_Mo_write 31 = .ok (.bastore, 1) := by decide +kernel
theorem d_Mo_write_32 : decode b_Mo_write 32 = .ok (.aload_n 0, 1) := by decide +kernel
theorem d_Mo_write_33 : decode b_Mo_write 33 = .ok (.getfield 27, 3) := by decide +kernel
theorem d_Mo_write_36 : decode b_Mo_write 36 = .ok (.aload_n 0, 1) := by decide +kernel
theorem d_Mo_write_37 : decode b_Mo_write 37 = .ok (.getfield 93, 3) := by decide +kernel
theorem d_Mo_write_40 : decode b_Mo_write 40 = .ok (.iconst 0, 1) := by decide +kernel
theorem d_Mo_write_41 : decode b_Mo_write 41 = .ok (.bastore, 1) := by decide +kernel
theorem d_Mo_write_42 : decode b_Mo_write 42 = .ok (.aload_n 0, 1) := by decide +kernel
theorem d_Mo_write_43 : decode b_Mo_write 43 = .ok (.dup, 1) := by decide +kernel
theorem d_Mo_write_44 : decode b_Mo_write 44 = .ok (.getfield 93, 3) := by decide +kernel
theorem d_Mo_write_47 : decode b_Mo_write 47 = .ok (.iconst 1, 1) := by decide +kernel
theorem d_Mo_write_48 : decode b_Mo_write 48 = .ok (.iadd, 1) := by decide +kernel
theorem d_Mo_write_49 : decode b_Mo_write 49 = .ok (.putfield 93, 3) := by decide +kernel
theorem d_Mo_write_52 : decode b_Mo_write 52 = .ok (.aload_n 0, 1) := by decide +kernel
theorem d_Mo_write_53 : decode b_Mo_write 53 = .ok (.dup, 1) := by decide +kernel
theorem d_Mo_write_54 : decode b_Mo_write 54 = .ok (.getfield 119, 3) := by decide +kernel
theorem d_Mo_write_57 : decode b_Mo_write 57 = .ok (.iconst 1, 1) := by decide +kernel
theorem d_Mo_write_58 : decode b_Mo_write 58 = .ok (.iadd, 1) := by decide +kernel
theorem d_Mo_write_59 : decode b_Mo_write 59 = .ok (.putfield 119, 3) := by decide +kernel
theorem d_Mo_write_62 : decode b_Mo_write 62 = .ok (.aload_n 0, 1) := by decide +kernel
theorem d_Mo_write_63 : decode b_Mo_write 63 = .ok (.getfield 119, 3) := by decide +kernel
theorem d_Mo_write_66 : decode b_Mo_write 66 = .ok (.iconst 1, 1) := by decide +kernel
theorem d_Mo_write_67 : decode b_Mo_write 67 = .ok (.isub, 1) := by decide +kernel
theorem d_Mo_write_68 : decode b_Mo_write 68 = .ok (.ireturn, 1) := by decide +kernel
theorem kc_Mo_write : Cond.code y_Mo_write b_Mo_write 1 (some .int) ∈ gx_all := gx_in 1148 (by decide +kernel)
