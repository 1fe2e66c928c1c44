/-! NAMES: methods and their decode rows, printed by an own text program out of the Statement. -/
abbrev b_Mo_init : ByteArray := prog_9_method_1_code
def y_Mo_init : MethodName := ⟨"CommitLedgerModel", "<init>", "()V"⟩
theorem d_Mo_init_0 : decode b_Mo_init 0 = .ok (.aload_n 0, 1) := by decide +kernel
theorem d_Mo_init_1 : decode b_Mo_init 1 = .ok (.invokespecial 1, 3) := by decide +kernel
theorem d_Mo_init_4 : decode b_Mo_init 4 = .ok (.aload_n 0, 1) := by decide +kernel
theorem d_Mo_init_5 : decode b_Mo_init 5 = .ok (.sipush 4096, 3) := by decide +kernel
theorem d_Mo_init_8 : decode b_Mo_init 8 = .ok (.newarray .int, 2) := by decide +kernel
theorem d_Mo_init_10 : decode b_Mo_init 10 = .ok (.putfield 9, 3) := by decide +kernel
theorem d_Mo_init_13 : decode b_Mo_init 13 = .ok (.aload_n 0, 1) := by decide +kernel
theorem d_Mo_init_14 : decode b_Mo_init 14 = .ok (.sipush 4096, 3) := by decide +kernel
theorem d_Mo_init_17 : decode b_Mo_init 17 = .ok (.newarray .int, 2) := by decide +kernel
theorem d_Mo_init_19 : decode b_Mo_init 19 = .ok (.putfield 13, 3) := by decide +kernel
theorem d_Mo_init_22 : decode b_Mo_init 22 = .ok (.aload_n 0, 1) := by decide +kernel
theorem d_Mo_init_23 : decode b_Mo_init 23 = .ok (.sipush 4096, 3) := by decide +kernel
theorem d_Mo_init_26 : decode b_Mo_init 26 = .ok (.newarray .int, 2) := by decide +kernel
theorem d_Mo_init_28 : decode b_Mo_init 28 = .ok (.putfield 16, 3) := by decide +kernel
theorem d_Mo_init_31 : decode b_Mo_init 31 = .ok (.aload_n 0, 1) := by decide +kernel
theorem d_Mo_init_32 : decode b_Mo_init 32 = .ok (.ldc 19, 2) := by decide +kernel
theorem d_Mo_init_34 : decode b_Mo_init 34 = .ok (.newarray .int, 2) := by decide +kernel
theorem d_Mo_init_36 : decode b_Mo_init 36 = .ok (.putfield 20, 3) := by decide +kernel
theorem d_Mo_init_39 : decode b_Mo_init 39 = .ok (.aload_n 0, 1) := by decide +kernel
theorem d_Mo_init_40 : decode b_Mo_init 40 = .ok (.ldc 19, 2) := by decide +kernel
theorem d_Mo_init_42 : decode b_Mo_init 42 = .ok (.newarray .boolean, 2) := by decide +kernel
theorem d_Mo_init_44 : decode b_Mo_init 44 = .ok (.putfield 23, 3) := by decide +kernel
theorem d_Mo_init_47 : decode b_Mo_init 47 = .ok (.aload_n 0, 1) := by decide +kernel
theorem d_Mo_init_48 : decode b_Mo_init 48 = .ok (.ldc 19, 2) := by decide +kernel
theorem d_Mo_init_50 : decode b_Mo_init 50 = .ok (.newarray .boolean, 2) := by decide +kernel
theorem d_Mo_init_52 : decode b_Mo_init 52 = .ok (.putfield 27, 3) := by decide +kernel
theorem d_Mo_init_55 : decode b_Mo_init 55 = .ok (.aload_n 0, 1) := by decide +kernel
theorem d_Mo_init_56 : decode b_Mo_init 56 = .ok (.ldc 19, 2) := by decide +kernel
theorem d_Mo_init_58 : decode b_Mo_init 58 = .ok (.newarray .boolean, 2) := by decide +kernel
theorem d_Mo_init_60 : decode b_Mo_init 60 = .ok (.putfield 30, 3) := by decide +kernel
theorem d_Mo_init_63 : decode b_Mo_init 63 = .ok (.aload_n 0, 1) := by decide +kernel
theorem d_Mo_init_64 : decode b_Mo_init 64 = .ok (.iconst (-1), 1) := by decide +kernel
theorem d_Mo_init_65 : decode b_Mo_init 65 = .ok (.putfield 33, 3) := by decide +kernel
theorem d_Mo_init_68 : decode b_Mo_init 68 = .ok (.aload_n 0, 1) := by decide +kernel
theorem d_Mo_init_69 : decode b_Mo_init 69 = .ok (.new 37, 3) := by decide +kernel
theorem d_Mo_init_72 : decode b_Mo_init 72 = .ok (.dup, 1) := by decide +kernel
theorem d_Mo_init_73 : decode b_Mo_init 73 = .ok (.invokespecial 39, 3) := by decide +kernel
theorem d_Mo_init_76 : decode b_Mo_init 76 = .ok (.putfield 40, 3) := by decide +kernel
theorem d_Mo_init_79 : decode b_Mo_init 79 = .ok (.aload_n 0, 1) := by decide +kernel
theorem d_Mo_init_80 : decode b_Mo_init 80 = .ok (.new 37, 3) := by decide +kernel
theorem d_Mo_init_83 : decode b_Mo_init 83 = .ok (.dup, 1) := by decide +kernel
theorem d_Mo_init_84 : decode b_Mo_init 84 = .ok (.invokespecial 39, 3) := by decide +kernel
theorem d_Mo_init_87 : decode b_Mo_init 87 = .ok (.putfield 44, 3) := by decide +kernel
theorem d_Mo_init_90 : decode b_Mo_init 90 = .ok (.aload_n 0, 1) := by decide +kernel
theorem d_Mo_init_91 : decode b_Mo_init 91 = .ok (.new 37, 3) := by decide +kernel
theorem d_Mo_init_94 : decode b_Mo_init 94 = .ok (.dup, 1) := by decide +kernel
theorem d_Mo_init_95 : decode b_Mo_init 95 = .ok (.invokespecial 39, 3) := by decide +kernel
theorem d_Mo_init_98 : decode b_Mo_init 98 = .ok (.putfield 47, 3) := by decide +kernel
theorem d_Mo_init_101 : decode b_Mo_init 101 = .ok (.aload_n 0, 1) := by decide +kernel
theorem d_Mo_init_102 : decode b_Mo_init 102 = .ok (.sipush 4096, 3) := by decide +kernel
theorem d_Mo_init_105 : decode b_Mo_init 105 = .ok (.newarray .int, 2) := by decide +kernel
theorem d_Mo_init_107 : decode b_Mo_init 107 = .ok (.putfield 50, 3) := by decide +kernel
theorem d_Mo_init_110 : decode b_Mo_init 110 = .ok (.aload_n 0, 1) := by decide +kernel
theorem d_Mo_init_111 : decode b_Mo_init 111 = .ok (.sipush 4096, 3) := by decide +kernel
theorem d_Mo_init_114 : decode b_Mo_init 114 = .ok (.newarray .boolean, 2) := by decide +kernel
theorem d_Mo_init_116 : decode b_Mo_init 116 = .ok (.putfield 53, 3) := by decide +kernel
theorem d_Mo_init_119 : decode b_Mo_init 119 = .ok (.aload_n 0, 1) := by decide +kernel
theorem d_Mo_init_120 : decode b_Mo_init 120 = .ok (.bipush 16, 2) := by decide +kernel
theorem d_Mo_init_122 : decode b_Mo_init 122 = .ok (.putfield 56, 3) := by decide +kernel
theorem d_Mo_init_125 : decode b_Mo_init 125 = .ok (.aload_n 0, 1) := by decide +kernel
theorem d_Mo_init_126 : decode b_Mo_init 126 = .ok (.iconst 4, 1) := by decide +kernel
theorem d_Mo_init_127 : decode b_Mo_init 127 = .ok (.putfield 59, 3) := by decide +kernel
theorem d_Mo_init_130 : decode b_Mo_init 130 = .ok (.aload_n 0, 1) := by decide +kernel
theorem d_Mo_init_131 : decode b_Mo_init 131 = .ok (.iconst 4, 1) := by decide +kernel
theorem d_Mo_init_132 : decode b_Mo_init 132 = .ok (.sipush 4096, 3) := by decide +kernel
theorem d_Mo_init_135 : decode b_Mo_init 135 = .ok (.multianewarray 62 2, 4) := by decide +kernel
theorem d_Mo_init_139 : decode b_Mo_init 139 = .ok (.putfield 64, 3) := by decide +kernel
theorem d_Mo_init_142 : decode b_Mo_init 142 = .ok (.aload_n 0, 1) := by decide +kernel
theorem d_Mo_init_143 : decode b_Mo_init 143 = .ok (.iconst 4, 1) := by decide +kernel
theorem d_Mo_init_144 : decode b_Mo_init 144 = .ok (.newarray .int, 2) := by decide +kernel
theorem d_Mo_init_146 : decode b_Mo_init 146 = .ok (.putfield 67, 3) := by decide +kernel
theorem d_Mo_init_149 : decode b_Mo_init 149 = .ok (.aload_n 0, 1) := by decide +kernel
theorem d_Mo_init_150 : decode b_Mo_init 150 = .ok (.iconst 4, 1) := by decide +kernel
theorem d_Mo_init_151 : decode b_Mo_init 151 = .ok (.newarray .int, 2) := by decide +kernel
theorem d_Mo_init_153 : decode b_Mo_init 153 = .ok (.putfield 70, 3) := by decide +kernel
theorem d_Mo_init_156 : decode b_Mo_init 156 = .ok (.aload_n 0, 1) := by decide +kernel
theorem d_Mo_init_157 : decode b_Mo_init 157 = .ok (.iconst 4, 1) := by decide +kernel
theorem d_Mo_init_158 : decode b_Mo_init 158 = .ok (.newarray .int, 2) := by decide +kernel
theorem d_Mo_init_160 : decode b_Mo_init 160 = .ok (.putfield 73, 3) := by decide +kernel
theorem d_Mo_init_163 : decode b_Mo_init 163 = .ok (.aload_n 0, 1) := by decide +kernel
theorem d_Mo_init_164 : decode b_Mo_init 164 = .ok (.iconst 4, 1) := by decide +kernel
theorem d_Mo_init_165 : decode b_Mo_init 165 = .ok (.anewarray 37, 3) := by decide +kernel
theorem d_Mo_init_168 : decode b_Mo_init 168 = .ok (.dup, 1) := by decide +kernel
theorem d_Mo_init_169 : decode b_Mo_init 169 = .ok (.iconst 0, 1) := by decide +kernel
theorem d_Mo_init_170 : decode b_Mo_init 170 = .ok (.new 37, 3) := by decide +kernel
theorem d_Mo_init_173 : decode b_Mo_init 173 = .ok (.dup, 1) := by decide +kernel
theorem d_Mo_init_174 : decode b_Mo_init 174 = .ok (.invokespecial 39, 3) := by decide +kernel
theorem d_Mo_init_177 : decode b_Mo_init 177 = .ok (.aastore, 1) := by decide +kernel
theorem d_Mo_init_178 : decode b_Mo_init 178 = .ok (.dup, 1) := by decide +kernel
theorem d_Mo_init_179 : decode b_Mo_init 179 = .ok (.iconst 1, 1) := by decide +kernel
theorem d_Mo_init_180 : decode b_Mo_init 180 = .ok (.new 37, 3) := by decide +kernel
theorem d_Mo_init_183 : decode b_Mo_init 183 = .ok (.dup, 1) := by decide +kernel
theorem d_Mo_init_184 : decode b_Mo_init 184 = .ok (.invokespecial 39, 3) := by decide +kernel
theorem d_Mo_init_187 : decode b_Mo_init 187 = .ok (.aastore, 1) := by decide +kernel
theorem d_Mo_init_188 : decode b_Mo_init 188 = .ok (.dup, 1) := by decide +kernel
theorem d_Mo_init_189 : decode b_Mo_init 189 = .ok (.iconst 2, 1) := by decide +kernel
theorem d_Mo_init_190 : decode b_Mo_init 190 = .ok (.new 37, 3) := by decide +kernel
theorem d_Mo_init_193 : decode b_Mo_init 193 = .ok (.dup, 1) := by decide +kernel
theorem d_Mo_init_194 : decode b_Mo_init 194 = .ok (.invokespecial 39, 3) := by decide +kernel
theorem d_Mo_init_197 : decode b_Mo_init 197 = .ok (.aastore, 1) := by decide +kernel
theorem d_Mo_init_198 : decode b_Mo_init 198 = .ok (.dup, 1) := by decide +kernel
theorem d_Mo_init_199 : decode b_Mo_init 199 = .ok (.iconst 3, 1) := by decide +kernel
theorem d_Mo_init_200 : decode b_Mo_init 200 = .ok (.new 37, 3) := by decide +kernel
theorem d_Mo_init_203 : decode b_Mo_init 203 = .ok (.dup, 1) := by decide +kernel
theorem d_Mo_init_204 : decode b_Mo_init 204 = .ok (.invokespecial 39, 3) := by decide +kernel
theorem d_Mo_init_207 : decode b_Mo_init 207 = .ok (.aastore, 1) := by decide +kernel
theorem d_Mo_init_208 : decode b_Mo_init 208 = .ok (.putfield 76, 3) := by decide +kernel
theorem d_Mo_init_211 : decode b_Mo_init 211 = .ok (.return_, 1) := by decide +kernel
theorem kc_Mo_init : Cond.code y_Mo_init b_Mo_init 1 none ∈ gx_all := gx_in 910 (by decide +kernel)
abbrev b_Mo_act : ByteArray := prog_9_method_5_code
def y_Mo_act : MethodName := ⟨"CommitLedgerModel", "act", "()Z"⟩
theorem d_Mo_act_0 : decode b_Mo_act 0 = .ok (.aload_n 0, 1) := by decide +kernel
theorem d_Mo_act_1 : decode b_Mo_act 1 = .ok (.getfield 33, 3) := by decide +kernel
theorem d_Mo_act_4 : decode b_Mo_act 4 = .ok (.ifCond .ne 15, 3) := by decide +kernel
theorem d_Mo_act_7 : decode b_Mo_act 7 = .ok (.aload_n 0, 1) := by decide +kernel
theorem d_Mo_act_8 : decode b_Mo_act 8 = .ok (.invokevirtual 87, 3) := by decide +kernel
theorem d_Mo_act_11 : decode b_Mo_act 11 = .ok (.aload_n 0, 1) := by decide +kernel
theorem d_Mo_act_12 : decode b_Mo_act 12 = .ok (.bipush 6, 2) := by decide +kernel
theorem d_Mo_act_14 : decode b_Mo_act 14 = .ok (.putfield 84, 3) := by decide +kernel
theorem d_Mo_act_17 : decode b_Mo_act 17 = .ok (.iconst 0, 1) := by decide +kernel
theorem d_Mo_act_18 : decode b_Mo_act 18 = .ok (.ireturn, 1) := by decide +kernel
theorem d_Mo_act_19 : decode b_Mo_act 19 = .ok (.aload_n 0, 1) := by decide +kernel
theorem d_Mo_act_20 : decode b_Mo_act 20 = .ok (.getfield 33, 3) := by decide +kernel
theorem d_Mo_act_23 : decode b_Mo_act 23 = .ok (.ifCond .le 13, 3) := by decide +kernel
theorem d_Mo_act_26 : decode b_Mo_act 26 = .ok (.aload_n 0, 1) := by decide +kernel
theorem d_Mo_act_27 : decode b_Mo_act 27 = .ok (.dup, 1) := by decide +kernel
theorem d_Mo_act_28 : decode b_Mo_act 28 = .ok (.getfield 33, 3) := by decide +kernel
theorem d_Mo_act_31 : decode b_Mo_act 31 = .ok (.iconst 1, 1) := by decide +kernel
theorem d_Mo_act_32 : decode b_Mo_act 32 = .ok (.isub, 1) := by decide +kernel
theorem d_Mo_act_33 : decode b_Mo_act 33 = .ok (.putfield 33, 3) := by decide +kernel
theorem d_Mo_act_36 : decode b_Mo_act 36 = .ok (.aload_n 0, 1) := by decide +kernel
theorem d_Mo_act_37 : decode b_Mo_act 37 = .ok (.dup, 1) := by decide +kernel
theorem d_Mo_act_38 : decode b_Mo_act 38 = .ok (.getfield 90, 3) := by decide +kernel
theorem d_Mo_act_41 : decode b_Mo_act 41 = .ok (.iconst 1, 1) := by decide +kernel
theorem d_Mo_act_42 : decode b_Mo_act 42 = .ok (.iadd, 1) := by decide +kernel
theorem d_Mo_act_43 : decode b_Mo_act 43 = .ok (.putfield 90, 3) := by decide +kernel
theorem d_Mo_act_46 : decode b_Mo_act 46 = .ok (.iconst 1, 1) := by decide +kernel
theorem d_Mo_act_47 : decode b_Mo_act 47 = .ok (.ireturn, 1) := by decide +kernel
theorem kc_Mo_act : Cond.code y_Mo_act b_Mo_act 1 (some .boolean) ∈ gx_all := gx_in 1152 (by decide +kernel)
abbrev b_Mo_add : ByteArray := prog_9_method_17_code
def y_Mo_add : MethodName := ⟨"CommitLedgerModel", "add", "(III)I"⟩
theorem d_Mo_add_0 : decode b_Mo_add 0 = .ok (.aload_n 0, 1) := by decide +kernel
theorem d_Mo_add_1 : decode b_Mo_add 1 = .ok (.iload_n 3, 1) := by decide +kernel
theorem d_Mo_add_2 : decode b_Mo_add 2 = .ok (.iconst 1, 1) := by decide +kernel
theorem d_Mo_add_3 : decode b_Mo_add 3 = .ok (.if_icmp .lt 9, 3) := by decide +kernel
theorem d_Mo_add_6 : decode b_Mo_add 6 = .ok (.iload_n 3, 1) := by decide +kernel
theorem d_Mo_add_7 : decode b_Mo_add 7 = .ok (.bipush 100, 2) := by decide +kernel
theorem d_Mo_add_9 : decode b_Mo_add 9 = .ok (.if_icmp .le 7, 3) := by decide +kernel
theorem d_Mo_add_12 : decode b_Mo_add 12 = .ok (.iconst 1, 1) := by decide +kernel
theorem d_Mo_add_13 : decode b_Mo_add 13 = .ok (.goto 4, 3) := by decide +kernel
theorem d_Mo_add_16 : decode b_Mo_add 16 = .ok (.iconst 0, 1) := by decide +kernel
theorem d_Mo_add_17 : decode b_Mo_add 17 = .ok (.iconst 1, 1) := by decide +kernel
theorem d_Mo_add_18 : decode b_Mo_add 18 = .ok (.invokevirtual 152, 3) := by decide +kernel
theorem d_Mo_add_21 : decode b_Mo_add 21 = .ok (.ifCond .ne 48, 3) := by decide +kernel
theorem d_Mo_add_24 : decode b_Mo_add 24 = .ok (.aload_n 0, 1) := by decide +kernel
theorem d_Mo_add_25 : decode b_Mo_add 25 = .ok (.aload_n 0, 1) := by decide +kernel
theorem d_Mo_add_26 : decode b_Mo_add 26 = .ok (.getfield 99, 3) := by decide +kernel
theorem d_Mo_add_29 : decode b_Mo_add 29 = .ok (.ifCond .ne 7, 3) := by decide +kernel
theorem d_Mo_add_32 : decode b_Mo_add 32 = .ok (.iconst 1, 1) := by decide +kernel
theorem d_Mo_add_33 : decode b_Mo_add 33 = .ok (.goto 4, 3) := by decide +kernel
theorem d_Mo_add_36 : decode b_Mo_add 36 = .ok (.iconst 0, 1) := by decide +kernel
theorem d_Mo_add_37 : decode b_Mo_add 37 = .ok (.iconst 2, 1) := by decide +kernel
theorem d_Mo_add_38 : decode b_Mo_add 38 = .ok (.invokevirtual 152, 3) := by decide +kernel
theorem d_Mo_add_41 : decode b_Mo_add 41 = .ok (.ifCond .ne 28, 3) := by decide +kernel
theorem d_Mo_add_44 : decode b_Mo_add 44 = .ok (.aload_n 0, 1) := by decide +kernel
theorem d_Mo_add_45 : decode b_Mo_add 45 = .ok (.aload_n 0, 1) := by decide +kernel
theorem d_Mo_add_46 : decode b_Mo_add 46 = .ok (.getfield 194, 3) := by decide +kernel
theorem d_Mo_add_49 : decode b_Mo_add 49 = .ok (.iload_n 3, 1) := by decide +kernel
theorem d_Mo_add_50 : decode b_Mo_add 50 = .ok (.iadd, 1) := by decide +kernel
theorem d_Mo_add_51 : decode b_Mo_add 51 = .ok (.sipush 4096, 3) := by decide +kernel
theorem d_Mo_add_54 : decode b_Mo_add 54 = .ok (.if_icmp .le 7, 3) := by decide +kernel
theorem d_Mo_add_57 : decode b_Mo_add 57 = .ok (.iconst 1, 1) := by decide +kernel
theorem d_Mo_add_58 : decode b_Mo_add 58 = .ok (.goto 4, 3) := by decide +kernel
theorem d_Mo_add_61 : decode b_Mo_add 61 = .ok (.iconst 0, 1) := by decide +kernel
theorem d_Mo_add_62 : decode b_Mo_add 62 = .ok (.iconst 5, 1) := by decide +kernel
theorem d_Mo_add_63 : decode b_Mo_add 63 = .ok (.invokevirtual 152, 3) := by decide +kernel
theorem d_Mo_add_66 : decode b_Mo_add 66 = .ok (.ifCond .eq 12, 3) := by decide +kernel
theorem d_Mo_add_69 : decode b_Mo_add 69 = .ok (.aload_n 0, 1) := by decide +kernel
theorem d_Mo_add_70 : decode b_Mo_add 70 = .ok (.iconst 0, 1) := by decide +kernel
theorem d_Mo_add_71 : decode b_Mo_add 71 = .ok (.sipush 1256, 3) := by decide +kernel
theorem d_Mo_add_74 : decode b_Mo_add 74 = .ok (.invokevirtual 148, 3) := by decide +kernel
theorem d_Mo_add_77 : decode b_Mo_add 77 = .ok (.ireturn, 1) := by decide +kernel
theorem d_Mo_add_78 : decode b_Mo_add 78 = .ok (.iconst 0, 1) := by decide +kernel
theorem d_Mo_add_79 : decode b_Mo_add 79 = .ok (.istore 4, 2) := by decide +kernel
theorem d_Mo_add_81 : decode b_Mo_add 81 = .ok (.iload 4, 2) := by decide +kernel
theorem d_Mo_add_83 : decode b_Mo_add 83 = .ok (.iload_n 3, 1) := by decide +kernel
theorem d_Mo_add_84 : decode b_Mo_add 84 = .ok (.if_icmp .ge 131, 3) := by decide +kernel
theorem d_Mo_add_87 : decode b_Mo_add 87 = .ok (.aload_n 0, 1) := by decide +kernel
theorem d_Mo_add_88 : decode b_Mo_add 88 = .ok (.getfield 40, 3) := by decide +kernel
theorem d_Mo_add_91 : decode b_Mo_add 91 = .ok (.dup, 1) := by decide +kernel
theorem d_Mo_add_92 : decode b_Mo_add 92 = .ok (.getfield 159, 3) := by decide +kernel
theorem d_Mo_add_95 : decode b_Mo_add 95 = .ok (.iconst 1, 1) := by decide +kernel
theorem d_Mo_add_96 : decode b_Mo_add 96 = .ok (.iadd, 1) := by decide +kernel
theorem d_Mo_add_97 : decode b_Mo_add 97 = .ok (.putfield 159, 3) := by decide +kernel
theorem d_Mo_add_100 : decode b_Mo_add 100 = .ok (.aload_n 0, 1) := by decide +kernel
theorem d_Mo_add_101 : decode b_Mo_add 101 = .ok (.getfield 9, 3) := by decide +kernel
theorem d_Mo_add_104 : decode b_Mo_add 104 = .ok (.aload_n 0, 1) := by decide +kernel
theorem d_Mo_add_105 : decode b_Mo_add 105 = .ok (.getfield 194, 3) := by decide +kernel
theorem d_Mo_add_108 : decode b_Mo_add 108 = .ok (.iload_n 1, 1) := by decide +kernel
theorem d_Mo_add_109 : decode b_Mo_add 109 = .ok (.iload 4, 2) := by decide +kernel
theorem d_Mo_add_111 : decode b_Mo_add 111 = .ok (.iadd, 1) := by decide +kernel
theorem d_Mo_add_112 : decode b_Mo_add 112 = .ok (.iastore, 1) := by decide +kernel
theorem d_Mo_add_113 : decode b_Mo_add 113 = .ok (.aload_n 0, 1) := by decide +kernel
theorem d_Mo_add_114 : decode b_Mo_add 114 = .ok (.getfield 13, 3) := by decide +kernel
theorem d_Mo_add_117 : decode b_Mo_add 117 = .ok (.aload_n 0, 1) := by decide +kernel
theorem d_Mo_add_118 : decode b_Mo_add 118 = .ok (.getfield 194, 3) := by decide +kernel
theorem d_Mo_add_121 : decode b_Mo_add 121 = .ok (.iload_n 2, 1) := by decide +kernel
theorem d_Mo_add_122 : decode b_Mo_add 122 = .ok (.iastore, 1) := by decide +kernel
theorem d_Mo_add_123 : decode b_Mo_add 123 = .ok (.aload_n 0, 1) := by decide +kernel
theorem d_Mo_add_124 : decode b_Mo_add 124 = .ok (.getfield 16, 3) := by decide +kernel
theorem d_Mo_add_127 : decode b_Mo_add 127 = .ok (.aload_n 0, 1) := by decide +kernel
theorem d_Mo_add_128 : decode b_Mo_add 128 = .ok (.getfield 194, 3) := by decide +kernel
theorem d_Mo_add_131 : decode b_Mo_add 131 = .ok (.aload_n 0, 1) := by decide +kernel
theorem d_Mo_add_132 : decode b_Mo_add 132 = .ok (.getfield 40, 3) := by decide +kernel
theorem d_Mo_add_135 : decode b_Mo_add 135 = .ok (.getfield 159, 3) := by decide +kernel
theorem d_Mo_add_138 : decode b_Mo_add 138 = .ok (.iastore, 1) := by decide +kernel
theorem d_Mo_add_139 : decode b_Mo_add 139 = .ok (.aload_n 0, 1) := by decide +kernel
theorem d_Mo_add_140 : decode b_Mo_add 140 = .ok (.getfield 50, 3) := by decide +kernel
theorem d_Mo_add_143 : decode b_Mo_add 143 = .ok (.aload_n 0, 1) := by decide +kernel
theorem d_Mo_add_144 : decode b_Mo_add 144 = .ok (.getfield 172, 3) := by decide +kernel
theorem d_Mo_add_147 : decode b_Mo_add 147 = .ok (.aload_n 0, 1) := by decide +kernel
theorem d_Mo_add_148 : decode b_Mo_add 148 = .ok (.getfield 194, 3) := by decide +kernel
theorem d_Mo_add_151 : decode b_Mo_add 151 = .ok (.iastore, 1) := by decide +kernel
theorem d_Mo_add_152 : decode b_Mo_add 152 = .ok (.aload_n 0, 1) := by decide +kernel
theorem d_Mo_add_153 : decode b_Mo_add 153 = .ok (.getfield 53, 3) := by decide +kernel
theorem d_Mo_add_156 : decode b_Mo_add 156 = .ok (.aload_n 0, 1) := by decide +kernel
theorem d_Mo_add_157 : decode b_Mo_add 157 = .ok (.getfield 172, 3) := by decide +kernel
theorem d_Mo_add_160 : decode b_Mo_add 160 = .ok (.iconst 1, 1) := by decide +kernel
theorem d_Mo_add_161 : decode b_Mo_add 161 = .ok (.bastore, 1) := by decide +kernel
theorem d_Mo_add_162 : decode b_Mo_add 162 = .ok (.aload_n 0, 1) := by decide +kernel
theorem d_Mo_add_163 : decode b_Mo_add 163 = .ok (.dup, 1) := by decide +kernel
theorem d_Mo_add_164 : decode b_Mo_add 164 = .ok (.getfield 172, 3) := by decide +kernel
theorem d_Mo_add_167 : decode b_Mo_add 167 = .ok (.iconst 1, 1) := by decide +kernel
theorem d_Mo_add_168 : decode b_Mo_add 168 = .ok (.iadd, 1) := by decide +kernel
theorem d_Mo_add_169 : decode b_Mo_add 169 = .ok (.putfield 172, 3) := by decide +kernel
theorem d_Mo_add_172 : decode b_Mo_add 172 = .ok (.aload_n 0, 1) := by decide +kernel
theorem d_Mo_add_173 : decode b_Mo_add 173 = .ok (.dup, 1) := by decide +kernel
theorem d_Mo_add_174 : decode b_Mo_add 174 = .ok (.getfield 194, 3) := by decide +kernel
theorem d_Mo_add_177 : decode b_Mo_add 177 = .ok (.iconst 1, 1) := by decide +kernel
theorem d_Mo_add_178 : decode b_Mo_add 178 = .ok (.iadd, 1) := by decide +kernel
theorem d_Mo_add_179 : decode b_Mo_add 179 = .ok (.putfield 194, 3) := by decide +kernel
theorem d_Mo_add_182 : decode b_Mo_add 182 = .ok (.aload_n 0, 1) := by decide +kernel
theorem d_Mo_add_183 : decode b_Mo_add 183 = .ok (.getfield 172, 3) := by decide +kernel
theorem d_Mo_add_186 : decode b_Mo_add 186 = .ok (.aload_n 0, 1) := by decide +kernel
theorem d_Mo_add_187 : decode b_Mo_add 187 = .ok (.getfield 56, 3) := by decide +kernel
theorem d_Mo_add_190 : decode b_Mo_add 190 = .ok (.if_icmp .lt 19, 3) := by decide +kernel
theorem d_Mo_add_193 : decode b_Mo_add 193 = .ok (.aload_n 0, 1) := by decide +kernel
theorem d_Mo_add_194 : decode b_Mo_add 194 = .ok (.invokevirtual 197, 3) := by decide +kernel
theorem d_Mo_add_197 : decode b_Mo_add 197 = .ok (.ifCond .ne 12, 3) := by decide +kernel
theorem d_Mo_add_200 : decode b_Mo_add 200 = .ok (.aload_n 0, 1) := by decide +kernel
theorem d_Mo_add_201 : decode b_Mo_add 201 = .ok (.iconst 0, 1) := by decide +kernel
theorem d_Mo_add_202 : decode b_Mo_add 202 = .ok (.sipush 1256, 3) := by decide +kernel
theorem d_Mo_add_205 : decode b_Mo_add 205 = .ok (.invokevirtual 175, 3) := by decide +kernel
theorem d_Mo_add_208 : decode b_Mo_add 208 = .ok (.ireturn, 1) := by decide +kernel
theorem d_Mo_add_209 : decode b_Mo_add 209 = .ok (.iinc 4 1, 3) := by decide +kernel
theorem d_Mo_add_212 : decode b_Mo_add 212 = .ok (.goto (-131), 3) := by decide +kernel
theorem d_Mo_add_215 : decode b_Mo_add 215 = .ok (.aload_n 0, 1) := by decide +kernel
theorem d_Mo_add_216 : decode b_Mo_add 216 = .ok (.aload_n 0, 1) := by decide +kernel
theorem d_Mo_add_217 : decode b_Mo_add 217 = .ok (.getfield 40, 3) := by decide +kernel
theorem d_Mo_add_220 : decode b_Mo_add 220 = .ok (.getfield 159, 3) := by decide +kernel
theorem d_Mo_add_223 : decode b_Mo_add 223 = .ok (.sipush 1256, 3) := by decide +kernel
theorem d_Mo_add_226 : decode b_Mo_add 226 = .ok (.invokevirtual 175, 3) := by decide +kernel
theorem d_Mo_add_229 : decode b_Mo_add 229 = .ok (.ireturn, 1) := by decide +kernel
theorem kc_Mo_add : Cond.code y_Mo_add b_Mo_add 5 (some .int) ∈ gx_all := gx_in 1140 (by decide +kernel)
abbrev b_Mo_anyReader : ByteArray := prog_9_method_39_code
def y_Mo_anyReader : MethodName := ⟨"CommitLedgerModel", "anyReader", "()Z"⟩
theorem d_Mo_anyReader_0 : decode b_Mo_anyReader 0 = .ok (.aload_n 0, 1) := by decide +kernel
theorem d_Mo_anyReader_1 : decode b_Mo_anyReader 1 = .ok (.getfield 76, 3) := by decide +kernel
theorem d_Mo_anyReader_4 : decode b_Mo_anyReader 4 = .ok (.astore_n 1, 1) := by decide +kernel
theorem d_Mo_anyReader_5 : decode b_Mo_anyReader 5 = .ok (.aload_n 1, 1) := by decide +kernel
theorem d_Mo_anyReader_6 : decode b_Mo_anyReader 6 = .ok (.arraylength, 1) := by decide +kernel
theorem d_Mo_anyReader_7 : decode b_Mo_anyReader 7 = .ok (.istore_n 2, 1) := by decide +kernel
theorem d_Mo_anyReader_8 : decode b_Mo_anyReader 8 = .ok (.iconst 0, 1) := by decide +kernel
theorem d_Mo_anyReader_9 : decode b_Mo_anyReader 9 = .ok (.istore_n 3, 1) := by decide +kernel
theorem d_Mo_anyReader_10 : decode b_Mo_anyReader 10 = .ok (.iload_n 3, 1) := by decide +kernel
theorem d_Mo_anyReader_11 : decode b_Mo_anyReader 11 = .ok (.iload_n 2, 1) := by decide +kernel
theorem d_Mo_anyReader_12 : decode b_Mo_anyReader 12 = .ok (.if_icmp .ge 24, 3) := by decide +kernel
theorem d_Mo_anyReader_15 : decode b_Mo_anyReader 15 = .ok (.aload_n 1, 1) := by decide +kernel
theorem d_Mo_anyReader_16 : decode b_Mo_anyReader 16 = .ok (.iload_n 3, 1) := by decide +kernel
theorem d_Mo_anyReader_17 : decode b_Mo_anyReader 17 = .ok (.aaload, 1) := by decide +kernel
theorem d_Mo_anyReader_18 : decode b_Mo_anyReader 18 = .ok (.astore 4, 2) := by decide +kernel
theorem d_Mo_anyReader_20 : decode b_Mo_anyReader 20 = .ok (.aload 4, 2) := by decide +kernel
theorem d_Mo_anyReader_22 : decode b_Mo_anyReader 22 = .ok (.getfield 103, 3) := by decide +kernel
theorem d_Mo_anyReader_25 : decode b_Mo_anyReader 25 = .ok (.ifCond .le 5, 3) := by decide +kernel
theorem d_Mo_anyReader_28 : decode b_Mo_anyReader 28 = .ok (.iconst 1, 1) := by decide +kernel
theorem d_Mo_anyReader_29 : decode b_Mo_anyReader 29 = .ok (.ireturn, 1) := by decide +kernel
theorem d_Mo_anyReader_30 : decode b_Mo_anyReader 30 = .ok (.iinc 3 1, 3) := by decide +kernel
theorem d_Mo_anyReader_33 : decode b_Mo_anyReader 33 = .ok (.goto (-23), 3) := by decide +kernel
theorem d_Mo_anyReader_36 : decode b_Mo_anyReader 36 = .ok (.iconst 0, 1) := by decide +kernel
theorem d_Mo_anyReader_37 : decode b_Mo_anyReader 37 = .ok (.ireturn, 1) := by decide +kernel
theorem kc_Mo_anyReader : Cond.code y_Mo_anyReader b_Mo_anyReader 5 (some .boolean) ∈ gx_all := gx_in 1251 (by decide +kernel)
abbrev b_Mo_bufferLive : ByteArray := prog_9_method_49_code
def y_Mo_bufferLive : MethodName := ⟨"CommitLedgerModel", "bufferLive", "()I"⟩
theorem d_Mo_bufferLive_0 : decode b_Mo_bufferLive 0 = .ok (.iconst 0, 1) := by decide +kernel
theorem d_Mo_bufferLive_1 : decode b_Mo_bufferLive 1 = .ok (.istore_n 1, 1) := by decide +kernel
theorem d_Mo_bufferLive_2 : decode b_Mo_bufferLive 2 = .ok (.iconst 0, 1) := by decide +kernel
theorem d_Mo_bufferLive_3 : decode b_Mo_bufferLive 3 = .ok (.istore_n 2, 1) := by decide +kernel
theorem d_Mo_bufferLive_4 : decode b_Mo_bufferLive 4 = .ok (.iload_n 2, 1) := by decide +kernel
theorem d_Mo_bufferLive_5 : decode b_Mo_bufferLive 5 = .ok (.aload_n 0, 1) := by decide +kernel
theorem d_Mo_bufferLive_6 : decode b_Mo_bufferLive 6 = .ok (.getfield 172, 3) := by decide +kernel
theorem d_Mo_bufferLive_9 : decode b_Mo_bufferLive 9 = .ok (.if_icmp .ge 21, 3) := by decide +kernel
theorem d_Mo_bufferLive_12 : decode b_Mo_bufferLive 12 = .ok (.aload_n 0, 1) := by decide +kernel
theorem d_Mo_bufferLive_13 : decode b_Mo_bufferLive 13 = .ok (.getfield 53, 3) := by decide +kernel
theorem d_Mo_bufferLive_16 : decode b_Mo_bufferLive 16 = .ok (.iload_n 2, 1) := by decide +kernel
theorem d_Mo_bufferLive_17 : decode b_Mo_bufferLive 17 = .ok (.baload, 1) := by decide +kernel
theorem d_Mo_bufferLive_18 : decode b_Mo_bufferLive 18 = .ok (.ifCond .eq 6, 3) := by decide +kernel
theorem d_Mo_bufferLive_21 : decode b_Mo_bufferLive 21 = .ok (.iinc 1 1, 3) := by decide +kernel
theorem d_Mo_bufferLive_24 : decode b_Mo_bufferLive 24 = .ok (.iinc 2 1, 3) := by decide +kernel
theorem d_Mo_bufferLive_27 : decode b_Mo_bufferLive 27 = .ok (.goto (-23), 3) := by decide +kernel
theorem d_Mo_bufferLive_30 : decode b_Mo_bufferLive 30 = .ok (.iload_n 1, 1) := by decide +kernel
theorem d_Mo_bufferLive_31 : decode b_Mo_bufferLive 31 = .ok (.ireturn, 1) := by decide +kernel
theorem kc_Mo_bufferLive : Cond.code y_Mo_bufferLive b_Mo_bufferLive 3 (some .int) ∈ gx_all := gx_in 1304 (by decide +kernel)
abbrev b_Mo_chosen : ByteArray := prog_9_method_22_code
def y_Mo_chosen : MethodName := ⟨"CommitLedgerModel", "chosen", "(I)I"⟩
theorem d_Mo_chosen_0 : decode b_Mo_chosen 0 = .ok (.iload_n 1, 1) := by decide +kernel
theorem d_Mo_chosen_1 : decode b_Mo_chosen 1 = .ok (.iconst 1, 1) := by decide +kernel
theorem d_Mo_chosen_2 : decode b_Mo_chosen 2 = .ok (.if_icmp .ne 93, 3) := by decide +kernel
theorem d_Mo_chosen_5 : decode b_Mo_chosen 5 = .ok (.aload_n 0, 1) := by decide +kernel
theorem d_Mo_chosen_6 : decode b_Mo_chosen 6 = .ok (.aload_n 0, 1) := by decide +kernel
theorem d_Mo_chosen_7 : decode b_Mo_chosen 7 = .ok (.getfield 40, 3) := by decide +kernel
theorem d_Mo_chosen_10 : decode b_Mo_chosen 10 = .ok (.getfield 122, 3) := by decide +kernel
theorem d_Mo_chosen_13 : decode b_Mo_chosen 13 = .ok (.putfield 208, 3) := by decide +kernel
theorem d_Mo_chosen_16 : decode b_Mo_chosen 16 = .ok (.iconst 0, 1) := by decide +kernel
theorem d_Mo_chosen_17 : decode b_Mo_chosen 17 = .ok (.istore_n 2, 1) := by decide +kernel
theorem d_Mo_chosen_18 : decode b_Mo_chosen 18 = .ok (.iload_n 2, 1) := by decide +kernel
theorem d_Mo_chosen_19 : decode b_Mo_chosen 19 = .ok (.aload_n 0, 1) := by decide +kernel
theorem d_Mo_chosen_20 : decode b_Mo_chosen 20 = .ok (.getfield 40, 3) := by decide +kernel
theorem d_Mo_chosen_23 : decode b_Mo_chosen 23 = .ok (.getfield 122, 3) := by decide +kernel
theorem d_Mo_chosen_26 : decode b_Mo_chosen 26 = .ok (.if_icmp .ge 23, 3) := by decide +kernel
theorem d_Mo_chosen_29 : decode b_Mo_chosen 29 = .ok (.aload_n 0, 1) := by decide +kernel
theorem d_Mo_chosen_30 : decode b_Mo_chosen 30 = .ok (.getfield 40, 3) := by decide +kernel
theorem d_Mo_chosen_33 : decode b_Mo_chosen 33 = .ok (.getfield 166, 3) := by decide +kernel
theorem d_Mo_chosen_36 : decode b_Mo_chosen 36 = .ok (.iload_n 2, 1) := by decide +kernel
theorem d_Mo_chosen_37 : decode b_Mo_chosen 37 = .ok (.iaload, 1) := by decide +kernel
theorem d_Mo_chosen_38 : decode b_Mo_chosen 38 = .ok (.ifCond .eq 5, 3) := by decide +kernel
theorem d_Mo_chosen_41 : decode b_Mo_chosen 41 = .ok (.iconst (-1), 1) := by decide +kernel
theorem d_Mo_chosen_42 : decode b_Mo_chosen 42 = .ok (.ireturn, 1) := by decide +kernel
theorem d_Mo_chosen_43 : decode b_Mo_chosen 43 = .ok (.iinc 2 1, 3) := by decide +kernel
theorem d_Mo_chosen_46 : decode b_Mo_chosen 46 = .ok (.goto (-28), 3) := by decide +kernel
theorem d_Mo_chosen_49 : decode b_Mo_chosen 49 = .ok (.aload_n 0, 1) := by decide +kernel
theorem d_Mo_chosen_50 : decode b_Mo_chosen 50 = .ok (.getfield 40, 3) := by decide +kernel
theorem d_Mo_chosen_53 : decode b_Mo_chosen 53 = .ok (.getfield 122, 3) := by decide +kernel
theorem d_Mo_chosen_56 : decode b_Mo_chosen 56 = .ok (.iconst 1, 1) := by decide +kernel
theorem d_Mo_chosen_57 : decode b_Mo_chosen 57 = .ok (.if_icmp .gt 32, 3) := by decide +kernel
theorem d_Mo_chosen_60 : decode b_Mo_chosen 60 = .ok (.aload_n 0, 1) := by decide +kernel
theorem d_Mo_chosen_61 : decode b_Mo_chosen 61 = .ok (.getfield 40, 3) := by decide +kernel
theorem d_Mo_chosen_64 : decode b_Mo_chosen 64 = .ok (.getfield 122, 3) := by decide +kernel
theorem d_Mo_chosen_67 : decode b_Mo_chosen 67 = .ok (.iconst 1, 1) := by decide +kernel
theorem d_Mo_chosen_68 : decode b_Mo_chosen 68 = .ok (.if_icmp .ne 25, 3) := by decide +kernel
theorem d_Mo_chosen_71 : decode b_Mo_chosen 71 = .ok (.aload_n 0, 1) := by decide +kernel
theorem d_Mo_chosen_72 : decode b_Mo_chosen 72 = .ok (.getfield 40, 3) := by decide +kernel
theorem d_Mo_chosen_75 : decode b_Mo_chosen 75 = .ok (.iconst 0, 1) := by decide +kernel
theorem d_Mo_chosen_76 : decode b_Mo_chosen 76 = .ok (.invokevirtual 202, 3) := by decide +kernel
theorem d_Mo_chosen_79 : decode b_Mo_chosen 79 = .ok (.aload_n 0, 1) := by decide +kernel
theorem d_Mo_chosen_80 : decode b_Mo_chosen 80 = .ok (.getfield 40, 3) := by decide +kernel
theorem d_Mo_chosen_83 : decode b_Mo_chosen 83 = .ok (.invokevirtual 200, 3) := by decide +kernel
theorem d_Mo_chosen_86 : decode b_Mo_chosen 86 = .ok (.if_icmp .ge 7, 3) := by decide +kernel
theorem d_Mo_chosen_89 : decode b_Mo_chosen 89 = .ok (.iconst 0, 1) := by decide +kernel
theorem d_Mo_chosen_90 : decode b_Mo_chosen 90 = .ok (.goto 4, 3) := by decide +kernel
theorem d_Mo_chosen_93 : decode b_Mo_chosen 93 = .ok (.iconst (-1), 1) := by decide +kernel
theorem d_Mo_chosen_94 : decode b_Mo_chosen 94 = .ok (.ireturn, 1) := by decide +kernel
theorem d_Mo_chosen_95 : decode b_Mo_chosen 95 = .ok (.aload_n 0, 1) := by decide +kernel
theorem d_Mo_chosen_96 : decode b_Mo_chosen 96 = .ok (.aload_n 0, 1) := by decide +kernel
theorem d_Mo_chosen_97 : decode b_Mo_chosen 97 = .ok (.getfield 59, 3) := by decide +kernel
theorem d_Mo_chosen_100 : decode b_Mo_chosen 100 = .ok (.putfield 208, 3) := by decide +kernel
theorem d_Mo_chosen_103 : decode b_Mo_chosen 103 = .ok (.iconst 0, 1) := by decide +kernel
theorem d_Mo_chosen_104 : decode b_Mo_chosen 104 = .ok (.istore_n 2, 1) := by decide +kernel
theorem d_Mo_chosen_105 : decode b_Mo_chosen 105 = .ok (.iload_n 2, 1) := by decide +kernel
theorem d_Mo_chosen_106 : decode b_Mo_chosen 106 = .ok (.bipush 13, 2) := by decide +kernel
theorem d_Mo_chosen_108 : decode b_Mo_chosen 108 = .ok (.if_icmp .ge 43, 3) := by decide +kernel
theorem d_Mo_chosen_111 : decode b_Mo_chosen 111 = .ok (.iconst 0, 1) := by decide +kernel
theorem d_Mo_chosen_112 : decode b_Mo_chosen 112 = .ok (.istore_n 3, 1) := by decide +kernel
theorem d_Mo_chosen_113 : decode b_Mo_chosen 113 = .ok (.iload_n 3, 1) := by decide +kernel
theorem d_Mo_chosen_114 : decode b_Mo_chosen 114 = .ok (.aload_n 0, 1) := by decide +kernel
theorem d_Mo_chosen_115 : decode b_Mo_chosen 115 = .ok (.getfield 40, 3) := by decide +kernel
theorem d_Mo_chosen_118 : decode b_Mo_chosen 118 = .ok (.getfield 122, 3) := by decide +kernel
theorem d_Mo_chosen_121 : decode b_Mo_chosen 121 = .ok (.if_icmp .ge 24, 3) := by decide +kernel
theorem d_Mo_chosen_124 : decode b_Mo_chosen 124 = .ok (.aload_n 0, 1) := by decide +kernel
theorem d_Mo_chosen_125 : decode b_Mo_chosen 125 = .ok (.iload_n 3, 1) := by decide +kernel
theorem d_Mo_chosen_126 : decode b_Mo_chosen 126 = .ok (.aload_n 0, 1) := by decide +kernel
theorem d_Mo_chosen_127 : decode b_Mo_chosen 127 = .ok (.getfield 59, 3) := by decide +kernel
theorem d_Mo_chosen_130 : decode b_Mo_chosen 130 = .ok (.iload_n 2, 1) := by decide +kernel
theorem d_Mo_chosen_131 : decode b_Mo_chosen 131 = .ok (.invokevirtual 211, 3) := by decide +kernel
theorem d_Mo_chosen_134 : decode b_Mo_chosen 134 = .ok (.ifCond .eq 5, 3) := by decide +kernel
theorem d_Mo_chosen_137 : decode b_Mo_chosen 137 = .ok (.iload_n 3, 1) := by decide +kernel
theorem d_Mo_chosen_138 : decode b_Mo_chosen 138 = .ok (.ireturn, 1) := by decide +kernel
theorem d_Mo_chosen_139 : decode b_Mo_chosen 139 = .ok (.iinc 3 1, 3) := by decide +kernel
theorem d_Mo_chosen_142 : decode b_Mo_chosen 142 = .ok (.goto (-29), 3) := by decide +kernel
theorem d_Mo_chosen_145 : decode b_Mo_chosen 145 = .ok (.iinc 2 1, 3) := by decide +kernel
theorem d_Mo_chosen_148 : decode b_Mo_chosen 148 = .ok (.goto (-43), 3) := by decide +kernel
theorem d_Mo_chosen_151 : decode b_Mo_chosen 151 = .ok (.iconst (-1), 1) := by decide +kernel
theorem d_Mo_chosen_152 : decode b_Mo_chosen 152 = .ok (.ireturn, 1) := by decide +kernel
theorem kc_Mo_chosen : Cond.code y_Mo_chosen b_Mo_chosen 4 (some .int) ∈ gx_all := gx_in 1173 (by decide +kernel)
