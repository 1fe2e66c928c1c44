/-! NAMES: methods and their decode rows, printed by an own text program out of the Statement. -/
abbrev b_Mo_power : ByteArray := prog_9_method_37_code
def y_Mo_power : MethodName := ⟨"CommitLedgerModel", "power", "(I)V"⟩
theorem d_Mo_power_0 : decode b_Mo_power 0 = .ok (.aload_n 0, 1) := by decide +kernel
theorem d_Mo_power_1 : decode b_Mo_power 1 = .ok (.iload_n 1, 1) := by decide +kernel
theorem d_Mo_power_2 : decode b_Mo_power 2 = .ok (.iconst (-1), 1) := by decide +kernel
theorem d_Mo_power_3 : decode b_Mo_power 3 = .ok (.if_icmp .lt 9, 3) := by decide +kernel
theorem d_Mo_power_6 : decode b_Mo_power 6 = .ok (.iload_n 1, 1) := by decide +kernel
theorem d_Mo_power_7 : decode b_Mo_power 7 = .ok (.ldc 249, 2) := by decide +kernel
theorem d_Mo_power_9 : decode b_Mo_power 9 = .ok (.if_icmp .le 7, 3) := by decide +kernel
theorem d_Mo_power_12 : decode b_Mo_power 12 = .ok (.iconst 1, 1) := by decide +kernel
theorem d_Mo_power_13 : decode b_Mo_power 13 = .ok (.goto 4, 3) := by decide +kernel
theorem d_Mo_power_16 : decode b_Mo_power 16 = .ok (.iconst 0, 1) := by decide +kernel
theorem d_Mo_power_17 : decode b_Mo_power 17 = .ok (.iconst 1, 1) := by decide +kernel
theorem d_Mo_power_18 : decode b_Mo_power 18 = .ok (.invokevirtual 152, 3) := by decide +kernel
theorem d_Mo_power_21 : decode b_Mo_power 21 = .ok (.ifCond .ne 8, 3) := by decide +kernel
theorem d_Mo_power_24 : decode b_Mo_power 24 = .ok (.aload_n 0, 1) := by decide +kernel
theorem d_Mo_power_25 : decode b_Mo_power 25 = .ok (.iload_n 1, 1) := by decide +kernel
theorem d_Mo_power_26 : decode b_Mo_power 26 = .ok (.putfield 33, 3) := by decide +kernel
theorem d_Mo_power_29 : decode b_Mo_power 29 = .ok (.aload_n 0, 1) := by decide +kernel
theorem d_Mo_power_30 : decode b_Mo_power 30 = .ok (.iconst 0, 1) := by decide +kernel
theorem d_Mo_power_31 : decode b_Mo_power 31 = .ok (.iconst 1, 1) := by decide +kernel
theorem d_Mo_power_32 : decode b_Mo_power 32 = .ok (.invokevirtual 148, 3) := by decide +kernel
theorem d_Mo_power_35 : decode b_Mo_power 35 = .ok (.istore_n 2, 1) := by decide +kernel
theorem d_Mo_power_36 : decode b_Mo_power 36 = .ok (.return_, 1) := by decide +kernel
theorem kc_Mo_power : Cond.code y_Mo_power b_Mo_power 3 none ∈ gx_all := gx_in 1238 (by decide +kernel)
abbrev b_Mo_prepare : ByteArray := prog_9_method_31_code
def y_Mo_prepare : MethodName := ⟨"CommitLedgerModel", "prepare", "()I"⟩
theorem d_Mo_prepare_0 : decode b_Mo_prepare 0 = .ok (.aload_n 0, 1) := by decide +kernel
theorem d_Mo_prepare_1 : decode b_Mo_prepare 1 = .ok (.aload_n 0, 1) := by decide +kernel
theorem d_Mo_prepare_2 : decode b_Mo_prepare 2 = .ok (.getfield 99, 3) := by decide +kernel
theorem d_Mo_prepare_5 : decode b_Mo_prepare 5 = .ok (.ifCond .eq 10, 3) := by decide +kernel
theorem d_Mo_prepare_8 : decode b_Mo_prepare 8 = .ok (.aload_n 0, 1) := by decide +kernel
theorem d_Mo_prepare_9 : decode b_Mo_prepare 9 = .ok (.getfield 109, 3) := by decide +kernel
theorem d_Mo_prepare_12 : decode b_Mo_prepare 12 = .ok (.ifCond .eq 7, 3) := by decide +kernel
theorem d_Mo_prepare_15 : decode b_Mo_prepare 15 = .ok (.iconst 1, 1) := by decide +kernel
theorem d_Mo_prepare_16 : decode b_Mo_prepare 16 = .ok (.goto 4, 3) := by decide +kernel
theorem d_Mo_prepare_19 : decode b_Mo_prepare 19 = .ok (.iconst 0, 1) := by decide +kernel
theorem d_Mo_prepare_20 : decode b_Mo_prepare 20 = .ok (.iconst 2, 1) := by decide +kernel
theorem d_Mo_prepare_21 : decode b_Mo_prepare 21 = .ok (.invokevirtual 152, 3) := by decide +kernel
theorem d_Mo_prepare_24 : decode b_Mo_prepare 24 = .ok (.ifCond .eq 11, 3) := by decide +kernel
theorem d_Mo_prepare_27 : decode b_Mo_prepare 27 = .ok (.aload_n 0, 1) := by decide +kernel
theorem d_Mo_prepare_28 : decode b_Mo_prepare 28 = .ok (.iconst 0, 1) := by decide +kernel
theorem d_Mo_prepare_29 : decode b_Mo_prepare 29 = .ok (.bipush 26, 2) := by decide +kernel
theorem d_Mo_prepare_31 : decode b_Mo_prepare 31 = .ok (.invokevirtual 148, 3) := by decide +kernel
theorem d_Mo_prepare_34 : decode b_Mo_prepare 34 = .ok (.ireturn, 1) := by decide +kernel
theorem d_Mo_prepare_35 : decode b_Mo_prepare 35 = .ok (.aload_n 0, 1) := by decide +kernel
theorem d_Mo_prepare_36 : decode b_Mo_prepare 36 = .ok (.aload_n 0, 1) := by decide +kernel
theorem d_Mo_prepare_37 : decode b_Mo_prepare 37 = .ok (.invokevirtual 239, 3) := by decide +kernel
theorem d_Mo_prepare_40 : decode b_Mo_prepare 40 = .ok (.bipush 26, 2) := by decide +kernel
theorem d_Mo_prepare_42 : decode b_Mo_prepare 42 = .ok (.invokevirtual 175, 3) := by decide +kernel
theorem d_Mo_prepare_45 : decode b_Mo_prepare 45 = .ok (.ireturn, 1) := by decide +kernel
theorem kc_Mo_prepare : Cond.code y_Mo_prepare b_Mo_prepare 1 (some .int) ∈ gx_all := gx_in 1198 (by decide +kernel)
abbrev b_Mo_preparing : ByteArray := prog_9_method_30_code
def y_Mo_preparing : MethodName := ⟨"CommitLedgerModel", "preparing", "()I"⟩
theorem d_Mo_preparing_0 : decode b_Mo_preparing 0 = .ok (.aload_n 0, 1) := by decide +kernel
theorem d_Mo_preparing_1 : decode b_Mo_preparing 1 = .ok (.invokevirtual 197, 3) := by decide +kernel
theorem d_Mo_preparing_4 : decode b_Mo_preparing 4 = .ok (.ifCond .ne 5, 3) := by decide +kernel
theorem d_Mo_preparing_7 : decode b_Mo_preparing 7 = .ok (.iconst 0, 1) := by decide +kernel
theorem d_Mo_preparing_8 : decode b_Mo_preparing 8 = .ok (.ireturn, 1) := by decide +kernel
theorem d_Mo_preparing_9 : decode b_Mo_preparing 9 = .ok (.aload_n 0, 1) := by decide +kernel
theorem d_Mo_preparing_10 : decode b_Mo_preparing 10 = .ok (.invokevirtual 229, 3) := by decide +kernel
theorem d_Mo_preparing_13 : decode b_Mo_preparing 13 = .ok (.ifCond .eq 5, 3) := by decide +kernel
theorem d_Mo_preparing_16 : decode b_Mo_preparing 16 = .ok (.iconst 0, 1) := by decide +kernel
theorem d_Mo_preparing_17 : decode b_Mo_preparing 17 = .ok (.ireturn, 1) := by decide +kernel
theorem d_Mo_preparing_18 : decode b_Mo_preparing 18 = .ok (.aload_n 0, 1) := by decide +kernel
theorem d_Mo_preparing_19 : decode b_Mo_preparing 19 = .ok (.invokevirtual 232, 3) := by decide +kernel
theorem d_Mo_preparing_22 : decode b_Mo_preparing 22 = .ok (.ifCond .ne 5, 3) := by decide +kernel
theorem d_Mo_preparing_25 : decode b_Mo_preparing 25 = .ok (.iconst 0, 1) := by decide +kernel
theorem d_Mo_preparing_26 : decode b_Mo_preparing 26 = .ok (.ireturn, 1) := by decide +kernel
theorem d_Mo_preparing_27 : decode b_Mo_preparing 27 = .ok (.iconst 0, 1) := by decide +kernel
theorem d_Mo_preparing_28 : decode b_Mo_preparing 28 = .ok (.istore_n 1, 1) := by decide +kernel
theorem d_Mo_preparing_29 : decode b_Mo_preparing 29 = .ok (.iload_n 1, 1) := by decide +kernel
theorem d_Mo_preparing_30 : decode b_Mo_preparing 30 = .ok (.aload_n 0, 1) := by decide +kernel
theorem d_Mo_preparing_31 : decode b_Mo_preparing 31 = .ok (.getfield 40, 3) := by decide +kernel
theorem d_Mo_preparing_34 : decode b_Mo_preparing 34 = .ok (.getfield 122, 3) := by decide +kernel
theorem d_Mo_preparing_37 : decode b_Mo_preparing 37 = .ok (.if_icmp .ge 57, 3) := by decide +kernel
theorem d_Mo_preparing_40 : decode b_Mo_preparing 40 = .ok (.aload_n 0, 1) := by decide +kernel
theorem d_Mo_preparing_41 : decode b_Mo_preparing 41 = .ok (.aload_n 0, 1) := by decide +kernel
theorem d_Mo_preparing_42 : decode b_Mo_preparing 42 = .ok (.getfield 40, 3) := by decide +kernel
theorem d_Mo_preparing_45 : decode b_Mo_preparing 45 = .ok (.getfield 125, 3) := by decide +kernel
theorem d_Mo_preparing_48 : decode b_Mo_preparing 48 = .ok (.iload_n 1, 1) := by decide +kernel
theorem d_Mo_preparing_49 : decode b_Mo_preparing 49 = .ok (.iaload, 1) := by decide +kernel
theorem d_Mo_preparing_50 : decode b_Mo_preparing 50 = .ok (.invokevirtual 235, 3) := by decide +kernel
theorem d_Mo_preparing_53 : decode b_Mo_preparing 53 = .ok (.ifCond .ne 5, 3) := by decide +kernel
theorem d_Mo_preparing_56 : decode b_Mo_preparing 56 = .ok (.iconst 0, 1) := by decide +kernel
theorem d_Mo_preparing_57 : decode b_Mo_preparing 57 = .ok (.ireturn, 1) := by decide +kernel
theorem d_Mo_preparing_58 : decode b_Mo_preparing 58 = .ok (.aload_n 0, 1) := by decide +kernel
theorem d_Mo_preparing_59 : decode b_Mo_preparing 59 = .ok (.getfield 40, 3) := by decide +kernel
theorem d_Mo_preparing_62 : decode b_Mo_preparing 62 = .ok (.getfield 132, 3) := by decide +kernel
theorem d_Mo_preparing_65 : decode b_Mo_preparing 65 = .ok (.iload_n 1, 1) := by decide +kernel
theorem d_Mo_preparing_66 : decode b_Mo_preparing 66 = .ok (.iaload, 1) := by decide +kernel
theorem d_Mo_preparing_67 : decode b_Mo_preparing 67 = .ok (.ifCond .lt 21, 3) := by decide +kernel
theorem d_Mo_preparing_70 : decode b_Mo_preparing 70 = .ok (.aload_n 0, 1) := by decide +kernel
theorem d_Mo_preparing_71 : decode b_Mo_preparing 71 = .ok (.aload_n 0, 1) := by decide +kernel
theorem d_Mo_preparing_72 : decode b_Mo_preparing 72 = .ok (.getfield 40, 3) := by decide +kernel
theorem d_Mo_preparing_75 : decode b_Mo_preparing 75 = .ok (.getfield 132, 3) := by decide +kernel
theorem d_Mo_preparing_78 : decode b_Mo_preparing 78 = .ok (.iload_n 1, 1) := by decide +kernel
theorem d_Mo_preparing_79 : decode b_Mo_preparing 79 = .ok (.iaload, 1) := by decide +kernel
theorem d_Mo_preparing_80 : decode b_Mo_preparing 80 = .ok (.invokevirtual 235, 3) := by decide +kernel
theorem d_Mo_preparing_83 : decode b_Mo_preparing 83 = .ok (.ifCond .ne 5, 3) := by decide +kernel
theorem d_Mo_preparing_86 : decode b_Mo_preparing 86 = .ok (.iconst 0, 1) := by decide +kernel
theorem d_Mo_preparing_87 : decode b_Mo_preparing 87 = .ok (.ireturn, 1) := by decide +kernel
theorem d_Mo_preparing_88 : decode b_Mo_preparing 88 = .ok (.iinc 1 1, 3) := by decide +kernel
theorem d_Mo_preparing_91 : decode b_Mo_preparing 91 = .ok (.goto (-62), 3) := by decide +kernel
theorem d_Mo_preparing_94 : decode b_Mo_preparing 94 = .ok (.aload_n 0, 1) := by decide +kernel
theorem d_Mo_preparing_95 : decode b_Mo_preparing 95 = .ok (.invokevirtual 178, 3) := by decide +kernel
theorem d_Mo_preparing_98 : decode b_Mo_preparing 98 = .ok (.istore_n 1, 1) := by decide +kernel
theorem d_Mo_preparing_99 : decode b_Mo_preparing 99 = .ok (.iload_n 1, 1) := by decide +kernel
theorem d_Mo_preparing_100 : decode b_Mo_preparing 100 = .ok (.ifCond .lt 11, 3) := by decide +kernel
theorem d_Mo_preparing_103 : decode b_Mo_preparing 103 = .ok (.aload_n 0, 1) := by decide +kernel
theorem d_Mo_preparing_104 : decode b_Mo_preparing 104 = .ok (.iload_n 1, 1) := by decide +kernel
theorem d_Mo_preparing_105 : decode b_Mo_preparing 105 = .ok (.invokevirtual 235, 3) := by decide +kernel
theorem d_Mo_preparing_108 : decode b_Mo_preparing 108 = .ok (.ifCond .ne 5, 3) := by decide +kernel
theorem d_Mo_preparing_111 : decode b_Mo_preparing 111 = .ok (.iconst 0, 1) := by decide +kernel
theorem d_Mo_preparing_112 : decode b_Mo_preparing 112 = .ok (.ireturn, 1) := by decide +kernel
theorem d_Mo_preparing_113 : decode b_Mo_preparing 113 = .ok (.aload_n 0, 1) := by decide +kernel
theorem d_Mo_preparing_114 : decode b_Mo_preparing 114 = .ok (.getfield 47, 3) := by decide +kernel
theorem d_Mo_preparing_117 : decode b_Mo_preparing 117 = .ok (.aload_n 0, 1) := by decide +kernel
theorem d_Mo_preparing_118 : decode b_Mo_preparing 118 = .ok (.getfield 40, 3) := by decide +kernel
theorem d_Mo_preparing_121 : decode b_Mo_preparing 121 = .ok (.invokevirtual 162, 3) := by decide +kernel
theorem d_Mo_preparing_124 : decode b_Mo_preparing 124 = .ok (.aload_n 0, 1) := by decide +kernel
theorem d_Mo_preparing_125 : decode b_Mo_preparing 125 = .ok (.getfield 47, 3) := by decide +kernel
theorem d_Mo_preparing_128 : decode b_Mo_preparing 128 = .ok (.iload_n 1, 1) := by decide +kernel
theorem d_Mo_preparing_129 : decode b_Mo_preparing 129 = .ok (.putfield 142, 3) := by decide +kernel
theorem d_Mo_preparing_132 : decode b_Mo_preparing 132 = .ok (.aload_n 0, 1) := by decide +kernel
theorem d_Mo_preparing_133 : decode b_Mo_preparing 133 = .ok (.iconst 1, 1) := by decide +kernel
theorem d_Mo_preparing_134 : decode b_Mo_preparing 134 = .ok (.putfield 109, 3) := by decide +kernel
theorem d_Mo_preparing_137 : decode b_Mo_preparing 137 = .ok (.aload_n 0, 1) := by decide +kernel
theorem d_Mo_preparing_138 : decode b_Mo_preparing 138 = .ok (.getfield 135, 3) := by decide +kernel
theorem d_Mo_preparing_141 : decode b_Mo_preparing 141 = .ok (.iconst 1, 1) := by decide +kernel
theorem d_Mo_preparing_142 : decode b_Mo_preparing 142 = .ok (.iadd, 1) := by decide +kernel
theorem d_Mo_preparing_143 : decode b_Mo_preparing 143 = .ok (.ireturn, 1) := by decide +kernel
theorem kc_Mo_preparing : Cond.code y_Mo_preparing b_Mo_preparing 2 (some .int) ∈ gx_all := gx_in 1202 (by decide +kernel)
abbrev b_Mo_reader : ByteArray := prog_9_method_41_code
def y_Mo_reader : MethodName := ⟨"CommitLedgerModel", "reader", "(I)I"⟩
theorem d_Mo_reader_0 : decode b_Mo_reader 0 = .ok (.iconst 0, 1) := by decide +kernel
theorem d_Mo_reader_1 : decode b_Mo_reader 1 = .ok (.istore_n 2, 1) := by decide +kernel
theorem d_Mo_reader_2 : decode b_Mo_reader 2 = .ok (.iload_n 2, 1) := by decide +kernel
theorem d_Mo_reader_3 : decode b_Mo_reader 3 = .ok (.iconst 4, 1) := by decide +kernel
theorem d_Mo_reader_4 : decode b_Mo_reader 4 = .ok (.if_icmp .ge 21, 3) := by decide +kernel
theorem d_Mo_reader_7 : decode b_Mo_reader 7 = .ok (.aload_n 0, 1) := by decide +kernel
theorem d_Mo_reader_8 : decode b_Mo_reader 8 = .ok (.getfield 76, 3) := by decide +kernel
theorem d_Mo_reader_11 : decode b_Mo_reader 11 = .ok (.iload_n 2, 1) := by decide +kernel
theorem d_Mo_reader_12 : decode b_Mo_reader 12 = .ok (.aaload, 1) := by decide +kernel
theorem d_Mo_reader_13 : decode b_Mo_reader 13 = .ok (.getfield 103, 3) := by decide +kernel
theorem d_Mo_reader_16 : decode b_Mo_reader 16 = .ok (.ifCond .le 9, 3) := by decide +kernel
theorem d_Mo_reader_19 : decode b_Mo_reader 19 = .ok (.iinc 2 1, 3) := by decide +kernel
theorem d_Mo_reader_22 : decode b_Mo_reader 22 = .ok (.goto (-20), 3) := by decide +kernel
theorem d_Mo_reader_25 : decode b_Mo_reader 25 = .ok (.aload_n 0, 1) := by decide +kernel
theorem d_Mo_reader_26 : decode b_Mo_reader 26 = .ok (.iload_n 1, 1) := by decide +kernel
theorem d_Mo_reader_27 : decode b_Mo_reader 27 = .ok (.ifCond .lt 8, 3) := by decide +kernel
theorem d_Mo_reader_30 : decode b_Mo_reader 30 = .ok (.iload_n 1, 1) := by decide +kernel
theorem d_Mo_reader_31 : decode b_Mo_reader 31 = .ok (.iconst 1, 1) := by decide +kernel
theorem d_Mo_reader_32 : decode b_Mo_reader 32 = .ok (.if_icmp .le 7, 3) := by decide +kernel
theorem d_Mo_reader_35 : decode b_Mo_reader 35 = .ok (.iconst 1, 1) := by decide +kernel
theorem d_Mo_reader_36 : decode b_Mo_reader 36 = .ok (.goto 4, 3) := by decide +kernel
theorem d_Mo_reader_39 : decode b_Mo_reader 39 = .ok (.iconst 0, 1) := by decide +kernel
theorem d_Mo_reader_40 : decode b_Mo_reader 40 = .ok (.iconst 1, 1) := by decide +kernel
theorem d_Mo_reader_41 : decode b_Mo_reader 41 = .ok (.invokevirtual 152, 3) := by decide +kernel
theorem d_Mo_reader_44 : decode b_Mo_reader 44 = .ok (.ifCond .ne 94, 3) := by decide +kernel
theorem d_Mo_reader_47 : decode b_Mo_reader 47 = .ok (.aload_n 0, 1) := by decide +kernel
theorem d_Mo_reader_48 : decode b_Mo_reader 48 = .ok (.iload_n 1, 1) := by decide +kernel
theorem d_Mo_reader_49 : decode b_Mo_reader 49 = .ok (.iconst 1, 1) := by decide +kernel
theorem d_Mo_reader_50 : decode b_Mo_reader 50 = .ok (.if_icmp .ne 14, 3) := by decide +kernel
theorem d_Mo_reader_53 : decode b_Mo_reader 53 = .ok (.aload_n 0, 1) := by decide +kernel
theorem d_Mo_reader_54 : decode b_Mo_reader 54 = .ok (.getfield 99, 3) := by decide +kernel
theorem d_Mo_reader_57 : decode b_Mo_reader 57 = .ok (.ifCond .ne 7, 3) := by decide +kernel
theorem d_Mo_reader_60 : decode b_Mo_reader 60 = .ok (.iconst 1, 1) := by decide +kernel
theorem d_Mo_reader_61 : decode b_Mo_reader 61 = .ok (.goto 4, 3) := by decide +kernel
theorem d_Mo_reader_64 : decode b_Mo_reader 64 = .ok (.iconst 0, 1) := by decide +kernel
theorem d_Mo_reader_65 : decode b_Mo_reader 65 = .ok (.iconst 2, 1) := by decide +kernel
theorem d_Mo_reader_66 : decode b_Mo_reader 66 = .ok (.invokevirtual 152, 3) := by decide +kernel
theorem d_Mo_reader_69 : decode b_Mo_reader 69 = .ok (.ifCond .ne 69, 3) := by decide +kernel
theorem d_Mo_reader_72 : decode b_Mo_reader 72 = .ok (.aload_n 0, 1) := by decide +kernel
theorem d_Mo_reader_73 : decode b_Mo_reader 73 = .ok (.iload_n 2, 1) := by decide +kernel
theorem d_Mo_reader_74 : decode b_Mo_reader 74 = .ok (.iconst 4, 1) := by decide +kernel
theorem d_Mo_reader_75 : decode b_Mo_reader 75 = .ok (.if_icmp .ne 7, 3) := by decide +kernel
theorem d_Mo_reader_78 : decode b_Mo_reader 78 = .ok (.iconst 1, 1) := by decide +kernel
theorem d_Mo_reader_79 : decode b_Mo_reader 79 = .ok (.goto 4, 3) := by decide +kernel
theorem d_Mo_reader_82 : decode b_Mo_reader 82 = .ok (.iconst 0, 1) := by decide +kernel
theorem d_Mo_reader_83 : decode b_Mo_reader 83 = .ok (.iconst 5, 1) := by decide +kernel
theorem d_Mo_reader_84 : decode b_Mo_reader 84 = .ok (.invokevirtual 152, 3) := by decide +kernel
theorem d_Mo_reader_87 : decode b_Mo_reader 87 = .ok (.ifCond .ne 51, 3) := by decide +kernel
theorem d_Mo_reader_90 : decode b_Mo_reader 90 = .ok (.aload_n 0, 1) := by decide +kernel
theorem d_Mo_reader_91 : decode b_Mo_reader 91 = .ok (.iload_n 1, 1) := by decide +kernel
theorem d_Mo_reader_92 : decode b_Mo_reader 92 = .ok (.ifCond .ne 14, 3) := by decide +kernel
theorem d_Mo_reader_95 : decode b_Mo_reader 95 = .ok (.aload_n 0, 1) := by decide +kernel
theorem d_Mo_reader_96 : decode b_Mo_reader 96 = .ok (.getfield 135, 3) := by decide +kernel
theorem d_Mo_reader_99 : decode b_Mo_reader 99 = .ok (.ifCond .ne 7, 3) := by decide +kernel
theorem d_Mo_reader_102 : decode b_Mo_reader 102 = .ok (.iconst 1, 1) := by decide +kernel
theorem d_Mo_reader_103 : decode b_Mo_reader 103 = .ok (.goto 4, 3) := by decide +kernel
theorem d_Mo_reader_106 : decode b_Mo_reader 106 = .ok (.iconst 0, 1) := by decide +kernel
theorem d_Mo_reader_107 : decode b_Mo_reader 107 = .ok (.iconst 3, 1) := by decide +kernel
theorem d_Mo_reader_108 : decode b_Mo_reader 108 = .ok (.invokevirtual 152, 3) := by decide +kernel
theorem d_Mo_reader_111 : decode b_Mo_reader 111 = .ok (.ifCond .ne 27, 3) := by decide +kernel
theorem d_Mo_reader_114 : decode b_Mo_reader 114 = .ok (.aload_n 0, 1) := by decide +kernel
theorem d_Mo_reader_115 : decode b_Mo_reader 115 = .ok (.iload_n 1, 1) := by decide +kernel
theorem d_Mo_reader_116 : decode b_Mo_reader 116 = .ok (.ifCond .ne 14, 3) := by decide +kernel
theorem d_Mo_reader_119 : decode b_Mo_reader 119 = .ok (.aload_n 0, 1) := by decide +kernel
theorem d_Mo_reader_120 : decode b_Mo_reader 120 = .ok (.invokevirtual 156, 3) := by decide +kernel
theorem d_Mo_reader_123 : decode b_Mo_reader 123 = .ok (.ifCond .eq 7, 3) := by decide +kernel
theorem d_Mo_reader_126 : decode b_Mo_reader 126 = .ok (.iconst 1, 1) := by decide +kernel
theorem d_Mo_reader_127 : decode b_Mo_reader 127 = .ok (.goto 4, 3) := by decide +kernel
theorem d_Mo_reader_130 : decode b_Mo_reader 130 = .ok (.iconst 0, 1) := by decide +kernel
theorem d_Mo_reader_131 : decode b_Mo_reader 131 = .ok (.iconst 4, 1) := by decide +kernel
theorem d_Mo_reader_132 : decode b_Mo_reader 132 = .ok (.invokevirtual 152, 3) := by decide +kernel
theorem d_Mo_reader_135 : decode b_Mo_reader 135 = .ok (.ifCond .eq 11, 3) := by decide +kernel
theorem d_Mo_reader_138 : decode b_Mo_reader 138 = .ok (.aload_n 0, 1) := by decide +kernel
theorem d_Mo_reader_139 : decode b_Mo_reader 139 = .ok (.iconst 0, 1) := by decide +kernel
theorem d_Mo_reader_140 : decode b_Mo_reader 140 = .ok (.ldc 253, 2) := by decide +kernel
theorem d_Mo_reader_142 : decode b_Mo_reader 142 = .ok (.invokevirtual 148, 3) := by decide +kernel
theorem d_Mo_reader_145 : decode b_Mo_reader 145 = .ok (.ireturn, 1) := by decide +kernel
theorem d_Mo_reader_146 : decode b_Mo_reader 146 = .ok (.iload_n 1, 1) := by decide +kernel
theorem d_Mo_reader_147 : decode b_Mo_reader 147 = .ok (.iconst 1, 1) := by decide +kernel
theorem d_Mo_reader_148 : decode b_Mo_reader 148 = .ok (.if_icmp .ne 18, 3) := by decide +kernel
theorem d_Mo_reader_151 : decode b_Mo_reader 151 = .ok (.aload_n 0, 1) := by decide +kernel
theorem d_Mo_reader_152 : decode b_Mo_reader 152 = .ok (.invokevirtual 197, 3) := by decide +kernel
theorem d_Mo_reader_155 : decode b_Mo_reader 155 = .ok (.ifCond .ne 11, 3) := by decide +kernel
theorem d_Mo_reader_158 : decode b_Mo_reader 158 = .ok (.aload_n 0, 1) := by decide +kernel
theorem d_Mo_reader_159 : decode b_Mo_reader 159 = .ok (.iconst 0, 1) := by decide +kernel
theorem d_Mo_reader_160 : decode b_Mo_reader 160 = .ok (.ldc 253, 2) := by decide +kernel
theorem d_Mo_reader_162 : decode b_Mo_reader 162 = .ok (.invokevirtual 175, 3) := by decide +kernel
theorem d_Mo_reader_165 : decode b_Mo_reader 165 = .ok (.ireturn, 1) := by decide +kernel
theorem d_Mo_reader_166 : decode b_Mo_reader 166 = .ok (.aload_n 0, 1) := by decide +kernel
theorem d_Mo_reader_167 : decode b_Mo_reader 167 = .ok (.getfield 76, 3) := by decide +kernel
theorem d_Mo_reader_170 : decode b_Mo_reader 170 = .ok (.iload_n 2, 1) := by decide +kernel
theorem d_Mo_reader_171 : decode b_Mo_reader 171 = .ok (.aaload, 1) := by decide +kernel
theorem d_Mo_reader_172 : decode b_Mo_reader 172 = .ok (.iload_n 1, 1) := by decide +kernel
theorem d_Mo_reader_173 : decode b_Mo_reader 173 = .ok (.ifCond .ne 10, 3) := by decide +kernel
theorem d_Mo_reader_176 : decode b_Mo_reader 176 = .ok (.aload_n 0, 1) := by decide +kernel
theorem d_Mo_reader_177 : decode b_Mo_reader 177 = .ok (.getfield 44, 3) := by decide +kernel
theorem d_Mo_reader_180 : decode b_Mo_reader 180 = .ok (.goto 7, 3) := by decide +kernel
theorem d_Mo_reader_183 : decode b_Mo_reader 183 = .ok (.aload_n 0, 1) := by decide +kernel
theorem d_Mo_reader_184 : decode b_Mo_reader 184 = .ok (.getfield 40, 3) := by decide +kernel
theorem d_Mo_reader_187 : decode b_Mo_reader 187 = .ok (.invokevirtual 162, 3) := by decide +kernel
theorem d_Mo_reader_190 : decode b_Mo_reader 190 = .ok (.aload_n 0, 1) := by decide +kernel
theorem d_Mo_reader_191 : decode b_Mo_reader 191 = .ok (.dup, 1) := by decide +kernel
theorem d_Mo_reader_192 : decode b_Mo_reader 192 = .ok (.getfield 254, 3) := by decide +kernel
theorem d_Mo_reader_195 : decode b_Mo_reader 195 = .ok (.iconst 1, 1) := by decide +kernel
theorem d_Mo_reader_196 : decode b_Mo_reader 196 = .ok (.iadd, 1) := by decide +kernel
theorem d_Mo_reader_197 : decode b_Mo_reader 197 = .ok (.putfield 254, 3) := by decide +kernel
theorem d_Mo_reader_200 : decode b_Mo_reader 200 = .ok (.aload_n 0, 1) := by decide +kernel
theorem d_Mo_reader_201 : decode b_Mo_reader 201 = .ok (.getfield 76, 3) := by decide +kernel
theorem d_Mo_reader_204 : decode b_Mo_reader 204 = .ok (.iload_n 2, 1) := by decide +kernel
theorem d_Mo_reader_205 : decode b_Mo_reader 205 = .ok (.aaload, 1) := by decide +kernel
theorem d_Mo_reader_206 : decode b_Mo_reader 206 = .ok (.aload_n 0, 1) := by decide +kernel
theorem d_Mo_reader_207 : decode b_Mo_reader 207 = .ok (.getfield 254, 3) := by decide +kernel
theorem d_Mo_reader_210 : decode b_Mo_reader 210 = .ok (.putfield 103, 3) := by decide +kernel
theorem d_Mo_reader_213 : decode b_Mo_reader 213 = .ok (.aload_n 0, 1) := by decide +kernel
theorem d_Mo_reader_214 : decode b_Mo_reader 214 = .ok (.aload_n 0, 1) := by decide +kernel
theorem d_Mo_reader_215 : decode b_Mo_reader 215 = .ok (.getfield 254, 3) := by decide +kernel
theorem d_Mo_reader_218 : decode b_Mo_reader 218 = .ok (.ldc 253, 2) := by decide +kernel
theorem d_Mo_reader_220 : decode b_Mo_reader 220 = .ok (.invokevirtual 175, 3) := by decide +kernel
theorem d_Mo_reader_223 : decode b_Mo_reader 223 = .ok (.ireturn, 1) := by decide +kernel
theorem kc_Mo_reader : Cond.code y_Mo_reader b_Mo_reader 3 (some .int) ∈ gx_all := gx_in 1255 (by decide +kernel)
abbrev b_Mo_readersOpen : ByteArray := prog_9_method_50_code
def y_Mo_readersOpen : MethodName := ⟨"CommitLedgerModel", "readersOpen", "()I"⟩
theorem d_Mo_readersOpen_0 : decode b_Mo_readersOpen 0 = .ok (.iconst 0, 1) := by decide +kernel
theorem d_Mo_readersOpen_1 : decode b_Mo_readersOpen 1 = .ok (.istore_n 1, 1) := by decide +kernel
theorem d_Mo_readersOpen_2 : decode b_Mo_readersOpen 2 = .ok (.aload_n 0, 1) := by decide +kernel
theorem d_Mo_readersOpen_3 : decode b_Mo_readersOpen 3 = .ok (.getfield 76, 3) := by decide +kernel
theorem d_Mo_readersOpen_6 : decode b_Mo_readersOpen 6 = .ok (.astore_n 2, 1) := by decide +kernel
theorem d_Mo_readersOpen_7 : decode b_Mo_readersOpen 7 = .ok (.aload_n 2, 1) := by decide +kernel
theorem d_Mo_readersOpen_8 : decode b_Mo_readersOpen 8 = .ok (.arraylength, 1) := by decide +kernel
theorem d_Mo_readersOpen_9 : decode b_Mo_readersOpen 9 = .ok (.istore_n 3, 1) := by decide +kernel
theorem d_Mo_readersOpen_10 : decode b_Mo_readersOpen 10 = .ok (.iconst 0, 1) := by decide +kernel
theorem d_Mo_readersOpen_11 : decode b_Mo_readersOpen 11 = .ok (.istore 4, 2) := by decide +kernel
theorem d_Mo_readersOpen_13 : decode b_Mo_readersOpen 13 = .ok (.iload 4, 2) := by decide +kernel
theorem d_Mo_readersOpen_15 : decode b_Mo_readersOpen 15 = .ok (.iload_n 3, 1) := by decide +kernel
theorem d_Mo_readersOpen_16 : decode b_Mo_readersOpen 16 = .ok (.if_icmp .ge 26, 3) := by decide +kernel
theorem d_Mo_readersOpen_19 : decode b_Mo_readersOpen 19 = .ok (.aload_n 2, 1) := by decide +kernel
theorem d_Mo_readersOpen_20 : decode b_Mo_readersOpen 20 = .ok (.iload 4, 2) := by decide +kernel
theorem d_Mo_readersOpen_22 : decode b_Mo_readersOpen 22 = .ok (.aaload, 1) := by decide +kernel
theorem d_Mo_readersOpen_23 : decode b_Mo_readersOpen 23 = .ok (.astore 5, 2) := by decide +kernel
theorem d_Mo_readersOpen_25 : decode b_Mo_readersOpen 25 = .ok (.aload 5, 2) := by decide +kernel
theorem d_Mo_readersOpen_27 : decode b_Mo_readersOpen 27 = .ok (.getfield 103, 3) := by decide +kernel
theorem d_Mo_readersOpen_30 : decode b_Mo_readersOpen 30 = .ok (.ifCond .le 6, 3) := by decide +kernel
theorem d_Mo_readersOpen_33 : decode b_Mo_readersOpen 33 = .ok (.iinc 1 1, 3) := by decide +kernel
theorem d_Mo_readersOpen_36 : decode b_Mo_readersOpen 36 = .ok (.iinc 4 1, 3) := by decide +kernel
theorem d_Mo_readersOpen_39 : decode b_Mo_readersOpen 39 = .ok (.goto (-26), 3) := by decide +kernel
theorem d_Mo_readersOpen_42 : decode b_Mo_readersOpen 42 = .ok (.iload_n 1, 1) := by decide +kernel
theorem d_Mo_readersOpen_43 : decode b_Mo_readersOpen 43 = .ok (.ireturn, 1) := by decide +kernel
theorem kc_Mo_readersOpen : Cond.code y_Mo_readersOpen b_Mo_readersOpen 6 (some .int) ∈ gx_all := gx_in 1300 (by decide +kernel)
abbrev b_Mo_reading : ByteArray := prog_9_method_42_code
def y_Mo_reading : MethodName := ⟨"CommitLedgerModel", "reading", "(I)LCommitLedgerModel$Version;"⟩
theorem d_Mo_reading_0 : decode b_Mo_reading 0 = .ok (.aload_n 0, 1) := by decide +kernel
theorem d_Mo_reading_1 : decode b_Mo_reading 1 = .ok (.getfield 76, 3) := by decide +kernel
theorem d_Mo_reading_4 : decode b_Mo_reading 4 = .ok (.astore_n 2, 1) := by decide +kernel
theorem d_Mo_reading_5 : decode b_Mo_reading 5 = .ok (.aload_n 2, 1) := by decide +kernel
theorem d_Mo_reading_6 : decode b_Mo_reading 6 = .ok (.arraylength, 1) := by decide +kernel
theorem d_Mo_reading_7 : decode b_Mo_reading 7 = .ok (.istore_n 3, 1) := by decide +kernel
theorem d_Mo_reading_8 : decode b_Mo_reading 8 = .ok (.iconst 0, 1) := by decide +kernel
theorem d_Mo_reading_9 : decode b_Mo_reading 9 = .ok (.istore 4, 2) := by decide +kernel
theorem d_Mo_reading_11 : decode b_Mo_reading 11 = .ok (.iload 4, 2) := by decide +kernel
theorem d_Mo_reading_13 : decode b_Mo_reading 13 = .ok (.iload_n 3, 1) := by decide +kernel
theorem d_Mo_reading_14 : decode b_Mo_reading 14 = .ok (.if_icmp .ge 35, 3) := by decide +kernel
theorem d_Mo_reading_17 : decode b_Mo_reading 17 = .ok (.aload_n 2, 1) := by decide +kernel
theorem d_Mo_reading_18 : decode b_Mo_reading 18 = .ok (.iload 4, 2) := by decide +kernel
theorem d_Mo_reading_20 : decode b_Mo_reading 20 = .ok (.aaload, 1) := by decide +kernel
theorem d_Mo_reading_21 : decode b_Mo_reading 21 = .ok (.astore 5, 2) := by decide +kernel
theorem d_Mo_reading_23 : decode b_Mo_reading 23 = .ok (.aload 5, 2) := by decide +kernel
theorem d_Mo_reading_25 : decode b_Mo_reading 25 = .ok (.getfield 103, 3) := by decide +kernel
theorem d_Mo_reading_28 : decode b_Mo_reading 28 = .ok (.ifCond .le 15, 3) := by decide +kernel
theorem d_Mo_reading_31 : decode b_Mo_reading 31 = .ok (.aload 5, 2) := by decide +kernel
theorem d_Mo_reading_33 : decode b_Mo_reading 33 = .ok (.getfield 103, 3) := by decide +kernel
theorem d_Mo_reading_36 : decode b_Mo_reading 36 = .ok (.iload_n 1, 1) := by decide +kernel
theorem d_Mo_reading_37 : decode b_Mo_reading 37 = .ok (.if_icmp .ne 6, 3) := by decide +kernel
theorem d_Mo_reading_40 : decode b_Mo_reading 40 = .ok (.aload 5, 2) := by decide +kernel
theorem d_Mo_reading_42 : decode b_Mo_reading 42 = .ok (.areturn, 1) := by decide +kernel
theorem d_Mo_reading_43 : decode b_Mo_reading 43 = .ok (.iinc 4 1, 3) := by decide +kernel
theorem d_Mo_reading_46 : decode b_Mo_reading 46 = .ok (.goto (-35), 3) := by decide +kernel
theorem d_Mo_reading_49 : decode b_Mo_reading 49 = .ok (.aload_n 0, 1) := by decide +kernel
theorem d_Mo_reading_50 : decode b_Mo_reading 50 = .ok (.aload_n 0, 1) := by decide +kernel
theorem d_Mo_reading_51 : decode b_Mo_reading 51 = .ok (.getfield 84, 3) := by decide +kernel
theorem d_Mo_reading_54 : decode b_Mo_reading 54 = .ok (.ifCond .ne 7, 3) := by decide +kernel
theorem d_Mo_reading_57 : decode b_Mo_reading 57 = .ok (.iconst 3, 1) := by decide +kernel
theorem d_Mo_reading_58 : decode b_Mo_reading 58 = .ok (.goto 7, 3) := by decide +kernel
theorem d_Mo_reading_61 : decode b_Mo_reading 61 = .ok (.aload_n 0, 1) := by decide +kernel
theorem d_Mo_reading_62 : decode b_Mo_reading 62 = .ok (.getfield 84, 3) := by decide +kernel
theorem d_Mo_reading_65 : decode b_Mo_reading 65 = .ok (.putfield 84, 3) := by decide +kernel
theorem d_Mo_reading_68 : decode b_Mo_reading 68 = .ok (.aload_n 0, 1) := by decide +kernel
theorem d_Mo_reading_69 : decode b_Mo_reading 69 = .ok (.getfield 76, 3) := by decide +kernel
theorem d_Mo_reading_72 : decode b_Mo_reading 72 = .ok (.iconst 0, 1) := by decide +kernel
theorem d_Mo_reading_73 : decode b_Mo_reading 73 = .ok (.aaload, 1) := by decide +kernel
theorem d_Mo_reading_74 : decode b_Mo_reading 74 = .ok (.areturn, 1) := by decide +kernel
theorem kc_Mo_reading : Cond.code y_Mo_reading b_Mo_reading 6 (some (.object "CommitLedgerModel$Version")) ∈ gx_all := gx_in 1264 (by decide +kernel)
abbrev b_Mo_release : ByteArray := prog_9_method_43_code
def y_Mo_release : MethodName := ⟨"CommitLedgerModel", "release", "(I)V"⟩
theorem d_Mo_release_0 : decode b_Mo_release 0 = .ok (.aload_n 0, 1) := by decide +kernel
theorem d_Mo_release_1 : decode b_Mo_release 1 = .ok (.iload_n 1, 1) := by decide +kernel
theorem d_Mo_release_2 : decode b_Mo_release 2 = .ok (.invokevirtual 257, 3) := by decide +kernel
theorem d_Mo_release_5 : decode b_Mo_release 5 = .ok (.astore_n 2, 1) := by decide +kernel
theorem d_Mo_release_6 : decode b_Mo_release 6 = .ok (.aload_n 0, 1) := by decide +kernel
theorem d_Mo_release_7 : decode b_Mo_release 7 = .ok (.getfield 84, 3) := by decide +kernel
theorem d_Mo_release_10 : decode b_Mo_release 10 = .ok (.ifCond .ne 8, 3) := by decide +kernel
theorem d_Mo_release_13 : decode b_Mo_release 13 = .ok (.aload_n 2, 1) := by decide +kernel
theorem d_Mo_release_14 : decode b_Mo_release 14 = .ok (.iconst 0, 1) := by decide +kernel
theorem d_Mo_release_15 : decode b_Mo_release 15 = .ok (.putfield 103, 3) := by decide +kernel
theorem d_Mo_release_18 : decode b_Mo_release 18 = .ok (.aload_n 0, 1) := by decide +kernel
theorem d_Mo_release_19 : decode b_Mo_release 19 = .ok (.iconst 0, 1) := by decide +kernel
theorem d_Mo_release_20 : decode b_Mo_release 20 = .ok (.iconst 3, 1) := by decide +kernel
theorem d_Mo_release_21 : decode b_Mo_release 21 = .ok (.invokevirtual 175, 3) := by decide +kernel
theorem d_Mo_release_24 : decode b_Mo_release 24 = .ok (.istore_n 3, 1) := by decide +kernel
theorem d_Mo_release_25 : decode b_Mo_release 25 = .ok (.return_, 1) := by decide +kernel
theorem kc_Mo_release : Cond.code y_Mo_release b_Mo_release 4 none ∈ gx_all := gx_in 1260 (by decide +kernel)
