/-! NAMES: methods and their decode rows, printed by an own text program out of the Statement. -/
abbrev b_Mo_writeLists : ByteArray := prog_9_method_29_code
def y_Mo_writeLists : MethodName := ⟨"CommitLedgerModel", "writeLists", "()Z"⟩
theorem d_Mo_writeLists_0 : decode b_Mo_writeLists 0 = .ok (.iconst 0, 1) := by decide +kernel
theorem d_Mo_writeLists_1 : decode b_Mo_writeLists 1 = .ok (.istore_n 1, 1) := by decide +kernel
theorem d_Mo_writeLists_2 : decode b_Mo_writeLists 2 = .ok (.iload_n 1, 1) := by decide +kernel
theorem d_Mo_writeLists_3 : decode b_Mo_writeLists 3 = .ok (.aload_n 0, 1) := by decide +kernel
theorem d_Mo_writeLists_4 : decode b_Mo_writeLists 4 = .ok (.getfield 40, 3) := by decide +kernel
theorem d_Mo_writeLists_7 : decode b_Mo_writeLists 7 = .ok (.getfield 122, 3) := by decide +kernel
theorem d_Mo_writeLists_10 : decode b_Mo_writeLists 10 = .ok (.if_icmp .ge 146, 3) := by decide +kernel
theorem d_Mo_writeLists_13 : decode b_Mo_writeLists 13 = .ok (.iconst 0, 1) := by decide +kernel
theorem d_Mo_writeLists_14 : decode b_Mo_writeLists 14 = .ok (.istore_n 2, 1) := by decide +kernel
theorem d_Mo_writeLists_15 : decode b_Mo_writeLists 15 = .ok (.aload_n 0, 1) := by decide +kernel
theorem d_Mo_writeLists_16 : decode b_Mo_writeLists 16 = .ok (.getfield 40, 3) := by decide +kernel
theorem d_Mo_writeLists_19 : decode b_Mo_writeLists 19 = .ok (.getfield 182, 3) := by decide +kernel
theorem d_Mo_writeLists_22 : decode b_Mo_writeLists 22 = .ok (.iload_n 1, 1) := by decide +kernel
theorem d_Mo_writeLists_23 : decode b_Mo_writeLists 23 = .ok (.iaload, 1) := by decide +kernel
theorem d_Mo_writeLists_24 : decode b_Mo_writeLists 24 = .ok (.istore_n 3, 1) := by decide +kernel
theorem d_Mo_writeLists_25 : decode b_Mo_writeLists 25 = .ok (.iload_n 3, 1) := by decide +kernel
theorem d_Mo_writeLists_26 : decode b_Mo_writeLists 26 = .ok (.aload_n 0, 1) := by decide +kernel
theorem d_Mo_writeLists_27 : decode b_Mo_writeLists 27 = .ok (.getfield 40, 3) := by decide +kernel
theorem d_Mo_writeLists_30 : decode b_Mo_writeLists 30 = .ok (.getfield 182, 3) := by decide +kernel
theorem d_Mo_writeLists_33 : decode b_Mo_writeLists 33 = .ok (.iload_n 1, 1) := by decide +kernel
theorem d_Mo_writeLists_34 : decode b_Mo_writeLists 34 = .ok (.iconst 1, 1) := by decide +kernel
theorem d_Mo_writeLists_35 : decode b_Mo_writeLists 35 = .ok (.iadd, 1) := by decide +kernel
theorem d_Mo_writeLists_36 : decode b_Mo_writeLists 36 = .ok (.iaload, 1) := by decide +kernel
theorem d_Mo_writeLists_37 : decode b_Mo_writeLists 37 = .ok (.if_icmp .ge 32, 3) := by decide +kernel
theorem d_Mo_writeLists_40 : decode b_Mo_writeLists 40 = .ok (.aload_n 0, 1) := by decide +kernel
theorem d_Mo_writeLists_41 : decode b_Mo_writeLists 41 = .ok (.getfield 40, 3) := by decide +kernel
theorem d_Mo_writeLists_44 : decode b_Mo_writeLists 44 = .ok (.getfield 188, 3) := by decide +kernel
theorem d_Mo_writeLists_47 : decode b_Mo_writeLists 47 = .ok (.iload_n 3, 1) := by decide +kernel
theorem d_Mo_writeLists_48 : decode b_Mo_writeLists 48 = .ok (.baload, 1) := by decide +kernel
theorem d_Mo_writeLists_49 : decode b_Mo_writeLists 49 = .ok (.aload_n 0, 1) := by decide +kernel
theorem d_Mo_writeLists_50 : decode b_Mo_writeLists 50 = .ok (.getfield 40, 3) := by decide +kernel
theorem d_Mo_writeLists_53 : decode b_Mo_writeLists 53 = .ok (.getfield 191, 3) := by decide +kernel
theorem d_Mo_writeLists_56 : decode b_Mo_writeLists 56 = .ok (.iload_n 3, 1) := by decide +kernel
theorem d_Mo_writeLists_57 : decode b_Mo_writeLists 57 = .ok (.baload, 1) := by decide +kernel
theorem d_Mo_writeLists_58 : decode b_Mo_writeLists 58 = .ok (.if_icmp .eq 5, 3) := by decide +kernel
theorem d_Mo_writeLists_61 : decode b_Mo_writeLists 61 = .ok (.iconst 1, 1) := by decide +kernel
theorem d_Mo_writeLists_62 : decode b_Mo_writeLists 62 = .ok (.istore_n 2, 1) := by decide +kernel
theorem d_Mo_writeLists_63 : decode b_Mo_writeLists 63 = .ok (.iinc 3 1, 3) := by decide +kernel
theorem d_Mo_writeLists_66 : decode b_Mo_writeLists 66 = .ok (.goto (-41), 3) := by decide +kernel
theorem d_Mo_writeLists_69 : decode b_Mo_writeLists 69 = .ok (.iload_n 2, 1) := by decide +kernel
theorem d_Mo_writeLists_70 : decode b_Mo_writeLists 70 = .ok (.ifCond .ne 6, 3) := by decide +kernel
theorem d_Mo_writeLists_73 : decode b_Mo_writeLists 73 = .ok (.goto 77, 3) := by decide +kernel
theorem d_Mo_writeLists_76 : decode b_Mo_writeLists 76 = .ok (.aload_n 0, 1) := by decide +kernel
theorem d_Mo_writeLists_77 : decode b_Mo_writeLists 77 = .ok (.invokevirtual 178, 3) := by decide +kernel
theorem d_Mo_writeLists_80 : decode b_Mo_writeLists 80 = .ok (.istore_n 3, 1) := by decide +kernel
theorem d_Mo_writeLists_81 : decode b_Mo_writeLists 81 = .ok (.iload_n 3, 1) := by decide +kernel
theorem d_Mo_writeLists_82 : decode b_Mo_writeLists 82 = .ok (.ifCond .ge 5, 3) := by decide +kernel
theorem d_Mo_writeLists_85 : decode b_Mo_writeLists 85 = .ok (.iconst 0, 1) := by decide +kernel
theorem d_Mo_writeLists_86 : decode b_Mo_writeLists 86 = .ok (.ireturn, 1) := by decide +kernel
theorem d_Mo_writeLists_87 : decode b_Mo_writeLists 87 = .ok (.aload_n 0, 1) := by decide +kernel
theorem d_Mo_writeLists_88 : decode b_Mo_writeLists 88 = .ok (.getfield 40, 3) := by decide +kernel
theorem d_Mo_writeLists_91 : decode b_Mo_writeLists 91 = .ok (.getfield 132, 3) := by decide +kernel
theorem d_Mo_writeLists_94 : decode b_Mo_writeLists 94 = .ok (.iload_n 1, 1) := by decide +kernel
theorem d_Mo_writeLists_95 : decode b_Mo_writeLists 95 = .ok (.iload_n 3, 1) := by decide +kernel
theorem d_Mo_writeLists_96 : decode b_Mo_writeLists 96 = .ok (.iastore, 1) := by decide +kernel
theorem d_Mo_writeLists_97 : decode b_Mo_writeLists 97 = .ok (.aload_n 0, 1) := by decide +kernel
theorem d_Mo_writeLists_98 : decode b_Mo_writeLists 98 = .ok (.getfield 40, 3) := by decide +kernel
theorem d_Mo_writeLists_101 : decode b_Mo_writeLists 101 = .ok (.getfield 182, 3) := by decide +kernel
theorem d_Mo_writeLists_104 : decode b_Mo_writeLists 104 = .ok (.iload_n 1, 1) := by decide +kernel
theorem d_Mo_writeLists_105 : decode b_Mo_writeLists 105 = .ok (.iaload, 1) := by decide +kernel
theorem d_Mo_writeLists_106 : decode b_Mo_writeLists 106 = .ok (.istore 4, 2) := by decide +kernel
theorem d_Mo_writeLists_108 : decode b_Mo_writeLists 108 = .ok (.iload 4, 2) := by decide +kernel
theorem d_Mo_writeLists_110 : decode b_Mo_writeLists 110 = .ok (.aload_n 0, 1) := by decide +kernel
theorem d_Mo_writeLists_111 : decode b_Mo_writeLists 111 = .ok (.getfield 40, 3) := by decide +kernel
theorem d_Mo_writeLists_114 : decode b_Mo_writeLists 114 = .ok (.getfield 182, 3) := by decide +kernel
theorem d_Mo_writeLists_117 : decode b_Mo_writeLists 117 = .ok (.iload_n 1, 1) := by decide +kernel
theorem d_Mo_writeLists_118 : decode b_Mo_writeLists 118 = .ok (.iconst 1, 1) := by decide +kernel
theorem d_Mo_writeLists_119 : decode b_Mo_writeLists 119 = .ok (.iadd, 1) := by decide +kernel
theorem d_Mo_writeLists_120 : decode b_Mo_writeLists 120 = .ok (.iaload, 1) := by decide +kernel
theorem d_Mo_writeLists_121 : decode b_Mo_writeLists 121 = .ok (.if_icmp .ge 29, 3) := by decide +kernel
theorem d_Mo_writeLists_124 : decode b_Mo_writeLists 124 = .ok (.aload_n 0, 1) := by decide +kernel
theorem d_Mo_writeLists_125 : decode b_Mo_writeLists 125 = .ok (.getfield 40, 3) := by decide +kernel
theorem d_Mo_writeLists_128 : decode b_Mo_writeLists 128 = .ok (.getfield 191, 3) := by decide +kernel
theorem d_Mo_writeLists_131 : decode b_Mo_writeLists 131 = .ok (.iload 4, 2) := by decide +kernel
theorem d_Mo_writeLists_133 : decode b_Mo_writeLists 133 = .ok (.aload_n 0, 1) := by decide +kernel
theorem d_Mo_writeLists_134 : decode b_Mo_writeLists 134 = .ok (.getfield 40, 3) := by decide +kernel
theorem d_Mo_writeLists_137 : decode b_Mo_writeLists 137 = .ok (.getfield 188, 3) := by decide +kernel
theorem d_Mo_writeLists_140 : decode b_Mo_writeLists 140 = .ok (.iload 4, 2) := by decide +kernel
theorem d_Mo_writeLists_142 : decode b_Mo_writeLists 142 = .ok (.baload, 1) := by decide +kernel
theorem d_Mo_writeLists_143 : decode b_Mo_writeLists 143 = .ok (.bastore, 1) := by decide +kernel
theorem d_Mo_writeLists_144 : decode b_Mo_writeLists 144 = .ok (.iinc 4 1, 3) := by decide +kernel
theorem d_Mo_writeLists_147 : decode b_Mo_writeLists 147 = .ok (.goto (-39), 3) := by decide +kernel
theorem d_Mo_writeLists_150 : decode b_Mo_writeLists 150 = .ok (.iinc 1 1, 3) := by decide +kernel
theorem d_Mo_writeLists_153 : decode b_Mo_writeLists 153 = .ok (.goto (-151), 3) := by decide +kernel
theorem d_Mo_writeLists_156 : decode b_Mo_writeLists 156 = .ok (.iconst 1, 1) := by decide +kernel
theorem d_Mo_writeLists_157 : decode b_Mo_writeLists 157 = .ok (.ireturn, 1) := by decide +kernel
theorem kc_Mo_writeLists : Cond.code y_Mo_writeLists b_Mo_writeLists 5 (some .boolean) ∈ gx_all := gx_in 1210 (by decide +kernel)
abbrev b_Mo_wrong : ByteArray := prog_9_method_4_code
def y_Mo_wrong : MethodName := ⟨"CommitLedgerModel", "wrong", "(ZI)Z"⟩
theorem d_Mo_wrong_0 : decode b_Mo_wrong 0 = .ok (.iload_n 1, 1) := by decide +kernel
theorem d_Mo_wrong_1 : decode b_Mo_wrong 1 = .ok (.ifCond .eq 15, 3) := by decide +kernel
theorem d_Mo_wrong_4 : decode b_Mo_wrong 4 = .ok (.aload_n 0, 1) := by decide +kernel
theorem d_Mo_wrong_5 : decode b_Mo_wrong 5 = .ok (.getfield 84, 3) := by decide +kernel
theorem d_Mo_wrong_8 : decode b_Mo_wrong 8 = .ok (.ifCond .ne 8, 3) := by decide +kernel
theorem d_Mo_wrong_11 : decode b_Mo_wrong 11 = .ok (.aload_n 0, 1) := by decide +kernel
theorem d_Mo_wrong_12 : decode b_Mo_wrong 12 = .ok (.iload_n 2, 1) := by decide +kernel
theorem d_Mo_wrong_13 : decode b_Mo_wrong 13 = .ok (.putfield 84, 3) := by decide +kernel
theorem d_Mo_wrong_16 : decode b_Mo_wrong 16 = .ok (.aload_n 0, 1) := by decide +kernel
theorem d_Mo_wrong_17 : decode b_Mo_wrong 17 = .ok (.getfield 84, 3) := by decide +kernel
theorem d_Mo_wrong_20 : decode b_Mo_wrong 20 = .ok (.ifCond .eq 7, 3) := by decide +kernel
theorem d_Mo_wrong_23 : decode b_Mo_wrong 23 = .ok (.iconst 1, 1) := by decide +kernel
theorem d_Mo_wrong_24 : decode b_Mo_wrong 24 = .ok (.goto 4, 3) := by decide +kernel
theorem d_Mo_wrong_27 : decode b_Mo_wrong 27 = .ok (.iconst 0, 1) := by decide +kernel
theorem d_Mo_wrong_28 : decode b_Mo_wrong 28 = .ok (.ireturn, 1) := by decide +kernel
theorem kc_Mo_wrong : Cond.code y_Mo_wrong b_Mo_wrong 3 (some .boolean) ∈ gx_all := gx_in 1083 (by decide +kernel)
abbrev b_Ve_init : ByteArray := prog_10_method_1_code
def y_Ve_init : MethodName := ⟨"CommitLedgerModel$Version", "<init>", "()V"⟩
theorem d_Ve_init_0 : decode b_Ve_init 0 = .ok (.aload_n 0, 1) := by decide +kernel
theorem d_Ve_init_1 : decode b_Ve_init 1 = .ok (.invokespecial 3, 3) := by decide +kernel
theorem d_Ve_init_4 : decode b_Ve_init 4 = .ok (.aload_n 0, 1) := by decide +kernel
theorem d_Ve_init_5 : decode b_Ve_init 5 = .ok (.sipush 4097, 3) := by decide +kernel
theorem d_Ve_init_8 : decode b_Ve_init 8 = .ok (.newarray .int, 2) := by decide +kernel
theorem d_Ve_init_10 : decode b_Ve_init 10 = .ok (.putfield 9, 3) := by decide +kernel
theorem d_Ve_init_13 : decode b_Ve_init 13 = .ok (.aload_n 0, 1) := by decide +kernel
theorem d_Ve_init_14 : decode b_Ve_init 14 = .ok (.sipush 4097, 3) := by decide +kernel
theorem d_Ve_init_17 : decode b_Ve_init 17 = .ok (.newarray .int, 2) := by decide +kernel
theorem d_Ve_init_19 : decode b_Ve_init 19 = .ok (.putfield 15, 3) := by decide +kernel
theorem d_Ve_init_22 : decode b_Ve_init 22 = .ok (.aload_n 0, 1) := by decide +kernel
theorem d_Ve_init_23 : decode b_Ve_init 23 = .ok (.sipush 4098, 3) := by decide +kernel
theorem d_Ve_init_26 : decode b_Ve_init 26 = .ok (.newarray .int, 2) := by decide +kernel
theorem d_Ve_init_28 : decode b_Ve_init 28 = .ok (.putfield 18, 3) := by decide +kernel
theorem d_Ve_init_31 : decode b_Ve_init 31 = .ok (.aload_n 0, 1) := by decide +kernel
theorem d_Ve_init_32 : decode b_Ve_init 32 = .ok (.sipush 4097, 3) := by decide +kernel
theorem d_Ve_init_35 : decode b_Ve_init 35 = .ok (.newarray .int, 2) := by decide +kernel
theorem d_Ve_init_37 : decode b_Ve_init 37 = .ok (.putfield 21, 3) := by decide +kernel
theorem d_Ve_init_40 : decode b_Ve_init 40 = .ok (.aload_n 0, 1) := by decide +kernel
theorem d_Ve_init_41 : decode b_Ve_init 41 = .ok (.sipush 4096, 3) := by decide +kernel
theorem d_Ve_init_44 : decode b_Ve_init 44 = .ok (.newarray .int, 2) := by decide +kernel
theorem d_Ve_init_46 : decode b_Ve_init 46 = .ok (.putfield 24, 3) := by decide +kernel
theorem d_Ve_init_49 : decode b_Ve_init 49 = .ok (.aload_n 0, 1) := by decide +kernel
theorem d_Ve_init_50 : decode b_Ve_init 50 = .ok (.sipush 4096, 3) := by decide +kernel
theorem d_Ve_init_53 : decode b_Ve_init 53 = .ok (.newarray .boolean, 2) := by decide +kernel
theorem d_Ve_init_55 : decode b_Ve_init 55 = .ok (.putfield 27, 3) := by decide +kernel
theorem d_Ve_init_58 : decode b_Ve_init 58 = .ok (.aload_n 0, 1) := by decide +kernel
theorem d_Ve_init_59 : decode b_Ve_init 59 = .ok (.sipush 4096, 3) := by decide +kernel
theorem d_Ve_init_62 : decode b_Ve_init 62 = .ok (.newarray .boolean, 2) := by decide +kernel
theorem d_Ve_init_64 : decode b_Ve_init 64 = .ok (.putfield 31, 3) := by decide +kernel
theorem d_Ve_init_67 : decode b_Ve_init 67 = .ok (.return_, 1) := by decide +kernel
theorem kc_Ve_init : Cond.code y_Ve_init b_Ve_init 1 none ∈ gx_all := gx_in 917 (by decide +kernel)
abbrev b_Ve_copy : ByteArray := prog_10_method_2_code
def y_Ve_copy : MethodName := ⟨"CommitLedgerModel$Version", "copy", "(LCommitLedgerModel$Version;)V"⟩
theorem d_Ve_copy_0 : decode b_Ve_copy 0 = .ok (.aload_n 0, 1) := by decide +kernel
theorem d_Ve_copy_1 : decode b_Ve_copy 1 = .ok (.aload_n 1, 1) := by decide +kernel
theorem d_Ve_copy_2 : decode b_Ve_copy 2 = .ok (.getfield 34, 3) := by decide +kernel
theorem d_Ve_copy_5 : decode b_Ve_copy 5 = .ok (.putfield 34, 3) := by decide +kernel
theorem d_Ve_copy_8 : decode b_Ve_copy 8 = .ok (.aload_n 0, 1) := by decide +kernel
theorem d_Ve_copy_9 : decode b_Ve_copy 9 = .ok (.aload_n 1, 1) := by decide +kernel
theorem d_Ve_copy_10 : decode b_Ve_copy 10 = .ok (.getfield 38, 3) := by decide +kernel
theorem d_Ve_copy_13 : decode b_Ve_copy 13 = .ok (.putfield 38, 3) := by decide +kernel
theorem d_Ve_copy_16 : decode b_Ve_copy 16 = .ok (.aload_n 0, 1) := by decide +kernel
theorem d_Ve_copy_17 : decode b_Ve_copy 17 = .ok (.aload_n 1, 1) := by decide +kernel
theorem d_Ve_copy_18 : decode b_Ve_copy 18 = .ok (.getfield 41, 3) := by decide +kernel
theorem d_Ve_copy_21 : decode b_Ve_copy 21 = .ok (.putfield 41, 3) := by decide +kernel
theorem d_Ve_copy_24 : decode b_Ve_copy 24 = .ok (.iconst 0, 1) := by decide +kernel
theorem d_Ve_copy_25 : decode b_Ve_copy 25 = .ok (.istore_n 2, 1) := by decide +kernel
theorem d_Ve_copy_26 : decode b_Ve_copy 26 = .ok (.iload_n 2, 1) := by decide +kernel
theorem d_Ve_copy_27 : decode b_Ve_copy 27 = .ok (.aload_n 0, 1) := by decide +kernel
theorem d_Ve_copy_28 : decode b_Ve_copy 28 = .ok (.getfield 34, 3) := by decide +kernel
theorem d_Ve_copy_31 : decode b_Ve_copy 31 = .ok (.if_icmp .ge 45, 3) := by decide +kernel
theorem d_Ve_copy_34 : decode b_Ve_copy 34 = .ok (.aload_n 0, 1) := by decide +kernel
theorem d_Ve_copy_35 : decode b_Ve_copy 35 = .ok (.getfield 9, 3) := by decide +kernel
theorem d_Ve_copy_38 : decode b_Ve_copy 38 = .ok (.iload_n 2, 1) := by decide +kernel
theorem d_Ve_copy_39 : decode b_Ve_copy 39 = .ok (.aload_n 1, 1) := by decide +kernel
theorem d_Ve_copy_40 : decode b_Ve_copy 40 = .ok (.getfield 9, 3) := by decide +kernel
theorem d_Ve_copy_43 : decode b_Ve_copy 43 = .ok (.iload_n 2, 1) := by decide +kernel
theorem d_Ve_copy_44 : decode b_Ve_copy 44 = .ok (.iaload, 1) := by decide +kernel
theorem d_Ve_copy_45 : decode b_Ve_copy 45 = .ok (.iastore, 1) := by decide +kernel
theorem d_Ve_copy_46 : decode b_Ve_copy 46 = .ok (.aload_n 0, 1) := by decide +kernel
theorem d_Ve_copy_47 : decode b_Ve_copy 47 = .ok (.getfield 15, 3) := by decide +kernel
theorem d_Ve_copy_50 : decode b_Ve_copy 50 = .ok (.iload_n 2, 1) := by decide +kernel
theorem d_Ve_copy_51 : decode b_Ve_copy 51 = .ok (.aload_n 1, 1) := by decide +kernel
theorem d_Ve_copy_52 : decode b_Ve_copy 52 = .ok (.getfield 15, 3) := by decide +kernel
theorem d_Ve_copy_55 : decode b_Ve_copy 55 = .ok (.iload_n 2, 1) := by decide +kernel
theorem d_Ve_copy_56 : decode b_Ve_copy 56 = .ok (.iaload, 1) := by decide +kernel
theorem d_Ve_copy_57 : decode b_Ve_copy 57 = .ok (.iastore, 1) := by decide +kernel
theorem d_Ve_copy_58 : decode b_Ve_copy 58 = .ok (.aload_n 0, 1) := by decide +kernel
theorem d_Ve_copy_59 : decode b_Ve_copy 59 = .ok (.getfield 21, 3) := by decide +kernel
theorem d_Ve_copy_62 : decode b_Ve_copy 62 = .ok (.iload_n 2, 1) := by decide +kernel
theorem d_Ve_copy_63 : decode b_Ve_copy 63 = .ok (.aload_n 1, 1) := by decide +kernel
theorem d_Ve_copy_64 : decode b_Ve_copy 64 = .ok (.getfield 21, 3) := by decide +kernel
theorem d_Ve_copy_67 : decode b_Ve_copy 67 = .ok (.iload_n 2, 1) := by decide +kernel
theorem d_Ve_copy_68 : decode b_Ve_copy 68 = .ok (.iaload, 1) := by decide +kernel
theorem d_Ve_copy_69 : decode b_Ve_copy 69 = .ok (.iastore, 1) := by decide +kernel
theorem d_Ve_copy_70 : decode b_Ve_copy 70 = .ok (.iinc 2 1, 3) := by decide +kernel
theorem d_Ve_copy_73 : decode b_Ve_copy 73 = .ok (.goto (-47), 3) := by decide +kernel
theorem d_Ve_copy_76 : decode b_Ve_copy 76 = .ok (.iconst 0, 1) := by decide +kernel
theorem d_Ve_copy_77 : decode b_Ve_copy 77 = .ok (.istore_n 2, 1) := by decide +kernel
theorem d_Ve_copy_78 : decode b_Ve_copy 78 = .ok (.iload_n 2, 1) := by decide +kernel
theorem d_Ve_copy_79 : decode b_Ve_copy 79 = .ok (.aload_n 0, 1) := by decide +kernel
theorem d_Ve_copy_80 : decode b_Ve_copy 80 = .ok (.getfield 34, 3) := by decide +kernel
theorem d_Ve_copy_83 : decode b_Ve_copy 83 = .ok (.if_icmp .gt 21, 3) := by decide +kernel
theorem d_Ve_copy_86 : decode b_Ve_copy 86 = .ok (.aload_n 0, 1) := by decide +kernel
theorem d_Ve_copy_87 : decode b_Ve_copy 87 = .ok (.getfield 18, 3) := by decide +kernel
theorem d_Ve_copy_90 : decode b_Ve_copy 90 = .ok (.iload_n 2, 1) := by decide +kernel
theorem d_Ve_copy_91 : decode b_Ve_copy 91 = .ok (.aload_n 1, 1) := by decide +kernel
theorem d_Ve_copy_92 : decode b_Ve_copy 92 = .ok (.getfield 18, 3) := by decide +kernel
theorem d_Ve_copy_95 : decode b_Ve_copy 95 = .ok (.iload_n 2, 1) := by decide +kernel
theorem d_Ve_copy_96 : decode b_Ve_copy 96 = .ok (.iaload, 1) := by decide +kernel
theorem d_Ve_copy_97 : decode b_Ve_copy 97 = .ok (.iastore, 1) := by decide +kernel
theorem d_Ve_copy_98 : decode b_Ve_copy 98 = .ok (.iinc 2 1, 3) := by decide +kernel
theorem d_Ve_copy_101 : decode b_Ve_copy 101 = .ok (.goto (-23), 3) := by decide +kernel
theorem d_Ve_copy_104 : decode b_Ve_copy 104 = .ok (.iconst 0, 1) := by decide +kernel
theorem d_Ve_copy_105 : decode b_Ve_copy 105 = .ok (.istore_n 2, 1) := by decide +kernel
theorem d_Ve_copy_106 : decode b_Ve_copy 106 = .ok (.iload_n 2, 1) := by decide +kernel
theorem d_Ve_copy_107 : decode b_Ve_copy 107 = .ok (.aload_n 0, 1) := by decide +kernel
theorem d_Ve_copy_108 : decode b_Ve_copy 108 = .ok (.invokevirtual 44, 3) := by decide +kernel
theorem d_Ve_copy_111 : decode b_Ve_copy 111 = .ok (.if_icmp .ge 45, 3) := by decide +kernel
theorem d_Ve_copy_114 : decode b_Ve_copy 114 = .ok (.aload_n 0, 1) := by decide +kernel
theorem d_Ve_copy_115 : decode b_Ve_copy 115 = .ok (.getfield 24, 3) := by decide +kernel
theorem d_Ve_copy_118 : decode b_Ve_copy 118 = .ok (.iload_n 2, 1) := by decide +kernel
theorem d_Ve_copy_119 : decode b_Ve_copy 119 = .ok (.aload_n 1, 1) := by decide +kernel
theorem d_Ve_copy_120 : decode b_Ve_copy 120 = .ok (.getfield 24, 3) := by decide +kernel
theorem d_Ve_copy_123 : decode b_Ve_copy 123 = .ok (.iload_n 2, 1) := by decide +kernel
theorem d_Ve_copy_124 : decode b_Ve_copy 124 = .ok (.iaload, 1) := by decide +kernel
theorem d_Ve_copy_125 : decode b_Ve_copy 125 = .ok (.iastore, 1) := by decide +kernel
theorem d_Ve_copy_126 : decode b_Ve_copy 126 = .ok (.aload_n 0, 1) := by decide +kernel
theorem d_Ve_copy_127 : decode b_Ve_copy 127 = .ok (.getfield 27, 3) := by decide +kernel
theorem d_Ve_copy_130 : decode b_Ve_copy 130 = .ok (.iload_n 2, 1) := by decide +kernel
theorem d_Ve_copy_131 : decode b_Ve_copy 131 = .ok (.aload_n 1, 1) := by decide +kernel
theorem d_Ve_copy_132 : decode b_Ve_copy 132 = .ok (.getfield 27, 3) := by decide +kernel
theorem d_Ve_copy_135 : decode b_Ve_copy 135 = .ok (.iload_n 2, 1) := by decide +kernel
theorem d_Ve_copy_136 : decode b_Ve_copy 136 = .ok (.baload, 1) := by decide +kernel
theorem d_Ve_copy_137 : decode b_Ve_copy 137 = .ok (.bastore, 1) := by decide +kernel
theorem d_Ve_copy_138 : decode b_Ve_copy 138 = .ok (.aload_n 0, 1) := by decide +kernel
theorem d_Ve_copy_139 : decode b_Ve_copy 139 = .ok (.getfield 31, 3) := by decide +kernel
theorem d_Ve_copy_142 : decode b_Ve_copy 142 = .ok (.iload_n 2, 1) := by decide +kernel
theorem d_Ve_copy_143 : decode b_Ve_copy 143 = .ok (.aload_n 1, 1) := by decide +kernel
theorem d_Ve_copy_144 : decode b_Ve_copy 144 = .ok (.getfield 31, 3) := by decide +kernel
theorem d_Ve_copy_147 : decode b_Ve_copy 147 = .ok (.iload_n 2, 1) := by decide +kernel
theorem d_Ve_copy_148 : decode b_Ve_copy 148 = .ok (.baload, 1) := by decide +kernel
theorem d_Ve_copy_149 : decode b_Ve_copy 149 = .ok (.bastore, 1) := by decide +kernel
theorem d_Ve_copy_150 : decode b_Ve_copy 150 = .ok (.iinc 2 1, 3) := by decide +kernel
theorem d_Ve_copy_153 : decode b_Ve_copy 153 = .ok (.goto (-47), 3) := by decide +kernel
theorem d_Ve_copy_156 : decode b_Ve_copy 156 = .ok (.return_, 1) := by decide +kernel
theorem kc_Ve_copy : Cond.code y_Ve_copy b_Ve_copy 3 none ∈ gx_all := gx_in 1100 (by decide +kernel)
abbrev b_Ve_docs : ByteArray := prog_10_method_3_code
def y_Ve_docs : MethodName := ⟨"CommitLedgerModel$Version", "docs", "()I"⟩
theorem d_Ve_docs_0 : decode b_Ve_docs 0 = .ok (.aload_n 0, 1) := by decide +kernel
theorem d_Ve_docs_1 : decode b_Ve_docs 1 = .ok (.getfield 18, 3) := by decide +kernel
theorem d_Ve_docs_4 : decode b_Ve_docs 4 = .ok (.aload_n 0, 1) := by decide +kernel
theorem d_Ve_docs_5 : decode b_Ve_docs 5 = .ok (.getfield 34, 3) := by decide +kernel
theorem d_Ve_docs_8 : decode b_Ve_docs 8 = .ok (.iaload, 1) := by decide +kernel
theorem d_Ve_docs_9 : decode b_Ve_docs 9 = .ok (.ireturn, 1) := by decide +kernel
theorem kc_Ve_docs : Cond.code y_Ve_docs b_Ve_docs 1 (some .int) ∈ gx_all := gx_in 1104 (by decide +kernel)
abbrev b_Ve_drop : ByteArray := prog_10_method_7_code
def y_Ve_drop : MethodName := ⟨"CommitLedgerModel$Version", "drop", "(I)V"⟩
theorem d_Ve_drop_0 : decode b_Ve_drop 0 = .ok (.aload_n 0, 1) := by decide +kernel
theorem d_Ve_drop_1 : decode b_Ve_drop 1 = .ok (.getfield 18, 3) := by decide +kernel
theorem d_Ve_drop_4 : decode b_Ve_drop 4 = .ok (.iload_n 1, 1) := by decide +kernel
theorem d_Ve_drop_5 : decode b_Ve_drop 5 = .ok (.iconst 1, 1) := by decide +kernel
theorem d_Ve_drop_6 : decode b_Ve_drop 6 = .ok (.iadd, 1) := by decide +kernel
theorem d_Ve_drop_7 : decode b_Ve_drop 7 = .ok (.iaload, 1) := by decide +kernel
theorem d_Ve_drop_8 : decode b_Ve_drop 8 = .ok (.aload_n 0, 1) := by decide +kernel
theorem d_Ve_drop_9 : decode b_Ve_drop 9 = .ok (.getfield 18, 3) := by decide +kernel
theorem d_Ve_drop_12 : decode b_Ve_drop 12 = .ok (.iload_n 1, 1) := by decide +kernel
theorem d_Ve_drop_13 : decode b_Ve_drop 13 = .ok (.iaload, 1) := by decide +kernel
theorem d_Ve_drop_14 : decode b_Ve_drop 14 = .ok (.isub, 1) := by decide +kernel
theorem d_Ve_drop_15 : decode b_Ve_drop 15 = .ok (.istore_n 2, 1) := by decide +kernel
theorem d_Ve_drop_16 : decode b_Ve_drop 16 = .ok (.aload_n 0, 1) := by decide +kernel
theorem d_Ve_drop_17 : decode b_Ve_drop 17 = .ok (.getfield 18, 3) := by decide +kernel
theorem d_Ve_drop_20 : decode b_Ve_drop 20 = .ok (.iload_n 1, 1) := by decide +kernel
theorem d_Ve_drop_21 : decode b_Ve_drop 21 = .ok (.iaload, 1) := by decide +kernel
theorem d_Ve_drop_22 : decode b_Ve_drop 22 = .ok (.istore_n 3, 1) := by decide +kernel
theorem d_Ve_drop_23 : decode b_Ve_drop 23 = .ok (.iload_n 3, 1) := by decide +kernel
theorem d_Ve_drop_24 : decode b_Ve_drop 24 = .ok (.iload_n 2, 1) := by decide +kernel
theorem d_Ve_drop_25 : decode b_Ve_drop 25 = .ok (.iadd, 1) := by decide +kernel
theorem d_Ve_drop_26 : decode b_Ve_drop 26 = .ok (.aload_n 0, 1) := by decide +kernel
theorem d_Ve_drop_27 : decode b_Ve_drop 27 = .ok (.invokevirtual 44, 3) := by decide +kernel
theorem d_Ve_drop_30 : decode b_Ve_drop 30 = .ok (.if_icmp .ge 51, 3) := by decide +kernel
theorem d_Ve_drop_33 : decode b_Ve_drop 33 = .ok (.aload_n 0, 1) := by decide +kernel
theorem d_Ve_drop_34 : decode b_Ve_drop 34 = .ok (.getfield 24, 3) := by decide +kernel
theorem d_Ve_drop_37 : decode b_Ve_drop 37 = .ok (.iload_n 3, 1) := by decide +kernel
theorem d_Ve_drop_38 : decode b_Ve_drop 38 = .ok (.aload_n 0, 1) := by decide +kernel
theorem d_Ve_drop_39 : decode b_Ve_drop 39 = .ok (.getfield 24, 3) := by decide +kernel
theorem d_Ve_drop_42 : decode b_Ve_drop 42 = .ok (.iload_n 3, 1) := by decide +kernel
theorem d_Ve_drop_43 : decode b_Ve_drop 43 = .ok (.iload_n 2, 1) := by decide +kernel
theorem d_Ve_drop_44 : decode b_Ve_drop 44 = .ok (.iadd, 1) := by decide +kernel
theorem d_Ve_drop_45 : decode b_Ve_drop 45 = .ok (.iaload, 1) := by decide +kernel
theorem d_Ve_drop_46 : decode b_Ve_drop 46 = .ok (.iastore, 1) := by decide +kernel
theorem d_Ve_drop_47 : decode b_Ve_drop 47 = .ok (.aload_n 0, 1) := by decide +kernel
theorem d_Ve_drop_48 : decode b_Ve_drop 48 = .ok (.getfield 27, 3) := by decide +kernel
theorem d_Ve_drop_51 : decode b_Ve_drop 51 = .ok (.iload_n 3, 1) := by decide +kernel
theorem d_Ve_drop_52 : decode b_Ve_drop 52 = .ok (.aload_n 0, 1) := by decide +kernel
theorem d_Ve_drop_53 : decode b_Ve_drop 53 = .ok (.getfield 27, 3) := by decide +kernel
theorem d_Ve_drop_56 : decode b_Ve_drop 56 = .ok (.iload_n 3, 1) := by decide +kernel
theorem d_Ve_drop_57 : decode b_Ve_drop 57 = .ok (.iload_n 2, 1) := by decide +kernel
theorem d_Ve_drop_58 : decode b_Ve_drop 58 = .ok (.iadd, 1) := by decide +kernel
theorem d_Ve_drop_59 : decode b_Ve_drop 59 = .ok (.baload, 1) := by decide +kernel
theorem d_Ve_drop_60 : decode b_Ve_drop 60 = .ok (.bastore, 1) := by decide +kernel
theorem d_Ve_drop_61 : decode b_Ve_drop 61 = .ok (.aload_n 0, 1) := by decide +kernel
theorem d_Ve_drop_62 : decode b_Ve_drop 62 = .ok (.getfield 31, 3) := by decide +kernel
theorem d_Ve_drop_65 : decode b_Ve_drop 65 = .ok (.iload_n 3, 1) := by decide +kernel
theorem d_Ve_drop_66 : decode b_Ve_drop 66 = .ok (.aload_n 0, 1) := by decide +kernel
theorem d_Ve_drop_67 : decode b_Ve_drop 67 = .ok (.getfield 31, 3) := by decide +kernel
theorem d_Ve_drop_70 : decode b_Ve_drop 70 = .ok (.iload_n 3, 1) := by decide +kernel
theorem d_Ve_drop_71 : decode b_Ve_drop 71 = .ok (.iload_n 2, 1) := by decide +kernel
theorem d_Ve_drop_72 : decode b_Ve_drop 72 = .ok (.iadd, 1) := by decide +kernel
theorem d_Ve_drop_73 : decode b_Ve_drop 73 = .ok (.baload, 1) := by decide +kernel
theorem d_Ve_drop_74 : decode b_Ve_drop 74 = .ok (.bastore, 1) := by decide +kernel
theorem d_Ve_drop_75 : decode b_Ve_drop 75 = .ok (.iinc 3 1, 3) := by decide +kernel
theorem d_Ve_drop_78 : decode b_Ve_drop 78 = .ok (.goto (-55), 3) := by decide +kernel
theorem d_Ve_drop_81 : decode b_Ve_drop 81 = .ok (.iload_n 1, 1) := by decide +kernel
theorem d_Ve_drop_82 : decode b_Ve_drop 82 = .ok (.istore_n 3, 1) := by decide +kernel
theorem d_Ve_drop_83 : decode b_Ve_drop 83 = .ok (.iload_n 3, 1) := by decide +kernel
theorem d_Ve_drop_84 : decode b_Ve_drop 84 = .ok (.iconst 1, 1) := by decide +kernel
theorem d_Ve_drop_85 : decode b_Ve_drop 85 = .ok (.iadd, 1) := by decide +kernel
theorem d_Ve_drop_86 : decode b_Ve_drop 86 = .ok (.aload_n 0, 1) := by decide +kernel
theorem d_Ve_drop_87 : decode b_Ve_drop 87 = .ok (.getfield 34, 3) := by decide +kernel
theorem d_Ve_drop_90 : decode b_Ve_drop 90 = .ok (.if_icmp .ge 51, 3) := by decide +kernel
theorem d_Ve_drop_93 : decode b_Ve_drop 93 = .ok (.aload_n 0, 1) := by decide +kernel
theorem d_Ve_drop_94 : decode b_Ve_drop 94 = .ok (.getfield 9, 3) := by decide +kernel
theorem d_Ve_drop_97 : decode b_Ve_drop 97 = .ok (.iload_n 3, 1) := by decide +kernel
theorem d_Ve_drop_98 : decode b_Ve_drop 98 = .ok (.aload_n 0, 1) := by decide +kernel
theorem d_Ve_drop_99 : decode b_Ve_drop 99 = .ok (.getfield 9, 3) := by decide +kernel
theorem d_Ve_drop_102 : decode b_Ve_drop 102 = .ok (.iload_n 3, 1) := by decide +kernel
theorem d_Ve_drop_103 : decode b_Ve_drop 103 = .ok (.iconst 1, 1) := by decide +kernel
theorem d_Ve_drop_104 : decode b_Ve_drop 104 = .ok (.iadd, 1) := by decide +kernel
theorem d_Ve_drop_105 : decode b_Ve_drop 105 = .ok (.iaload, 1) := by decide +kernel
theorem d_Ve_drop_106 : decode b_Ve_drop 106 = .ok (.iastore, 1) := by decide +kernel
theorem d_Ve_drop_107 : decode b_Ve_drop 107 = .ok (.aload_n 0, 1) := by decide +kernel
theorem d_Ve_drop_108 : decode b_Ve_drop 108 = .ok (.getfield 15, 3) := by decide +kernel
theorem d_Ve_drop_111 : decode b_Ve_drop 111 = .ok (.iload_n 3, 1) := by decide +kernel
theorem d_Ve_drop_112 : decode b_Ve_drop 112 = .ok (.aload_n 0, 1) := by decide +kernel
theorem d_Ve_drop_113 : decode b_Ve_drop 113 = .ok (.getfield 15, 3) := by decide +kernel
theorem d_Ve_drop_116 : decode b_Ve_drop 116 = .ok (.iload_n 3, 1) := by decide +kernel
theorem d_Ve_drop_117 : decode b_Ve_drop 117 = .ok (.iconst 1, 1) := by decide +kernel
theorem d_Ve_drop_118 : decode b_Ve_drop 118 = .ok (.iadd, 1) := by decide +kernel
theorem d_Ve_drop_119 : decode b_Ve_drop 119 = .ok (.iaload, 1) := by decide +kernel
theorem d_Ve_drop_120 : decode b_Ve_drop 120 = .ok (.iastore, 1) := by decide +kernel
theorem d_Ve_drop_121 : decode b_Ve_drop 121 = .ok (.aload_n 0, 1) := by decide +kernel
theorem d_Ve_drop_122 : decode b_Ve_drop 122 = .ok (.getfield 21, 3) := by decide +kernel
theorem d_Ve_drop_125 : decode b_Ve_drop 125 = .ok (.iload_n 3, 1) := by decide +kernel
theorem d_Ve_drop_126 : decode b_Ve_drop 126 = .ok (.aload_n 0, 1) := by decide +kernel
theorem d_Ve_drop_127 : decode b_Ve_drop 127 = .ok (.getfield 21, 3) := by decide +kernel
theorem d_Ve_drop_130 : decode b_Ve_drop 130 = .ok (.iload_n 3, 1) := by decide +kernel
theorem d_Ve_drop_131 : decode b_Ve_drop 131 = .ok (.iconst 1, 1) := by decide +kernel
theorem d_Ve_drop_132 : decode b_Ve_drop 132 = .ok (.iadd, 1) := by decide +kernel
theorem d_Ve_drop_133 : decode b_Ve_drop 133 = .ok (.iaload, 1) := by decide +kernel
theorem d_Ve_drop_134 : decode b_Ve_drop 134 = .ok (.iastore, 1) := by decide +kernel
theorem d_Ve_drop_135 : decode b_Ve_drop 135 = .ok (.iinc 3 1, 3) := by decide +kernel
theorem d_Ve_drop_138 : decode b_Ve_drop 138 = .ok (.goto (-55), 3) := by decide +kernel
theorem d_Ve_drop_141 : decode b_Ve_drop 141 = .ok (.iload_n 1, 1) := by decide +kernel
theorem d_Ve_drop_142 : decode b_Ve_drop 142 = .ok (.iconst 1, 1) := by decide +kernel
theorem d_Ve_drop_143 : decode b_Ve_drop 143 = .ok (.iadd, 1) := by decide +kernel
theorem d_Ve_drop_144 : decode b_Ve_drop 144 = .ok (.istore_n 3, 1) := by decide +kernel
theorem d_Ve_drop_145 : decode b_Ve_drop 145 = .ok (.iload_n 3, 1) := by decide +kernel
theorem d_Ve_drop_146 : decode b_Ve_drop 146 = .ok (.aload_n 0, 1) := by decide +kernel
theorem d_Ve_drop_147 : decode b_Ve_drop 147 = .ok (.getfield 34, 3) := by decide +kernel
theorem d_Ve_drop_150 : decode b_Ve_drop 150 = .ok (.if_icmp .ge 25, 3) := by decide +kernel
theorem d_Ve_drop_153 : decode b_Ve_drop 153 = .ok (.aload_n 0, 1) := by decide +kernel
theorem d_Ve_drop_154 : decode b_Ve_drop 154 = .ok (.getfield 18, 3) := by decide +kernel
theorem d_Ve_drop_157 : decode b_Ve_drop 157 = .ok (.iload_n 3, 1) := by decide +kernel
theorem d_Ve_drop_158 : decode b_Ve_drop 158 = .ok (.aload_n 0, 1) := by decide +kernel
theorem d_Ve_drop_159 : decode b_Ve_drop 159 = .ok (.getfield 18, 3) := by decide +kernel
theorem d_Ve_drop_162 : decode b_Ve_drop 162 = .ok (.iload_n 3, 1) := by decide +kernel
theorem d_Ve_drop_163 : decode b_Ve_drop 163 = .ok (.iconst 1, 1) := by decide +kernel
theorem d_Ve_drop_164 : decode b_Ve_drop 164 = .ok (.iadd, 1) := by decide +kernel
theorem d_Ve_drop_165 : decode b_Ve_drop 165 = .ok (.iaload, 1) := by decide +kernel
theorem d_Ve_drop_166 : decode b_Ve_drop 166 = .ok (.iload_n 2, 1) := by decide +kernel
theorem d_Ve_drop_167 : decode b_Ve_drop 167 = .ok (.isub, 1) := by decide +kernel
theorem d_Ve_drop_168 : decode b_Ve_drop 168 = .ok (.iastore, 1) := by decide +kernel
theorem d_Ve_drop_169 : decode b_Ve_drop 169 = .ok (.iinc 3 1, 3) := by decide +kernel
theorem d_Ve_drop_172 : decode b_Ve_drop 172 = .ok (.goto (-27), 3) := by decide +kernel
theorem d_Ve_drop_175 : decode b_Ve_drop 175 = .ok (.aload_n 0, 1) := by decide +kernel
theorem d_Ve_drop_176 : decode b_Ve_drop 176 = .ok (.dup, 1) := by decide +kernel
theorem d_Ve_drop_177 : decode b_Ve_drop 177 = .ok (.getfield 34, 3) := by decide +kernel
theorem d_Ve_drop_180 : decode b_Ve_drop 180 = .ok (.iconst 1, 1) := by decide +kernel
theorem d_Ve_drop_181 : decode b_Ve_drop 181 = .ok (.isub, 1) := by decide +kernel
theorem d_Ve_drop_182 : decode b_Ve_drop 182 = .ok (.putfield 34, 3) := by decide +kernel
theorem d_Ve_drop_185 : decode b_Ve_drop 185 = .ok (.return_, 1) := by decide +kernel
theorem kc_Ve_drop : Cond.code y_Ve_drop b_Ve_drop 4 none ∈ gx_all := gx_in 1116 (by decide +kernel)
abbrev b_Ve_live : ByteArray := prog_10_method_5_code
def y_Ve_live : MethodName := ⟨"CommitLedgerModel$Version", "live", "()I"⟩
theorem d_Ve_live_0 : decode b_Ve_live 0 = .ok (.iconst 0, 1) := by decide +kernel
theorem d_Ve_live_1 : decode b_Ve_live 1 = .ok (.istore_n 1, 1) := by decide +kernel
theorem d_Ve_live_2 : decode b_Ve_live 2 = .ok (.iconst 0, 1) := by decide +kernel
theorem d_Ve_live_3 : decode b_Ve_live 3 = .ok (.istore_n 2, 1) := by decide +kernel
theorem d_Ve_live_4 : decode b_Ve_live 4 = .ok (.iload_n 2, 1) := by decide +kernel
theorem d_Ve_live_5 : decode b_Ve_live 5 = .ok (.aload_n 0, 1) := by decide +kernel
theorem d_Ve_live_6 : decode b_Ve_live 6 = .ok (.invokevirtual 44, 3) := by decide +kernel
theorem d_Ve_live_9 : decode b_Ve_live 9 = .ok (.if_icmp .ge 21, 3) := by decide +kernel
theorem d_Ve_live_12 : decode b_Ve_live 12 = .ok (.aload_n 0, 1) := by decide +kernel
theorem d_Ve_live_13 : decode b_Ve_live 13 = .ok (.getfield 27, 3) := by decide +kernel
theorem d_Ve_live_16 : decode b_Ve_live 16 = .ok (.iload_n 2, 1) := by decide +kernel
theorem d_Ve_live_17 : decode b_Ve_live 17 = .ok (.baload, 1) := by decide +kernel
theorem d_Ve_live_18 : decode b_Ve_live 18 = .ok (.ifCond .eq 6, 3) := by decide +kernel
theorem d_Ve_live_21 : decode b_Ve_live 21 = .ok (.iinc 1 1, 3) := by decide +kernel
theorem d_Ve_live_24 : decode b_Ve_live 24 = .ok (.iinc 2 1, 3) := by decide +kernel
theorem d_Ve_live_27 : decode b_Ve_live 27 = .ok (.goto (-23), 3) := by decide +kernel
theorem d_Ve_live_30 : decode b_Ve_live 30 = .ok (.iload_n 1, 1) := by decide +kernel
theorem d_Ve_live_31 : decode b_Ve_live 31 = .ok (.ireturn, 1) := by decide +kernel
theorem kc_Ve_live : Cond.code y_Ve_live b_Ve_live 3 (some .int) ∈ gx_all := gx_in 1284 (by decide +kernel)
