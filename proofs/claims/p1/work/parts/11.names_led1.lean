/-! NAMES: methods and their decode rows, printed by an own text program out of the Statement. -/
abbrev b_Le_countOfWriter : ByteArray := prog_1_method_24_code
def y_Le_countOfWriter : MethodName := ⟨"CommitLedger", "countOfWriter", "(I)I"⟩
theorem d_Le_countOfWriter_0 : decode b_Le_countOfWriter 0 = .ok (.iload_n 1, 1) := by decide +kernel
theorem d_Le_countOfWriter_1 : decode b_Le_countOfWriter 1 = .ok (.iconst 5, 1) := by decide +kernel
theorem d_Le_countOfWriter_2 : decode b_Le_countOfWriter 2 = .ok (.if_icmp .lt 9, 3) := by decide +kernel
theorem d_Le_countOfWriter_5 : decode b_Le_countOfWriter 5 = .ok (.iload_n 1, 1) := by decide +kernel
theorem d_Le_countOfWriter_6 : decode b_Le_countOfWriter 6 = .ok (.bipush 11, 2) := by decide +kernel
theorem d_Le_countOfWriter_8 : decode b_Le_countOfWriter 8 = .ok (.if_icmp .le 5, 3) := by decide +kernel
theorem d_Le_countOfWriter_11 : decode b_Le_countOfWriter 11 = .ok (.iconst (-1), 1) := by decide +kernel
theorem d_Le_countOfWriter_12 : decode b_Le_countOfWriter 12 = .ok (.ireturn, 1) := by decide +kernel
theorem d_Le_countOfWriter_13 : decode b_Le_countOfWriter 13 = .ok (.aload_n 0, 1) := by decide +kernel
theorem d_Le_countOfWriter_14 : decode b_Le_countOfWriter 14 = .ok (.getfield 64, 3) := by decide +kernel
theorem d_Le_countOfWriter_17 : decode b_Le_countOfWriter 17 = .ok (.ifCond .ne 5, 3) := by decide +kernel
theorem d_Le_countOfWriter_20 : decode b_Le_countOfWriter 20 = .ok (.iconst 0, 1) := by decide +kernel
theorem d_Le_countOfWriter_21 : decode b_Le_countOfWriter 21 = .ok (.ireturn, 1) := by decide +kernel
theorem d_Le_countOfWriter_22 : decode b_Le_countOfWriter 22 = .ok (.aload_n 0, 1) := by decide +kernel
theorem d_Le_countOfWriter_23 : decode b_Le_countOfWriter 23 = .ok (.getfield 26, 3) := by decide +kernel
theorem d_Le_countOfWriter_26 : decode b_Le_countOfWriter 26 = .ok (.iconst 0, 1) := by decide +kernel
theorem d_Le_countOfWriter_27 : decode b_Le_countOfWriter 27 = .ok (.aload_n 0, 1) := by decide +kernel
theorem d_Le_countOfWriter_28 : decode b_Le_countOfWriter 28 = .ok (.getfield 10, 3) := by decide +kernel
theorem d_Le_countOfWriter_31 : decode b_Le_countOfWriter 31 = .ok (.getfield 94, 3) := by decide +kernel
theorem d_Le_countOfWriter_34 : decode b_Le_countOfWriter 34 = .ok (.invokevirtual 246, 3) := by decide +kernel
theorem d_Le_countOfWriter_37 : decode b_Le_countOfWriter 37 = .ok (.istore_n 2, 1) := by decide +kernel
theorem d_Le_countOfWriter_38 : decode b_Le_countOfWriter 38 = .ok (.iload_n 1, 1) := by decide +kernel
theorem d_Le_countOfWriter_39 : decode b_Le_countOfWriter 39 = .ok (.tableswitch 80 5 10 #[37, 42, 50, 52, 67, 72], 37) := by decide +kernel
theorem d_Le_countOfWriter_76 : decode b_Le_countOfWriter 76 = .ok (.aload_n 0, 1) := by decide +kernel
theorem d_Le_countOfWriter_77 : decode b_Le_countOfWriter 77 = .ok (.invokevirtual 124, 3) := by decide +kernel
theorem d_Le_countOfWriter_80 : decode b_Le_countOfWriter 80 = .ok (.ireturn, 1) := by decide +kernel
theorem d_Le_countOfWriter_81 : decode b_Le_countOfWriter 81 = .ok (.aload_n 0, 1) := by decide +kernel
theorem d_Le_countOfWriter_82 : decode b_Le_countOfWriter 82 = .ok (.getfield 26, 3) := by decide +kernel
theorem d_Le_countOfWriter_85 : decode b_Le_countOfWriter 85 = .ok (.getfield 109, 3) := by decide +kernel
theorem d_Le_countOfWriter_88 : decode b_Le_countOfWriter 88 = .ok (.ireturn, 1) := by decide +kernel
theorem d_Le_countOfWriter_89 : decode b_Le_countOfWriter 89 = .ok (.iload_n 2, 1) := by decide +kernel
theorem d_Le_countOfWriter_90 : decode b_Le_countOfWriter 90 = .ok (.ireturn, 1) := by decide +kernel
theorem d_Le_countOfWriter_91 : decode b_Le_countOfWriter 91 = .ok (.aload_n 0, 1) := by decide +kernel
theorem d_Le_countOfWriter_92 : decode b_Le_countOfWriter 92 = .ok (.getfield 26, 3) := by decide +kernel
theorem d_Le_countOfWriter_95 : decode b_Le_countOfWriter 95 = .ok (.invokevirtual 249, 3) := by decide +kernel
theorem d_Le_countOfWriter_98 : decode b_Le_countOfWriter 98 = .ok (.aload_n 0, 1) := by decide +kernel
theorem d_Le_countOfWriter_99 : decode b_Le_countOfWriter 99 = .ok (.invokevirtual 124, 3) := by decide +kernel
theorem d_Le_countOfWriter_102 : decode b_Le_countOfWriter 102 = .ok (.iadd, 1) := by decide +kernel
theorem d_Le_countOfWriter_103 : decode b_Le_countOfWriter 103 = .ok (.iload_n 2, 1) := by decide +kernel
theorem d_Le_countOfWriter_104 : decode b_Le_countOfWriter 104 = .ok (.isub, 1) := by decide +kernel
theorem d_Le_countOfWriter_105 : decode b_Le_countOfWriter 105 = .ok (.ireturn, 1) := by decide +kernel
theorem d_Le_countOfWriter_106 : decode b_Le_countOfWriter 106 = .ok (.aload_n 0, 1) := by decide +kernel
theorem d_Le_countOfWriter_107 : decode b_Le_countOfWriter 107 = .ok (.getfield 142, 3) := by decide +kernel
theorem d_Le_countOfWriter_110 : decode b_Le_countOfWriter 110 = .ok (.ireturn, 1) := by decide +kernel
theorem d_Le_countOfWriter_111 : decode b_Le_countOfWriter 111 = .ok (.aload_n 0, 1) := by decide +kernel
theorem d_Le_countOfWriter_112 : decode b_Le_countOfWriter 112 = .ok (.getfield 26, 3) := by decide +kernel
theorem d_Le_countOfWriter_115 : decode b_Le_countOfWriter 115 = .ok (.getfield 131, 3) := by decide +kernel
theorem d_Le_countOfWriter_118 : decode b_Le_countOfWriter 118 = .ok (.ireturn, 1) := by decide +kernel
theorem d_Le_countOfWriter_119 : decode b_Le_countOfWriter 119 = .ok (.aload_n 0, 1) := by decide +kernel
theorem d_Le_countOfWriter_120 : decode b_Le_countOfWriter 120 = .ok (.getfield 178, 3) := by decide +kernel
theorem d_Le_countOfWriter_123 : decode b_Le_countOfWriter 123 = .ok (.ifCond .eq 7, 3) := by decide +kernel
theorem d_Le_countOfWriter_126 : decode b_Le_countOfWriter 126 = .ok (.iconst 1, 1) := by decide +kernel
theorem d_Le_countOfWriter_127 : decode b_Le_countOfWriter 127 = .ok (.goto 4, 3) := by decide +kernel
theorem d_Le_countOfWriter_130 : decode b_Le_countOfWriter 130 = .ok (.iconst 0, 1) := by decide +kernel
theorem d_Le_countOfWriter_131 : decode b_Le_countOfWriter 131 = .ok (.ireturn, 1) := by decide +kernel
theorem kc_Le_countOfWriter : Cond.code y_Le_countOfWriter b_Le_countOfWriter 3 (some .int) ∈ gx_all := gx_in 365 (by decide +kernel)
abbrev b_Le_crash : ByteArray := prog_1_method_14_code
def y_Le_crash : MethodName := ⟨"CommitLedger", "crash", "()V"⟩
theorem d_Le_crash_0 : decode b_Le_crash 0 = .ok (.aload_n 0, 1) := by decide +kernel
theorem d_Le_crash_1 : decode b_Le_crash 1 = .ok (.invokevirtual 188, 3) := by decide +kernel
theorem d_Le_crash_4 : decode b_Le_crash 4 = .ok (.return_, 1) := by decide +kernel
theorem kc_Le_crash : Cond.code y_Le_crash b_Le_crash 1 none ∈ gx_all := gx_in 241 (by decide +kernel)
abbrev b_Le_dropDeadSegments : ByteArray := prog_1_method_35_code
def y_Le_dropDeadSegments : MethodName := ⟨"CommitLedger", "dropDeadSegments", "()V"⟩
theorem d_Le_dropDeadSegments_0 : decode b_Le_dropDeadSegments 0 = .ok (.iconst 0, 1) := by decide +kernel
theorem d_Le_dropDeadSegments_1 : decode b_Le_dropDeadSegments 1 = .ok (.istore_n 1, 1) := by decide +kernel
theorem d_Le_dropDeadSegments_2 : decode b_Le_dropDeadSegments 2 = .ok (.iconst 0, 1) := by decide +kernel
theorem d_Le_dropDeadSegments_3 : decode b_Le_dropDeadSegments 3 = .ok (.istore_n 2, 1) := by decide +kernel
theorem d_Le_dropDeadSegments_4 : decode b_Le_dropDeadSegments 4 = .ok (.iload_n 2, 1) := by decide +kernel
theorem d_Le_dropDeadSegments_5 : decode b_Le_dropDeadSegments 5 = .ok (.aload_n 0, 1) := by decide +kernel
theorem d_Le_dropDeadSegments_6 : decode b_Le_dropDeadSegments 6 = .ok (.getfield 26, 3) := by decide +kernel
theorem d_Le_dropDeadSegments_9 : decode b_Le_dropDeadSegments 9 = .ok (.getfield 109, 3) := by decide +kernel
theorem d_Le_dropDeadSegments_12 : decode b_Le_dropDeadSegments 12 = .ok (.if_icmp .ge 59, 3) := by decide +kernel
theorem d_Le_dropDeadSegments_15 : decode b_Le_dropDeadSegments 15 = .ok (.aload_n 0, 1) := by decide +kernel
theorem d_Le_dropDeadSegments_16 : decode b_Le_dropDeadSegments 16 = .ok (.getfield 26, 3) := by decide +kernel
theorem d_Le_dropDeadSegments_19 : decode b_Le_dropDeadSegments 19 = .ok (.getfield 254, 3) := by decide +kernel
theorem d_Le_dropDeadSegments_22 : decode b_Le_dropDeadSegments 22 = .ok (.iload_n 2, 1) := by decide +kernel
theorem d_Le_dropDeadSegments_23 : decode b_Le_dropDeadSegments 23 = .ok (.aaload, 1) := by decide +kernel
theorem d_Le_dropDeadSegments_24 : decode b_Le_dropDeadSegments 24 = .ok (.astore_n 3, 1) := by decide +kernel
theorem d_Le_dropDeadSegments_25 : decode b_Le_dropDeadSegments 25 = .ok (.aload_n 0, 1) := by decide +kernel
theorem d_Le_dropDeadSegments_26 : decode b_Le_dropDeadSegments 26 = .ok (.getfield 26, 3) := by decide +kernel
theorem d_Le_dropDeadSegments_29 : decode b_Le_dropDeadSegments 29 = .ok (.aload_n 3, 1) := by decide +kernel
theorem d_Le_dropDeadSegments_30 : decode b_Le_dropDeadSegments 30 = .ok (.invokevirtual 261, 3) := by decide +kernel
theorem d_Le_dropDeadSegments_33 : decode b_Le_dropDeadSegments 33 = .ok (.ifCond .gt 11, 3) := by decide +kernel
theorem d_Le_dropDeadSegments_36 : decode b_Le_dropDeadSegments 36 = .ok (.aload_n 0, 1) := by decide +kernel
theorem d_Le_dropDeadSegments_37 : decode b_Le_dropDeadSegments 37 = .ok (.aload_n 3, 1) := by decide +kernel
theorem d_Le_dropDeadSegments_38 : decode b_Le_dropDeadSegments 38 = .ok (.invokevirtual 268, 3) := by decide +kernel
theorem d_Le_dropDeadSegments_41 : decode b_Le_dropDeadSegments 41 = .ok (.ifCond .eq 24, 3) := by decide +kernel
theorem d_Le_dropDeadSegments_44 : decode b_Le_dropDeadSegments 44 = .ok (.aload_n 0, 1) := by decide +kernel
theorem d_Le_dropDeadSegments_45 : decode b_Le_dropDeadSegments 45 = .ok (.getfield 26, 3) := by decide +kernel
theorem d_Le_dropDeadSegments_48 : decode b_Le_dropDeadSegments 48 = .ok (.iload_n 1, 1) := by decide +kernel
theorem d_Le_dropDeadSegments_49 : decode b_Le_dropDeadSegments 49 = .ok (.aload_n 3, 1) := by decide +kernel
theorem d_Le_dropDeadSegments_50 : decode b_Le_dropDeadSegments 50 = .ok (.aload_n 0, 1) := by decide +kernel
theorem d_Le_dropDeadSegments_51 : decode b_Le_dropDeadSegments 51 = .ok (.getfield 26, 3) := by decide +kernel
theorem d_Le_dropDeadSegments_54 : decode b_Le_dropDeadSegments 54 = .ok (.getfield 323, 3) := by decide +kernel
theorem d_Le_dropDeadSegments_57 : decode b_Le_dropDeadSegments 57 = .ok (.iload_n 2, 1) := by decide +kernel
theorem d_Le_dropDeadSegments_58 : decode b_Le_dropDeadSegments 58 = .ok (.aaload, 1) := by decide +kernel
theorem d_Le_dropDeadSegments_59 : decode b_Le_dropDeadSegments 59 = .ok (.invokevirtual 326, 3) := by decide +kernel
theorem d_Le_dropDeadSegments_62 : decode b_Le_dropDeadSegments 62 = .ok (.iinc 1 1, 3) := by decide +kernel
theorem d_Le_dropDeadSegments_65 : decode b_Le_dropDeadSegments 65 = .ok (.iinc 2 1, 3) := by decide +kernel
theorem d_Le_dropDeadSegments_68 : decode b_Le_dropDeadSegments 68 = .ok (.goto (-64), 3) := by decide +kernel
theorem d_Le_dropDeadSegments_71 : decode b_Le_dropDeadSegments 71 = .ok (.aload_n 0, 1) := by decide +kernel
theorem d_Le_dropDeadSegments_72 : decode b_Le_dropDeadSegments 72 = .ok (.getfield 26, 3) := by decide +kernel
theorem d_Le_dropDeadSegments_75 : decode b_Le_dropDeadSegments 75 = .ok (.iload_n 1, 1) := by decide +kernel
theorem d_Le_dropDeadSegments_76 : decode b_Le_dropDeadSegments 76 = .ok (.putfield 109, 3) := by decide +kernel
theorem d_Le_dropDeadSegments_79 : decode b_Le_dropDeadSegments 79 = .ok (.return_, 1) := by decide +kernel
theorem kc_Le_dropDeadSegments : Cond.code y_Le_dropDeadSegments b_Le_dropDeadSegments 4 none ∈ gx_all := gx_in 513 (by decide +kernel)
abbrev b_Le_dropUnneededFiles : ByteArray := prog_1_method_52_code
def y_Le_dropUnneededFiles : MethodName := ⟨"CommitLedger", "dropUnneededFiles", "()V"⟩
theorem d_Le_dropUnneededFiles_0 : decode b_Le_dropUnneededFiles 0 = .ok (.aload_n 0, 1) := by decide +kernel
theorem d_Le_dropUnneededFiles_1 : decode b_Le_dropUnneededFiles 1 = .ok (.getfield 19, 3) := by decide +kernel
theorem d_Le_dropUnneededFiles_4 : decode b_Le_dropUnneededFiles 4 = .ok (.getfield 100, 3) := by decide +kernel
theorem d_Le_dropUnneededFiles_7 : decode b_Le_dropUnneededFiles 7 = .ok (.ifCond .eq 4, 3) := by decide +kernel
theorem d_Le_dropUnneededFiles_10 : decode b_Le_dropUnneededFiles 10 = .ok (.return_, 1) := by decide +kernel
theorem d_Le_dropUnneededFiles_11 : decode b_Le_dropUnneededFiles 11 = .ok (.aload_n 0, 1) := by decide +kernel
theorem d_Le_dropUnneededFiles_12 : decode b_Le_dropUnneededFiles 12 = .ok (.getfield 19, 3) := by decide +kernel
theorem d_Le_dropUnneededFiles_15 : decode b_Le_dropUnneededFiles 15 = .ok (.invokevirtual 379, 3) := by decide +kernel
theorem d_Le_dropUnneededFiles_18 : decode b_Le_dropUnneededFiles 18 = .ok (.aload_n 0, 1) := by decide +kernel
theorem d_Le_dropUnneededFiles_19 : decode b_Le_dropUnneededFiles 19 = .ok (.getfield 84, 3) := by decide +kernel
theorem d_Le_dropUnneededFiles_22 : decode b_Le_dropUnneededFiles 22 = .ok (.ifCond .le 17, 3) := by decide +kernel
theorem d_Le_dropUnneededFiles_25 : decode b_Le_dropUnneededFiles 25 = .ok (.aload_n 0, 1) := by decide +kernel
theorem d_Le_dropUnneededFiles_26 : decode b_Le_dropUnneededFiles 26 = .ok (.getfield 30, 3) := by decide +kernel
theorem d_Le_dropUnneededFiles_29 : decode b_Le_dropUnneededFiles 29 = .ok (.invokevirtual 382, 3) := by decide +kernel
theorem d_Le_dropUnneededFiles_32 : decode b_Le_dropUnneededFiles 32 = .ok (.aload_n 0, 1) := by decide +kernel
theorem d_Le_dropUnneededFiles_33 : decode b_Le_dropUnneededFiles 33 = .ok (.getfield 30, 3) := by decide +kernel
theorem d_Le_dropUnneededFiles_36 : decode b_Le_dropUnneededFiles 36 = .ok (.invokevirtual 385, 3) := by decide +kernel
theorem d_Le_dropUnneededFiles_39 : decode b_Le_dropUnneededFiles 39 = .ok (.aload_n 0, 1) := by decide +kernel
theorem d_Le_dropUnneededFiles_40 : decode b_Le_dropUnneededFiles 40 = .ok (.getfield 178, 3) := by decide +kernel
theorem d_Le_dropUnneededFiles_43 : decode b_Le_dropUnneededFiles 43 = .ok (.ifCond .eq 17, 3) := by decide +kernel
theorem d_Le_dropUnneededFiles_46 : decode b_Le_dropUnneededFiles 46 = .ok (.aload_n 0, 1) := by decide +kernel
theorem d_Le_dropUnneededFiles_47 : decode b_Le_dropUnneededFiles 47 = .ok (.getfield 33, 3) := by decide +kernel
theorem d_Le_dropUnneededFiles_50 : decode b_Le_dropUnneededFiles 50 = .ok (.invokevirtual 382, 3) := by decide +kernel
theorem d_Le_dropUnneededFiles_53 : decode b_Le_dropUnneededFiles 53 = .ok (.aload_n 0, 1) := by decide +kernel
theorem d_Le_dropUnneededFiles_54 : decode b_Le_dropUnneededFiles 54 = .ok (.getfield 33, 3) := by decide +kernel
theorem d_Le_dropUnneededFiles_57 : decode b_Le_dropUnneededFiles 57 = .ok (.invokevirtual 385, 3) := by decide +kernel
theorem d_Le_dropUnneededFiles_60 : decode b_Le_dropUnneededFiles 60 = .ok (.aload_n 0, 1) := by decide +kernel
theorem d_Le_dropUnneededFiles_61 : decode b_Le_dropUnneededFiles 61 = .ok (.getfield 64, 3) := by decide +kernel
theorem d_Le_dropUnneededFiles_64 : decode b_Le_dropUnneededFiles 64 = .ok (.ifCond .eq 17, 3) := by decide +kernel
theorem d_Le_dropUnneededFiles_67 : decode b_Le_dropUnneededFiles 67 = .ok (.aload_n 0, 1) := by decide +kernel
theorem d_Le_dropUnneededFiles_68 : decode b_Le_dropUnneededFiles 68 = .ok (.getfield 26, 3) := by decide +kernel
theorem d_Le_dropUnneededFiles_71 : decode b_Le_dropUnneededFiles 71 = .ok (.invokevirtual 382, 3) := by decide +kernel
theorem d_Le_dropUnneededFiles_74 : decode b_Le_dropUnneededFiles 74 = .ok (.aload_n 0, 1) := by decide +kernel
theorem d_Le_dropUnneededFiles_75 : decode b_Le_dropUnneededFiles 75 = .ok (.getfield 26, 3) := by decide +kernel
theorem d_Le_dropUnneededFiles_78 : decode b_Le_dropUnneededFiles 78 = .ok (.invokevirtual 385, 3) := by decide +kernel
theorem d_Le_dropUnneededFiles_81 : decode b_Le_dropUnneededFiles 81 = .ok (.iconst 0, 1) := by decide +kernel
theorem d_Le_dropUnneededFiles_82 : decode b_Le_dropUnneededFiles 82 = .ok (.istore_n 1, 1) := by decide +kernel
theorem d_Le_dropUnneededFiles_83 : decode b_Le_dropUnneededFiles 83 = .ok (.iload_n 1, 1) := by decide +kernel
theorem d_Le_dropUnneededFiles_84 : decode b_Le_dropUnneededFiles 84 = .ok (.aload_n 0, 1) := by decide +kernel
theorem d_Le_dropUnneededFiles_85 : decode b_Le_dropUnneededFiles 85 = .ok (.getfield 142, 3) := by decide +kernel
theorem d_Le_dropUnneededFiles_88 : decode b_Le_dropUnneededFiles 88 = .ok (.if_icmp .ge 21, 3) := by decide +kernel
theorem d_Le_dropUnneededFiles_91 : decode b_Le_dropUnneededFiles 91 = .ok (.aload_n 0, 1) := by decide +kernel
theorem d_Le_dropUnneededFiles_92 : decode b_Le_dropUnneededFiles 92 = .ok (.getfield 38, 3) := by decide +kernel
theorem d_Le_dropUnneededFiles_95 : decode b_Le_dropUnneededFiles 95 = .ok (.iload_n 1, 1) := by decide +kernel
theorem d_Le_dropUnneededFiles_96 : decode b_Le_dropUnneededFiles 96 = .ok (.aaload, 1) := by decide +kernel
theorem d_Le_dropUnneededFiles_97 : decode b_Le_dropUnneededFiles 97 = .ok (.getfield 388, 3) := by decide +kernel
theorem d_Le_dropUnneededFiles_100 : decode b_Le_dropUnneededFiles 100 = .ok (.invokestatic 391, 3) := by decide +kernel
theorem d_Le_dropUnneededFiles_103 : decode b_Le_dropUnneededFiles 103 = .ok (.iinc 1 1, 3) := by decide +kernel
theorem d_Le_dropUnneededFiles_106 : decode b_Le_dropUnneededFiles 106 = .ok (.goto (-23), 3) := by decide +kernel
theorem d_Le_dropUnneededFiles_109 : decode b_Le_dropUnneededFiles 109 = .ok (.iconst 0, 1) := by decide +kernel
theorem d_Le_dropUnneededFiles_110 : decode b_Le_dropUnneededFiles 110 = .ok (.istore_n 1, 1) := by decide +kernel
theorem d_Le_dropUnneededFiles_111 : decode b_Le_dropUnneededFiles 111 = .ok (.iload_n 1, 1) := by decide +kernel
theorem d_Le_dropUnneededFiles_112 : decode b_Le_dropUnneededFiles 112 = .ok (.iconst 4, 1) := by decide +kernel
theorem d_Le_dropUnneededFiles_113 : decode b_Le_dropUnneededFiles 113 = .ok (.if_icmp .ge 33, 3) := by decide +kernel
theorem d_Le_dropUnneededFiles_116 : decode b_Le_dropUnneededFiles 116 = .ok (.aload_n 0, 1) := by decide +kernel
theorem d_Le_dropUnneededFiles_117 : decode b_Le_dropUnneededFiles 117 = .ok (.getfield 45, 3) := by decide +kernel
theorem d_Le_dropUnneededFiles_120 : decode b_Le_dropUnneededFiles 120 = .ok (.iload_n 1, 1) := by decide +kernel
theorem d_Le_dropUnneededFiles_121 : decode b_Le_dropUnneededFiles 121 = .ok (.aaload, 1) := by decide +kernel
theorem d_Le_dropUnneededFiles_122 : decode b_Le_dropUnneededFiles 122 = .ok (.getfield 230, 3) := by decide +kernel
theorem d_Le_dropUnneededFiles_125 : decode b_Le_dropUnneededFiles 125 = .ok (.ifCond .eq 15, 3) := by decide +kernel
theorem d_Le_dropUnneededFiles_128 : decode b_Le_dropUnneededFiles 128 = .ok (.aload_n 0, 1) := by decide +kernel
theorem d_Le_dropUnneededFiles_129 : decode b_Le_dropUnneededFiles 129 = .ok (.getfield 45, 3) := by decide +kernel
theorem d_Le_dropUnneededFiles_132 : decode b_Le_dropUnneededFiles 132 = .ok (.iload_n 1, 1) := by decide +kernel
theorem d_Le_dropUnneededFiles_133 : decode b_Le_dropUnneededFiles 133 = .ok (.aaload, 1) := by decide +kernel
theorem d_Le_dropUnneededFiles_134 : decode b_Le_dropUnneededFiles 134 = .ok (.getfield 233, 3) := by decide +kernel
theorem d_Le_dropUnneededFiles_137 : decode b_Le_dropUnneededFiles 137 = .ok (.invokevirtual 382, 3) := by decide +kernel
theorem d_Le_dropUnneededFiles_140 : decode b_Le_dropUnneededFiles 140 = .ok (.iinc 1 1, 3) := by decide +kernel
theorem d_Le_dropUnneededFiles_143 : decode b_Le_dropUnneededFiles 143 = .ok (.goto (-32), 3) := by decide +kernel
theorem d_Le_dropUnneededFiles_146 : decode b_Le_dropUnneededFiles 146 = .ok (.aload_n 0, 1) := by decide +kernel
theorem d_Le_dropUnneededFiles_147 : decode b_Le_dropUnneededFiles 147 = .ok (.getfield 19, 3) := by decide +kernel
theorem d_Le_dropUnneededFiles_150 : decode b_Le_dropUnneededFiles 150 = .ok (.invokevirtual 305, 3) := by decide +kernel
theorem d_Le_dropUnneededFiles_153 : decode b_Le_dropUnneededFiles 153 = .ok (.return_, 1) := by decide +kernel
theorem kc_Le_dropUnneededFiles : Cond.code y_Le_dropUnneededFiles b_Le_dropUnneededFiles 2 none ∈ gx_all := gx_in 534 (by decide +kernel)
abbrev b_Le_endMerge : ByteArray := prog_1_method_42_code
def y_Le_endMerge : MethodName := ⟨"CommitLedger", "endMerge", "(IZ)V"⟩
theorem d_Le_endMerge_0 : decode b_Le_endMerge 0 = .ok (.aload_n 0, 1) := by decide +kernel
theorem d_Le_endMerge_1 : decode b_Le_endMerge 1 = .ok (.getfield 38, 3) := by decide +kernel
theorem d_Le_endMerge_4 : decode b_Le_endMerge 4 = .ok (.iload_n 1, 1) := by decide +kernel
theorem d_Le_endMerge_5 : decode b_Le_endMerge 5 = .ok (.aaload, 1) := by decide +kernel
theorem d_Le_endMerge_6 : decode b_Le_endMerge 6 = .ok (.astore_n 3, 1) := by decide +kernel
theorem d_Le_endMerge_7 : decode b_Le_endMerge 7 = .ok (.iload_n 2, 1) := by decide +kernel
theorem d_Le_endMerge_8 : decode b_Le_endMerge 8 = .ok (.ifCond .eq 11, 3) := by decide +kernel
theorem d_Le_endMerge_11 : decode b_Le_endMerge 11 = .ok (.aload_n 0, 1) := by decide +kernel
theorem d_Le_endMerge_12 : decode b_Le_endMerge 12 = .ok (.getfield 26, 3) := by decide +kernel
theorem d_Le_endMerge_15 : decode b_Le_endMerge 15 = .ok (.aload_n 3, 1) := by decide +kernel
theorem d_Le_endMerge_16 : decode b_Le_endMerge 16 = .ok (.invokevirtual 345, 3) := by decide +kernel
theorem d_Le_endMerge_19 : decode b_Le_endMerge 19 = .ok (.iload_n 1, 1) := by decide +kernel
theorem d_Le_endMerge_20 : decode b_Le_endMerge 20 = .ok (.istore 4, 2) := by decide +kernel
theorem d_Le_endMerge_22 : decode b_Le_endMerge 22 = .ok (.iload 4, 2) := by decide +kernel
theorem d_Le_endMerge_24 : decode b_Le_endMerge 24 = .ok (.aload_n 0, 1) := by decide +kernel
theorem d_Le_endMerge_25 : decode b_Le_endMerge 25 = .ok (.getfield 142, 3) := by decide +kernel
theorem d_Le_endMerge_28 : decode b_Le_endMerge 28 = .ok (.iconst 1, 1) := by decide +kernel
theorem d_Le_endMerge_29 : decode b_Le_endMerge 29 = .ok (.isub, 1) := by decide +kernel
theorem d_Le_endMerge_30 : decode b_Le_endMerge 30 = .ok (.if_icmp .ge 25, 3) := by decide +kernel
theorem d_Le_endMerge_33 : decode b_Le_endMerge 33 = .ok (.aload_n 0, 1) := by decide +kernel
theorem d_Le_endMerge_34 : decode b_Le_endMerge 34 = .ok (.getfield 38, 3) := by decide +kernel
theorem d_Le_endMerge_37 : decode b_Le_endMerge 37 = .ok (.iload 4, 2) := by decide +kernel
theorem d_Le_endMerge_39 : decode b_Le_endMerge 39 = .ok (.aload_n 0, 1) := by decide +kernel
theorem d_Le_endMerge_40 : decode b_Le_endMerge 40 = .ok (.getfield 38, 3) := by decide +kernel
theorem d_Le_endMerge_43 : decode b_Le_endMerge 43 = .ok (.iload 4, 2) := by decide +kernel
theorem d_Le_endMerge_45 : decode b_Le_endMerge 45 = .ok (.iconst 1, 1) := by decide +kernel
theorem d_Le_endMerge_46 : decode b_Le_endMerge 46 = .ok (.iadd, 1) := by decide +kernel
theorem d_Le_endMerge_47 : decode b_Le_endMerge 47 = .ok (.aaload, 1) := by decide +kernel
theorem d_Le_endMerge_48 : decode b_Le_endMerge 48 = .ok (.aastore, 1) := by decide +kernel
theorem d_Le_endMerge_49 : decode b_Le_endMerge 49 = .ok (.iinc 4 1, 3) := by decide +kernel
theorem d_Le_endMerge_52 : decode b_Le_endMerge 52 = .ok (.goto (-30), 3) := by decide +kernel
theorem d_Le_endMerge_55 : decode b_Le_endMerge 55 = .ok (.aload_n 0, 1) := by decide +kernel
theorem d_Le_endMerge_56 : decode b_Le_endMerge 56 = .ok (.getfield 38, 3) := by decide +kernel
theorem d_Le_endMerge_59 : decode b_Le_endMerge 59 = .ok (.aload_n 0, 1) := by decide +kernel
theorem d_Le_endMerge_60 : decode b_Le_endMerge 60 = .ok (.getfield 142, 3) := by decide +kernel
theorem d_Le_endMerge_63 : decode b_Le_endMerge 63 = .ok (.iconst 1, 1) := by decide +kernel
theorem d_Le_endMerge_64 : decode b_Le_endMerge 64 = .ok (.isub, 1) := by decide +kernel
theorem d_Le_endMerge_65 : decode b_Le_endMerge 65 = .ok (.aload_n 3, 1) := by decide +kernel
theorem d_Le_endMerge_66 : decode b_Le_endMerge 66 = .ok (.aastore, 1) := by decide +kernel
theorem d_Le_endMerge_67 : decode b_Le_endMerge 67 = .ok (.aload_n 0, 1) := by decide +kernel
theorem d_Le_endMerge_68 : decode b_Le_endMerge 68 = .ok (.dup, 1) := by decide +kernel
theorem d_Le_endMerge_69 : decode b_Le_endMerge 69 = .ok (.getfield 142, 3) := by decide +kernel
theorem d_Le_endMerge_72 : decode b_Le_endMerge 72 = .ok (.iconst 1, 1) := by decide +kernel
theorem d_Le_endMerge_73 : decode b_Le_endMerge 73 = .ok (.isub, 1) := by decide +kernel
theorem d_Le_endMerge_74 : decode b_Le_endMerge 74 = .ok (.putfield 142, 3) := by decide +kernel
theorem d_Le_endMerge_77 : decode b_Le_endMerge 77 = .ok (.aload_n 0, 1) := by decide +kernel
theorem d_Le_endMerge_78 : decode b_Le_endMerge 78 = .ok (.invokevirtual 103, 3) := by decide +kernel
theorem d_Le_endMerge_81 : decode b_Le_endMerge 81 = .ok (.aload_n 0, 1) := by decide +kernel
theorem d_Le_endMerge_82 : decode b_Le_endMerge 82 = .ok (.invokevirtual 106, 3) := by decide +kernel
theorem d_Le_endMerge_85 : decode b_Le_endMerge 85 = .ok (.return_, 1) := by decide +kernel
theorem kc_Le_endMerge : Cond.code y_Le_endMerge b_Le_endMerge 5 none ∈ gx_all := gx_in 749 (by decide +kernel)
abbrev b_Le_erase : ByteArray := prog_1_method_5_code
def y_Le_erase : MethodName := ⟨"CommitLedger", "erase", "(I)I"⟩
theorem d_Le_erase_0 : decode b_Le_erase 0 = .ok (.aload_n 0, 1) := by decide +kernel
theorem d_Le_erase_1 : decode b_Le_erase 1 = .ok (.invokevirtual 112, 3) := by decide +kernel
theorem d_Le_erase_4 : decode b_Le_erase 4 = .ok (.iconst 0, 1) := by decide +kernel
theorem d_Le_erase_5 : decode b_Le_erase 5 = .ok (.istore_n 2, 1) := by decide +kernel
theorem d_Le_erase_6 : decode b_Le_erase 6 = .ok (.iconst 0, 1) := by decide +kernel
theorem d_Le_erase_7 : decode b_Le_erase 7 = .ok (.istore_n 3, 1) := by decide +kernel
theorem d_Le_erase_8 : decode b_Le_erase 8 = .ok (.iload_n 3, 1) := by decide +kernel
theorem d_Le_erase_9 : decode b_Le_erase 9 = .ok (.aload_n 0, 1) := by decide +kernel
theorem d_Le_erase_10 : decode b_Le_erase 10 = .ok (.getfield 10, 3) := by decide +kernel
theorem d_Le_erase_13 : decode b_Le_erase 13 = .ok (.getfield 94, 3) := by decide +kernel
theorem d_Le_erase_16 : decode b_Le_erase 16 = .ok (.if_icmp .ge 47, 3) := by decide +kernel
theorem d_Le_erase_19 : decode b_Le_erase 19 = .ok (.aload_n 0, 1) := by decide +kernel
theorem d_Le_erase_20 : decode b_Le_erase 20 = .ok (.getfield 26, 3) := by decide +kernel
theorem d_Le_erase_23 : decode b_Le_erase 23 = .ok (.getfield 134, 3) := by decide +kernel
theorem d_Le_erase_26 : decode b_Le_erase 26 = .ok (.iload_n 3, 1) := by decide +kernel
theorem d_Le_erase_27 : decode b_Le_erase 27 = .ok (.baload, 1) := by decide +kernel
theorem d_Le_erase_28 : decode b_Le_erase 28 = .ok (.ifCond .eq 29, 3) := by decide +kernel
theorem d_Le_erase_31 : decode b_Le_erase 31 = .ok (.aload_n 0, 1) := by decide +kernel
theorem d_Le_erase_32 : decode b_Le_erase 32 = .ok (.getfield 10, 3) := by decide +kernel
theorem d_Le_erase_35 : decode b_Le_erase 35 = .ok (.getfield 138, 3) := by decide +kernel
theorem d_Le_erase_38 : decode b_Le_erase 38 = .ok (.iload_n 3, 1) := by decide +kernel
theorem d_Le_erase_39 : decode b_Le_erase 39 = .ok (.iaload, 1) := by decide +kernel
theorem d_Le_erase_40 : decode b_Le_erase 40 = .ok (.iload_n 1, 1) := by decide +kernel
theorem d_Le_erase_41 : decode b_Le_erase 41 = .ok (.if_icmp .ne 16, 3) := by decide +kernel
theorem d_Le_erase_44 : decode b_Le_erase 44 = .ok (.aload_n 0, 1) := by decide +kernel
theorem d_Le_erase_45 : decode b_Le_erase 45 = .ok (.getfield 26, 3) := by decide +kernel
theorem d_Le_erase_48 : decode b_Le_erase 48 = .ok (.getfield 134, 3) := by decide +kernel
theorem d_Le_erase_51 : decode b_Le_erase 51 = .ok (.iload_n 3, 1) := by decide +kernel
theorem d_Le_erase_52 : decode b_Le_erase 52 = .ok (.iconst 0, 1) := by decide +kernel
theorem d_Le_erase_53 : decode b_Le_erase 53 = .ok (.bastore, 1) := by decide +kernel
theorem d_Le_erase_54 : decode b_Le_erase 54 = .ok (.iinc 2 1, 3) := by decide +kernel
theorem d_Le_erase_57 : decode b_Le_erase 57 = .ok (.iinc 3 1, 3) := by decide +kernel
theorem d_Le_erase_60 : decode b_Le_erase 60 = .ok (.goto (-52), 3) := by decide +kernel
theorem d_Le_erase_63 : decode b_Le_erase 63 = .ok (.iload_n 2, 1) := by decide +kernel
theorem d_Le_erase_64 : decode b_Le_erase 64 = .ok (.ifCond .le 11, 3) := by decide +kernel
theorem d_Le_erase_67 : decode b_Le_erase 67 = .ok (.aload_n 0, 1) := by decide +kernel
theorem d_Le_erase_68 : decode b_Le_erase 68 = .ok (.invokevirtual 103, 3) := by decide +kernel
theorem d_Le_erase_71 : decode b_Le_erase 71 = .ok (.aload_n 0, 1) := by decide +kernel
theorem d_Le_erase_72 : decode b_Le_erase 72 = .ok (.invokevirtual 106, 3) := by decide +kernel
theorem d_Le_erase_75 : decode b_Le_erase 75 = .ok (.iload_n 2, 1) := by decide +kernel
theorem d_Le_erase_76 : decode b_Le_erase 76 = .ok (.ireturn, 1) := by decide +kernel
theorem kc_Le_erase : Cond.code y_Le_erase b_Le_erase 4 (some .int) ∈ gx_all := gx_in 677 (by decide +kernel)
abbrev b_Le_finish : ByteArray := prog_1_method_8_code
def y_Le_finish : MethodName := ⟨"CommitLedger", "finish", "(IZ)I"⟩
theorem d_Le_finish_0 : decode b_Le_finish 0 = .ok (.aload_n 0, 1) := by decide +kernel
theorem d_Le_finish_1 : decode b_Le_finish 1 = .ok (.invokevirtual 112, 3) := by decide +kernel
theorem d_Le_finish_4 : decode b_Le_finish 4 = .ok (.aload_n 0, 1) := by decide +kernel
theorem d_Le_finish_5 : decode b_Le_finish 5 = .ok (.iload_n 1, 1) := by decide +kernel
theorem d_Le_finish_6 : decode b_Le_finish 6 = .ok (.invokevirtual 162, 3) := by decide +kernel
theorem d_Le_finish_9 : decode b_Le_finish 9 = .ok (.istore_n 3, 1) := by decide +kernel
theorem d_Le_finish_10 : decode b_Le_finish 10 = .ok (.iload_n 3, 1) := by decide +kernel
theorem d_Le_finish_11 : decode b_Le_finish 11 = .ok (.ifCond .ge 13, 3) := by decide +kernel
theorem d_Le_finish_14 : decode b_Le_finish 14 = .ok (.new 150, 3) := by decide +kernel
theorem d_Le_finish_17 : decode b_Le_finish 17 = .ok (.dup, 1) := by decide +kernel
theorem d_Le_finish_18 : decode b_Le_finish 18 = .ok (.ldc 166, 2) := by decide +kernel
theorem d_Le_finish_20 : decode b_Le_finish 20 = .ok (.invokespecial 154, 3) := by decide +kernel
theorem d_Le_finish_23 : decode b_Le_finish 23 = .ok (.athrow, 1) := by decide +kernel
theorem d_Le_finish_24 : decode b_Le_finish 24 = .ok (.aload_n 0, 1) := by decide +kernel
theorem d_Le_finish_25 : decode b_Le_finish 25 = .ok (.iload_n 3, 1) := by decide +kernel
theorem d_Le_finish_26 : decode b_Le_finish 26 = .ok (.iload_n 2, 1) := by decide +kernel
theorem d_Le_finish_27 : decode b_Le_finish 27 = .ok (.invokevirtual 168, 3) := by decide +kernel
theorem d_Le_finish_30 : decode b_Le_finish 30 = .ok (.aload_n 0, 1) := by decide +kernel
theorem d_Le_finish_31 : decode b_Le_finish 31 = .ok (.getfield 26, 3) := by decide +kernel
theorem d_Le_finish_34 : decode b_Le_finish 34 = .ok (.getfield 109, 3) := by decide +kernel
theorem d_Le_finish_37 : decode b_Le_finish 37 = .ok (.ireturn, 1) := by decide +kernel
theorem kc_Le_finish : Cond.code y_Le_finish b_Le_finish 4 (some .int) ∈ gx_all := gx_in 740 (by decide +kernel)
abbrev b_Le_firstByPolicy : ByteArray := prog_1_method_40_code
def y_Le_firstByPolicy : MethodName := ⟨"CommitLedger", "firstByPolicy", "()I"⟩
theorem d_Le_firstByPolicy_0 : decode b_Le_firstByPolicy 0 = .ok (.iconst 0, 1) := by decide +kernel
theorem d_Le_firstByPolicy_1 : decode b_Le_firstByPolicy 1 = .ok (.istore_n 1, 1) := by decide +kernel
theorem d_Le_firstByPolicy_2 : decode b_Le_firstByPolicy 2 = .ok (.iload_n 1, 1) := by decide +kernel
theorem d_Le_firstByPolicy_3 : decode b_Le_firstByPolicy 3 = .ok (.bipush 12, 2) := by decide +kernel
theorem d_Le_firstByPolicy_5 : decode b_Le_firstByPolicy 5 = .ok (.if_icmp .gt 97, 3) := by decide +kernel
theorem d_Le_firstByPolicy_8 : decode b_Le_firstByPolicy 8 = .ok (.iconst 0, 1) := by decide +kernel
theorem d_Le_firstByPolicy_9 : decode b_Le_firstByPolicy 9 = .ok (.istore_n 2, 1) := by decide +kernel
theorem d_Le_firstByPolicy_10 : decode b_Le_firstByPolicy 10 = .ok (.iconst 0, 1) := by decide +kernel
theorem d_Le_firstByPolicy_11 : decode b_Le_firstByPolicy 11 = .ok (.istore_n 3, 1) := by decide +kernel
theorem d_Le_firstByPolicy_12 : decode b_Le_firstByPolicy 12 = .ok (.iload_n 3, 1) := by decide +kernel
theorem d_Le_firstByPolicy_13 : decode b_Le_firstByPolicy 13 = .ok (.aload_n 0, 1) := by decide +kernel
theorem d_Le_firstByPolicy_14 : decode b_Le_firstByPolicy 14 = .ok (.getfield 26, 3) := by decide +kernel
theorem d_Le_firstByPolicy_17 : decode b_Le_firstByPolicy 17 = .ok (.getfield 109, 3) := by decide +kernel
theorem d_Le_firstByPolicy_20 : decode b_Le_firstByPolicy 20 = .ok (.if_icmp .ge 76, 3) := by decide +kernel
theorem d_Le_firstByPolicy_23 : decode b_Le_firstByPolicy 23 = .ok (.aload_n 0, 1) := by decide +kernel
theorem d_Le_firstByPolicy_24 : decode b_Le_firstByPolicy 24 = .ok (.getfield 26, 3) := by decide +kernel
theorem d_Le_firstByPolicy_27 : decode b_Le_firstByPolicy 27 = .ok (.getfield 254, 3) := by decide +kernel
theorem d_Le_firstByPolicy_30 : decode b_Le_firstByPolicy 30 = .ok (.iload_n 3, 1) := by decide +kernel
theorem d_Le_firstByPolicy_31 : decode b_Le_firstByPolicy 31 = .ok (.aaload, 1) := by decide +kernel
theorem d_Le_firstByPolicy_32 : decode b_Le_firstByPolicy 32 = .ok (.astore 4, 2) := by decide +kernel
theorem d_Le_firstByPolicy_34 : decode b_Le_firstByPolicy 34 = .ok (.aload_n 0, 1) := by decide +kernel
theorem d_Le_firstByPolicy_35 : decode b_Le_firstByPolicy 35 = .ok (.aload 4, 2) := by decide +kernel
theorem d_Le_firstByPolicy_37 : decode b_Le_firstByPolicy 37 = .ok (.invokevirtual 268, 3) := by decide +kernel
theorem d_Le_firstByPolicy_40 : decode b_Le_firstByPolicy 40 = .ok (.ifCond .ne 17, 3) := by decide +kernel
theorem d_Le_firstByPolicy_43 : decode b_Le_firstByPolicy 43 = .ok (.aload_n 0, 1) := by decide +kernel
theorem d_Le_firstByPolicy_44 : decode b_Le_firstByPolicy 44 = .ok (.aload 4, 2) := by decide +kernel
theorem d_Le_firstByPolicy_46 : decode b_Le_firstByPolicy 46 = .ok (.invokevirtual 265, 3) := by decide +kernel
theorem d_Le_firstByPolicy_49 : decode b_Le_firstByPolicy 49 = .ok (.iload_n 1, 1) := by decide +kernel
theorem d_Le_firstByPolicy_50 : decode b_Le_firstByPolicy 50 = .ok (.if_icmp .gt 7, 3) := by decide +kernel
theorem d_Le_firstByPolicy_53 : decode b_Le_firstByPolicy 53 = .ok (.iconst 1, 1) := by decide +kernel
theorem d_Le_firstByPolicy_54 : decode b_Le_firstByPolicy 54 = .ok (.goto 4, 3) := by decide +kernel
theorem d_Le_firstByPolicy_57 : decode b_Le_firstByPolicy 57 = .ok (.iconst 0, 1) := by decide +kernel
theorem d_Le_firstByPolicy_58 : decode b_Le_firstByPolicy 58 = .ok (.istore 5, 2) := by decide +kernel
theorem d_Le_firstByPolicy_60 : decode b_Le_firstByPolicy 60 = .ok (.iload 5, 2) := by decide +kernel
theorem d_Le_firstByPolicy_62 : decode b_Le_firstByPolicy 62 = .ok (.ifCond .eq 9, 3) := by decide +kernel
theorem d_Le_firstByPolicy_65 : decode b_Le_firstByPolicy 65 = .ok (.iload_n 2, 1) := by decide +kernel
theorem d_Le_firstByPolicy_66 : decode b_Le_firstByPolicy 66 = .ok (.iconst 1, 1) := by decide +kernel
theorem d_Le_firstByPolicy_67 : decode b_Le_firstByPolicy 67 = .ok (.iadd, 1) := by decide +kernel
theorem d_Le_firstByPolicy_68 : decode b_Le_firstByPolicy 68 = .ok (.goto 4, 3) := by decide +kernel
theorem d_Le_firstByPolicy_71 : decode b_Le_firstByPolicy 71 = .ok (.iconst 0, 1) := by decide +kernel
theorem d_Le_firstByPolicy_72 : decode b_Le_firstByPolicy 72 = .ok (.istore_n 2, 1) := by decide +kernel
theorem d_Le_firstByPolicy_73 : decode b_Le_firstByPolicy 73 = .ok (.iload_n 2, 1) := by decide +kernel
theorem d_Le_firstByPolicy_74 : decode b_Le_firstByPolicy 74 = .ok (.aload_n 0, 1) := by decide +kernel
theorem d_Le_firstByPolicy_75 : decode b_Le_firstByPolicy 75 = .ok (.getfield 54, 3) := by decide +kernel
theorem d_Le_firstByPolicy_78 : decode b_Le_firstByPolicy 78 = .ok (.if_icmp .ne 12, 3) := by decide +kernel
theorem d_Le_firstByPolicy_81 : decode b_Le_firstByPolicy 81 = .ok (.iload_n 3, 1) := by decide +kernel
theorem d_Le_firstByPolicy_82 : decode b_Le_firstByPolicy 82 = .ok (.aload_n 0, 1) := by decide +kernel
theorem d_Le_firstByPolicy_83 : decode b_Le_firstByPolicy 83 = .ok (.getfield 54, 3) := by decide +kernel
theorem d_Le_firstByPolicy_86 : decode b_Le_firstByPolicy 86 = .ok (.isub, 1) := by decide +kernel
theorem d_Le_firstByPolicy_87 : decode b_Le_firstByPolicy 87 = .ok (.iconst 1, 1) := by decide +kernel
theorem d_Le_firstByPolicy_88 : decode b_Le_firstByPolicy 88 = .ok (.iadd, 1) := by decide +kernel
theorem d_Le_firstByPolicy_89 : decode b_Le_firstByPolicy 89 = .ok (.ireturn, 1) := by decide +kernel
theorem d_Le_firstByPolicy_90 : decode b_Le_firstByPolicy 90 = .ok (.iinc 3 1, 3) := by decide +kernel
theorem d_Le_firstByPolicy_93 : decode b_Le_firstByPolicy 93 = .ok (.goto (-81), 3) := by decide +kernel
theorem d_Le_firstByPolicy_96 : decode b_Le_firstByPolicy 96 = .ok (.iinc 1 1, 3) := by decide +kernel
theorem d_Le_firstByPolicy_99 : decode b_Le_firstByPolicy 99 = .ok (.goto (-97), 3) := by decide +kernel
theorem d_Le_firstByPolicy_102 : decode b_Le_firstByPolicy 102 = .ok (.iconst (-1), 1) := by decide +kernel
theorem d_Le_firstByPolicy_103 : decode b_Le_firstByPolicy 103 = .ok (.ireturn, 1) := by decide +kernel
theorem kc_Le_firstByPolicy : Cond.code y_Le_firstByPolicy b_Le_firstByPolicy 6 (some .int) ∈ gx_all := gx_in 729 (by decide +kernel)
abbrev b_Le_flush : ByteArray := prog_1_method_6_code
def y_Le_flush : MethodName := ⟨"CommitLedger", "flush", "()I"⟩
theorem d_Le_flush_0 : decode b_Le_flush 0 = .ok (.aload_n 0, 1) := by decide +kernel
theorem d_Le_flush_1 : decode b_Le_flush 1 = .ok (.invokevirtual 112, 3) := by decide +kernel
theorem d_Le_flush_4 : decode b_Le_flush 4 = .ok (.aload_n 0, 1) := by decide +kernel
theorem d_Le_flush_5 : decode b_Le_flush 5 = .ok (.invokevirtual 128, 3) := by decide +kernel
theorem d_Le_flush_8 : decode b_Le_flush 8 = .ok (.aload_n 0, 1) := by decide +kernel
theorem d_Le_flush_9 : decode b_Le_flush 9 = .ok (.getfield 26, 3) := by decide +kernel
theorem d_Le_flush_12 : decode b_Le_flush 12 = .ok (.getfield 109, 3) := by decide +kernel
theorem d_Le_flush_15 : decode b_Le_flush 15 = .ok (.ireturn, 1) := by decide +kernel
theorem kc_Le_flush : Cond.code y_Le_flush b_Le_flush 1 (some .int) ∈ gx_all := gx_in 684 (by decide +kernel)
abbrev b_Le_flushBuffer : ByteArray := prog_1_method_34_code
def y_Le_flushBuffer : MethodName := ⟨"CommitLedger", "flushBuffer", "()V"⟩
theorem d_Le_flushBuffer_0 : decode b_Le_flushBuffer 0 = .ok (.aload_n 0, 1) := by decide +kernel
theorem d_Le_flushBuffer_1 : decode b_Le_flushBuffer 1 = .ok (.getfield 26, 3) := by decide +kernel
theorem d_Le_flushBuffer_4 : decode b_Le_flushBuffer 4 = .ok (.aload_n 0, 1) := by decide +kernel
theorem d_Le_flushBuffer_5 : decode b_Le_flushBuffer 5 = .ok (.getfield 97, 3) := by decide +kernel
theorem d_Le_flushBuffer_8 : decode b_Le_flushBuffer 8 = .ok (.aload_n 0, 1) := by decide +kernel
theorem d_Le_flushBuffer_9 : decode b_Le_flushBuffer 9 = .ok (.getfield 10, 3) := by decide +kernel
theorem d_Le_flushBuffer_12 : decode b_Le_flushBuffer 12 = .ok (.getfield 94, 3) := by decide +kernel
theorem d_Le_flushBuffer_15 : decode b_Le_flushBuffer 15 = .ok (.invokevirtual 246, 3) := by decide +kernel
theorem d_Le_flushBuffer_18 : decode b_Le_flushBuffer 18 = .ok (.ifCond .le 46, 3) := by decide +kernel
theorem d_Le_flushBuffer_21 : decode b_Le_flushBuffer 21 = .ok (.aload_n 0, 1) := by decide +kernel
theorem d_Le_flushBuffer_22 : decode b_Le_flushBuffer 22 = .ok (.invokevirtual 311, 3) := by decide +kernel
theorem d_Le_flushBuffer_25 : decode b_Le_flushBuffer 25 = .ok (.aload_n 0, 1) := by decide +kernel
theorem d_Le_flushBuffer_26 : decode b_Le_flushBuffer 26 = .ok (.getfield 19, 3) := by decide +kernel
theorem d_Le_flushBuffer_29 : decode b_Le_flushBuffer 29 = .ok (.aload_n 0, 1) := by decide +kernel
theorem d_Le_flushBuffer_30 : decode b_Le_flushBuffer 30 = .ok (.invokevirtual 124, 3) := by decide +kernel
theorem d_Le_flushBuffer_33 : decode b_Le_flushBuffer 33 = .ok (.invokevirtual 314, 3) := by decide +kernel
theorem d_Le_flushBuffer_36 : decode b_Le_flushBuffer 36 = .ok (.astore_n 1, 1) := by decide +kernel
theorem d_Le_flushBuffer_37 : decode b_Le_flushBuffer 37 = .ok (.aload_n 1, 1) := by decide +kernel
theorem d_Le_flushBuffer_38 : decode b_Le_flushBuffer 38 = .ok (.aload_n 0, 1) := by decide +kernel
theorem d_Le_flushBuffer_39 : decode b_Le_flushBuffer 39 = .ok (.getfield 97, 3) := by decide +kernel
theorem d_Le_flushBuffer_42 : decode b_Le_flushBuffer 42 = .ok (.putfield 271, 3) := by decide +kernel
theorem d_Le_flushBuffer_45 : decode b_Le_flushBuffer 45 = .ok (.aload_n 1, 1) := by decide +kernel
theorem d_Le_flushBuffer_46 : decode b_Le_flushBuffer 46 = .ok (.aload_n 0, 1) := by decide +kernel
theorem d_Le_flushBuffer_47 : decode b_Le_flushBuffer 47 = .ok (.getfield 10, 3) := by decide +kernel
theorem d_Le_flushBuffer_50 : decode b_Le_flushBuffer 50 = .ok (.getfield 94, 3) := by decide +kernel
theorem d_Le_flushBuffer_53 : decode b_Le_flushBuffer 53 = .ok (.putfield 317, 3) := by decide +kernel
theorem d_Le_flushBuffer_56 : decode b_Le_flushBuffer 56 = .ok (.aload_n 0, 1) := by decide +kernel
theorem d_Le_flushBuffer_57 : decode b_Le_flushBuffer 57 = .ok (.getfield 26, 3) := by decide +kernel
theorem d_Le_flushBuffer_60 : decode b_Le_flushBuffer 60 = .ok (.aload_n 1, 1) := by decide +kernel
theorem d_Le_flushBuffer_61 : decode b_Le_flushBuffer 61 = .ok (.invokevirtual 320, 3) := by decide +kernel
theorem d_Le_flushBuffer_64 : decode b_Le_flushBuffer 64 = .ok (.aload_n 0, 1) := by decide +kernel
theorem d_Le_flushBuffer_65 : decode b_Le_flushBuffer 65 = .ok (.aload_n 0, 1) := by decide +kernel
theorem d_Le_flushBuffer_66 : decode b_Le_flushBuffer 66 = .ok (.getfield 10, 3) := by decide +kernel
theorem d_Le_flushBuffer_69 : decode b_Le_flushBuffer 69 = .ok (.getfield 94, 3) := by decide +kernel
theorem d_Le_flushBuffer_72 : decode b_Le_flushBuffer 72 = .ok (.putfield 97, 3) := by decide +kernel
theorem d_Le_flushBuffer_75 : decode b_Le_flushBuffer 75 = .ok (.return_, 1) := by decide +kernel
theorem kc_Le_flushBuffer : Cond.code y_Le_flushBuffer b_Le_flushBuffer 2 none ∈ gx_all := gx_in 599 (by decide +kernel)
