/-! NAMES: methods and their decode rows, printed by an own text program out of the Statement. -/
abbrev b_Le_init : ByteArray := prog_1_method_1_code
def y_Le_init : MethodName := ⟨"CommitLedger", "<init>", "()V"⟩
theorem d_Le_init_0 : decode b_Le_init 0 = .ok (.aload_n 0, 1) := by decide +kernel
theorem d_Le_init_1 : decode b_Le_init 1 = .ok (.invokespecial 1, 3) := by decide +kernel
theorem d_Le_init_4 : decode b_Le_init 4 = .ok (.aload_n 0, 1) := by decide +kernel
theorem d_Le_init_5 : decode b_Le_init 5 = .ok (.new 7, 3) := by decide +kernel
theorem d_Le_init_8 : decode b_Le_init 8 = .ok (.dup, 1) := by decide +kernel
theorem d_Le_init_9 : decode b_Le_init 9 = .ok (.invokespecial 9, 3) := by decide +kernel
theorem d_Le_init_12 : decode b_Le_init 12 = .ok (.putfield 10, 3) := by decide +kernel
theorem d_Le_init_15 : decode b_Le_init 15 = .ok (.aload_n 0, 1) := by decide +kernel
theorem d_Le_init_16 : decode b_Le_init 16 = .ok (.new 16, 3) := by decide +kernel
theorem d_Le_init_19 : decode b_Le_init 19 = .ok (.dup, 1) := by decide +kernel
theorem d_Le_init_20 : decode b_Le_init 20 = .ok (.invokespecial 18, 3) := by decide +kernel
theorem d_Le_init_23 : decode b_Le_init 23 = .ok (.putfield 19, 3) := by decide +kernel
theorem d_Le_init_26 : decode b_Le_init 26 = .ok (.aload_n 0, 1) := by decide +kernel
theorem d_Le_init_27 : decode b_Le_init 27 = .ok (.new 23, 3) := by decide +kernel
theorem d_Le_init_30 : decode b_Le_init 30 = .ok (.dup, 1) := by decide +kernel
theorem d_Le_init_31 : decode b_Le_init 31 = .ok (.invokespecial 25, 3) := by decide +kernel
theorem d_Le_init_34 : decode b_Le_init 34 = .ok (.putfield 26, 3) := by decide +kernel
theorem d_Le_init_37 : decode b_Le_init 37 = .ok (.aload_n 0, 1) := by decide +kernel
theorem d_Le_init_38 : decode b_Le_init 38 = .ok (.new 23, 3) := by decide +kernel
theorem d_Le_init_41 : decode b_Le_init 41 = .ok (.dup, 1) := by decide +kernel
theorem d_Le_init_42 : decode b_Le_init 42 = .ok (.invokespecial 25, 3) := by decide +kernel
theorem d_Le_init_45 : decode b_Le_init 45 = .ok (.putfield 30, 3) := by decide +kernel
theorem d_Le_init_48 : decode b_Le_init 48 = .ok (.aload_n 0, 1) := by decide +kernel
theorem d_Le_init_49 : decode b_Le_init 49 = .ok (.new 23, 3) := by decide +kernel
theorem d_Le_init_52 : decode b_Le_init 52 = .ok (.dup, 1) := by decide +kernel
theorem d_Le_init_53 : decode b_Le_init 53 = .ok (.invokespecial 25, 3) := by decide +kernel
theorem d_Le_init_56 : decode b_Le_init 56 = .ok (.putfield 33, 3) := by decide +kernel
theorem d_Le_init_59 : decode b_Le_init 59 = .ok (.aload_n 0, 1) := by decide +kernel
theorem d_Le_init_60 : decode b_Le_init 60 = .ok (.iconst 4, 1) := by decide +kernel
theorem d_Le_init_61 : decode b_Le_init 61 = .ok (.anewarray 36, 3) := by decide +kernel
theorem d_Le_init_64 : decode b_Le_init 64 = .ok (.putfield 38, 3) := by decide +kernel
theorem d_Le_init_67 : decode b_Le_init 67 = .ok (.iconst 0, 1) := by decide +kernel
theorem d_Le_init_68 : decode b_Le_init 68 = .ok (.istore_n 1, 1) := by decide +kernel
theorem d_Le_init_69 : decode b_Le_init 69 = .ok (.iload_n 1, 1) := by decide +kernel
theorem d_Le_init_70 : decode b_Le_init 70 = .ok (.iconst 4, 1) := by decide +kernel
theorem d_Le_init_71 : decode b_Le_init 71 = .ok (.if_icmp .ge 22, 3) := by decide +kernel
theorem d_Le_init_74 : decode b_Le_init 74 = .ok (.aload_n 0, 1) := by decide +kernel
theorem d_Le_init_75 : decode b_Le_init 75 = .ok (.getfield 38, 3) := by decide +kernel
theorem d_Le_init_78 : decode b_Le_init 78 = .ok (.iload_n 1, 1) := by decide +kernel
theorem d_Le_init_79 : decode b_Le_init 79 = .ok (.new 36, 3) := by decide +kernel
theorem d_Le_init_82 : decode b_Le_init 82 = .ok (.dup, 1) := by decide +kernel
theorem d_Le_init_83 : decode b_Le_init 83 = .ok (.invokespecial 42, 3) := by decide +kernel
theorem d_Le_init_86 : decode b_Le_init 86 = .ok (.aastore, 1) := by decide +kernel
theorem d_Le_init_87 : decode b_Le_init 87 = .ok (.iinc 1 1, 3) := by decide +kernel
theorem d_Le_init_90 : decode b_Le_init 90 = .ok (.goto (-21), 3) := by decide +kernel
theorem d_Le_init_93 : decode b_Le_init 93 = .ok (.aload_n 0, 1) := by decide +kernel
theorem d_Le_init_94 : decode b_Le_init 94 = .ok (.iconst 4, 1) := by decide +kernel
theorem d_Le_init_95 : decode b_Le_init 95 = .ok (.anewarray 43, 3) := by decide +kernel
theorem d_Le_init_98 : decode b_Le_init 98 = .ok (.putfield 45, 3) := by decide +kernel
theorem d_Le_init_101 : decode b_Le_init 101 = .ok (.iconst 0, 1) := by decide +kernel
theorem d_Le_init_102 : decode b_Le_init 102 = .ok (.istore_n 1, 1) := by decide +kernel
theorem d_Le_init_103 : decode b_Le_init 103 = .ok (.iload_n 1, 1) := by decide +kernel
theorem d_Le_init_104 : decode b_Le_init 104 = .ok (.iconst 4, 1) := by decide +kernel
theorem d_Le_init_105 : decode b_Le_init 105 = .ok (.if_icmp .ge 22, 3) := by decide +kernel
theorem d_Le_init_108 : decode b_Le_init 108 = .ok (.aload_n 0, 1) := by decide +kernel
theorem d_Le_init_109 : decode b_Le_init 109 = .ok (.getfield 45, 3) := by decide +kernel
theorem d_Le_init_112 : decode b_Le_init 112 = .ok (.iload_n 1, 1) := by decide +kernel
theorem d_Le_init_113 : decode b_Le_init 113 = .ok (.new 43, 3) := by decide +kernel
theorem d_Le_init_116 : decode b_Le_init 116 = .ok (.dup, 1) := by decide +kernel
theorem d_Le_init_117 : decode b_Le_init 117 = .ok (.invokespecial 49, 3) := by decide +kernel
theorem d_Le_init_120 : decode b_Le_init 120 = .ok (.aastore, 1) := by decide +kernel
theorem d_Le_init_121 : decode b_Le_init 121 = .ok (.iinc 1 1, 3) := by decide +kernel
theorem d_Le_init_124 : decode b_Le_init 124 = .ok (.goto (-21), 3) := by decide +kernel
theorem d_Le_init_127 : decode b_Le_init 127 = .ok (.aload_n 0, 1) := by decide +kernel
theorem d_Le_init_128 : decode b_Le_init 128 = .ok (.bipush 16, 2) := by decide +kernel
theorem d_Le_init_130 : decode b_Le_init 130 = .ok (.putfield 50, 3) := by decide +kernel
theorem d_Le_init_133 : decode b_Le_init 133 = .ok (.aload_n 0, 1) := by decide +kernel
theorem d_Le_init_134 : decode b_Le_init 134 = .ok (.iconst 4, 1) := by decide +kernel
theorem d_Le_init_135 : decode b_Le_init 135 = .ok (.putfield 54, 3) := by decide +kernel
theorem d_Le_init_138 : decode b_Le_init 138 = .ok (.aload_n 0, 1) := by decide +kernel
theorem d_Le_init_139 : decode b_Le_init 139 = .ok (.iconst (-1), 1) := by decide +kernel
theorem d_Le_init_140 : decode b_Le_init 140 = .ok (.putfield 57, 3) := by decide +kernel
theorem d_Le_init_143 : decode b_Le_init 143 = .ok (.return_, 1) := by decide +kernel
theorem kc_Le_init : Cond.code y_Le_init b_Le_init 2 none ∈ gx_all := gx_in 32 (by decide +kernel)
abbrev b_Le_act : ByteArray := prog_1_method_29_code
def y_Le_act : MethodName := ⟨"CommitLedger", "act", "()V"⟩
theorem d_Le_act_0 : decode b_Le_act 0 = .ok (.aload_n 0, 1) := by decide +kernel
theorem d_Le_act_1 : decode b_Le_act 1 = .ok (.getfield 57, 3) := by decide +kernel
theorem d_Le_act_4 : decode b_Le_act 4 = .ok (.ifCond .ne 18, 3) := by decide +kernel
theorem d_Le_act_7 : decode b_Le_act 7 = .ok (.aload_n 0, 1) := by decide +kernel
theorem d_Le_act_8 : decode b_Le_act 8 = .ok (.invokevirtual 188, 3) := by decide +kernel
theorem d_Le_act_11 : decode b_Le_act 11 = .ok (.new 297, 3) := by decide +kernel
theorem d_Le_act_14 : decode b_Le_act 14 = .ok (.dup, 1) := by decide +kernel
theorem d_Le_act_15 : decode b_Le_act 15 = .ok (.ldc_w 299, 3) := by decide +kernel
theorem d_Le_act_18 : decode b_Le_act 18 = .ok (.invokespecial 301, 3) := by decide +kernel
theorem d_Le_act_21 : decode b_Le_act 21 = .ok (.athrow, 1) := by decide +kernel
theorem d_Le_act_22 : decode b_Le_act 22 = .ok (.aload_n 0, 1) := by decide +kernel
theorem d_Le_act_23 : decode b_Le_act 23 = .ok (.getfield 57, 3) := by decide +kernel
theorem d_Le_act_26 : decode b_Le_act 26 = .ok (.ifCond .le 13, 3) := by decide +kernel
theorem d_Le_act_29 : decode b_Le_act 29 = .ok (.aload_n 0, 1) := by decide +kernel
theorem d_Le_act_30 : decode b_Le_act 30 = .ok (.dup, 1) := by decide +kernel
theorem d_Le_act_31 : decode b_Le_act 31 = .ok (.getfield 57, 3) := by decide +kernel
theorem d_Le_act_34 : decode b_Le_act 34 = .ok (.iconst 1, 1) := by decide +kernel
theorem d_Le_act_35 : decode b_Le_act 35 = .ok (.isub, 1) := by decide +kernel
theorem d_Le_act_36 : decode b_Le_act 36 = .ok (.putfield 57, 3) := by decide +kernel
theorem d_Le_act_39 : decode b_Le_act 39 = .ok (.aload_n 0, 1) := by decide +kernel
theorem d_Le_act_40 : decode b_Le_act 40 = .ok (.dup, 1) := by decide +kernel
theorem d_Le_act_41 : decode b_Le_act 41 = .ok (.getfield 274, 3) := by decide +kernel
theorem d_Le_act_44 : decode b_Le_act 44 = .ok (.iconst 1, 1) := by decide +kernel
theorem d_Le_act_45 : decode b_Le_act 45 = .ok (.iadd, 1) := by decide +kernel
theorem d_Le_act_46 : decode b_Le_act 46 = .ok (.putfield 274, 3) := by decide +kernel
theorem d_Le_act_49 : decode b_Le_act 49 = .ok (.return_, 1) := by decide +kernel
theorem kc_Le_act : Cond.code y_Le_act b_Le_act 1 none ∈ gx_all := gx_in 603 (by decide +kernel)
abbrev b_Le_add : ByteArray := prog_1_method_4_code
def y_Le_add : MethodName := ⟨"CommitLedger", "add", "(III)I"⟩
theorem d_Le_add_0 : decode b_Le_add 0 = .ok (.iload_n 3, 1) := by decide +kernel
theorem d_Le_add_1 : decode b_Le_add 1 = .ok (.iconst 1, 1) := by decide +kernel
theorem d_Le_add_2 : decode b_Le_add 2 = .ok (.bipush 100, 2) := by decide +kernel
theorem d_Le_add_4 : decode b_Le_add 4 = .ok (.invokestatic 60, 3) := by decide +kernel
theorem d_Le_add_7 : decode b_Le_add 7 = .ok (.aload_n 0, 1) := by decide +kernel
theorem d_Le_add_8 : decode b_Le_add 8 = .ok (.invokevirtual 112, 3) := by decide +kernel
theorem d_Le_add_11 : decode b_Le_add 11 = .ok (.aload_n 0, 1) := by decide +kernel
theorem d_Le_add_12 : decode b_Le_add 12 = .ok (.getfield 10, 3) := by decide +kernel
theorem d_Le_add_15 : decode b_Le_add 15 = .ok (.getfield 94, 3) := by decide +kernel
theorem d_Le_add_18 : decode b_Le_add 18 = .ok (.iload_n 3, 1) := by decide +kernel
theorem d_Le_add_19 : decode b_Le_add 19 = .ok (.iadd, 1) := by decide +kernel
theorem d_Le_add_20 : decode b_Le_add 20 = .ok (.sipush 4096, 3) := by decide +kernel
theorem d_Le_add_23 : decode b_Le_add 23 = .ok (.if_icmp .le 13, 3) := by decide +kernel
theorem d_Le_add_26 : decode b_Le_add 26 = .ok (.new 115, 3) := by decide +kernel
theorem d_Le_add_29 : decode b_Le_add 29 = .ok (.dup, 1) := by decide +kernel
theorem d_Le_add_30 : decode b_Le_add 30 = .ok (.ldc 117, 2) := by decide +kernel
theorem d_Le_add_32 : decode b_Le_add 32 = .ok (.invokespecial 119, 3) := by decide +kernel
theorem d_Le_add_35 : decode b_Le_add 35 = .ok (.athrow, 1) := by decide +kernel
theorem d_Le_add_36 : decode b_Le_add 36 = .ok (.iconst 0, 1) := by decide +kernel
theorem d_Le_add_37 : decode b_Le_add 37 = .ok (.istore 4, 2) := by decide +kernel
theorem d_Le_add_39 : decode b_Le_add 39 = .ok (.iload 4, 2) := by decide +kernel
theorem d_Le_add_41 : decode b_Le_add 41 = .ok (.iload_n 3, 1) := by decide +kernel
theorem d_Le_add_42 : decode b_Le_add 42 = .ok (.if_icmp .ge 33, 3) := by decide +kernel
theorem d_Le_add_45 : decode b_Le_add 45 = .ok (.aload_n 0, 1) := by decide +kernel
theorem d_Le_add_46 : decode b_Le_add 46 = .ok (.iload_n 1, 1) := by decide +kernel
theorem d_Le_add_47 : decode b_Le_add 47 = .ok (.iload 4, 2) := by decide +kernel
theorem d_Le_add_49 : decode b_Le_add 49 = .ok (.iadd, 1) := by decide +kernel
theorem d_Le_add_50 : decode b_Le_add 50 = .ok (.iload_n 2, 1) := by decide +kernel
theorem d_Le_add_51 : decode b_Le_add 51 = .ok (.invokevirtual 120, 3) := by decide +kernel
theorem d_Le_add_54 : decode b_Le_add 54 = .ok (.aload_n 0, 1) := by decide +kernel
theorem d_Le_add_55 : decode b_Le_add 55 = .ok (.invokevirtual 124, 3) := by decide +kernel
theorem d_Le_add_58 : decode b_Le_add 58 = .ok (.aload_n 0, 1) := by decide +kernel
theorem d_Le_add_59 : decode b_Le_add 59 = .ok (.getfield 50, 3) := by decide +kernel
theorem d_Le_add_62 : decode b_Le_add 62 = .ok (.if_icmp .lt 7, 3) := by decide +kernel
theorem d_Le_add_65 : decode b_Le_add 65 = .ok (.aload_n 0, 1) := by decide +kernel
theorem d_Le_add_66 : decode b_Le_add 66 = .ok (.invokevirtual 128, 3) := by decide +kernel
theorem d_Le_add_69 : decode b_Le_add 69 = .ok (.iinc 4 1, 3) := by decide +kernel
theorem d_Le_add_72 : decode b_Le_add 72 = .ok (.goto (-33), 3) := by decide +kernel
theorem d_Le_add_75 : decode b_Le_add 75 = .ok (.aload_n 0, 1) := by decide +kernel
theorem d_Le_add_76 : decode b_Le_add 76 = .ok (.getfield 26, 3) := by decide +kernel
theorem d_Le_add_79 : decode b_Le_add 79 = .ok (.getfield 131, 3) := by decide +kernel
theorem d_Le_add_82 : decode b_Le_add 82 = .ok (.ireturn, 1) := by decide +kernel
theorem kc_Le_add : Cond.code y_Le_add b_Le_add 5 (some .int) ∈ gx_all := gx_in 566 (by decide +kernel)
abbrev b_Le_addEntry : ByteArray := prog_1_method_33_code
def y_Le_addEntry : MethodName := ⟨"CommitLedger", "addEntry", "(II)V"⟩
theorem d_Le_addEntry_0 : decode b_Le_addEntry 0 = .ok (.aload_n 0, 1) := by decide +kernel
theorem d_Le_addEntry_1 : decode b_Le_addEntry 1 = .ok (.getfield 10, 3) := by decide +kernel
theorem d_Le_addEntry_4 : decode b_Le_addEntry 4 = .ok (.getfield 94, 3) := by decide +kernel
theorem d_Le_addEntry_7 : decode b_Le_addEntry 7 = .ok (.sipush 4096, 3) := by decide +kernel
theorem d_Le_addEntry_10 : decode b_Le_addEntry 10 = .ok (.if_icmp .ge 48, 3) := by decide +kernel
theorem d_Le_addEntry_13 : decode b_Le_addEntry 13 = .ok (.aload_n 0, 1) := by decide +kernel
theorem d_Le_addEntry_14 : decode b_Le_addEntry 14 = .ok (.getfield 26, 3) := by decide +kernel
theorem d_Le_addEntry_17 : decode b_Le_addEntry 17 = .ok (.dup, 1) := by decide +kernel
theorem d_Le_addEntry_18 : decode b_Le_addEntry 18 = .ok (.getfield 131, 3) := by decide +kernel
theorem d_Le_addEntry_21 : decode b_Le_addEntry 21 = .ok (.iconst 1, 1) := by decide +kernel
theorem d_Le_addEntry_22 : decode b_Le_addEntry 22 = .ok (.iadd, 1) := by decide +kernel
theorem d_Le_addEntry_23 : decode b_Le_addEntry 23 = .ok (.putfield 131, 3) := by decide +kernel
theorem d_Le_addEntry_26 : decode b_Le_addEntry 26 = .ok (.aload_n 0, 1) := by decide +kernel
theorem d_Le_addEntry_27 : decode b_Le_addEntry 27 = .ok (.getfield 26, 3) := by decide +kernel
theorem d_Le_addEntry_30 : decode b_Le_addEntry 30 = .ok (.getfield 134, 3) := by decide +kernel
theorem d_Le_addEntry_33 : decode b_Le_addEntry 33 = .ok (.aload_n 0, 1) := by decide +kernel
theorem d_Le_addEntry_34 : decode b_Le_addEntry 34 = .ok (.getfield 10, 3) := by decide +kernel
theorem d_Le_addEntry_37 : decode b_Le_addEntry 37 = .ok (.getfield 94, 3) := by decide +kernel
theorem d_Le_addEntry_40 : decode b_Le_addEntry 40 = .ok (.iconst 1, 1) := by decide +kernel
theorem d_Le_addEntry_41 : decode b_Le_addEntry 41 = .ok (.bastore, 1) := by decide +kernel
theorem d_Le_addEntry_42 : decode b_Le_addEntry 42 = .ok (.aload_n 0, 1) := by decide +kernel
theorem d_Le_addEntry_43 : decode b_Le_addEntry 43 = .ok (.getfield 10, 3) := by decide +kernel
theorem d_Le_addEntry_46 : decode b_Le_addEntry 46 = .ok (.iload_n 1, 1) := by decide +kernel
theorem d_Le_addEntry_47 : decode b_Le_addEntry 47 = .ok (.iload_n 2, 1) := by decide +kernel
theorem d_Le_addEntry_48 : decode b_Le_addEntry 48 = .ok (.aload_n 0, 1) := by decide +kernel
theorem d_Le_addEntry_49 : decode b_Le_addEntry 49 = .ok (.getfield 26, 3) := by decide +kernel
theorem d_Le_addEntry_52 : decode b_Le_addEntry 52 = .ok (.getfield 131, 3) := by decide +kernel
theorem d_Le_addEntry_55 : decode b_Le_addEntry 55 = .ok (.invokevirtual 308, 3) := by decide +kernel
theorem d_Le_addEntry_58 : decode b_Le_addEntry 58 = .ok (.return_, 1) := by decide +kernel
theorem kc_Le_addEntry : Cond.code y_Le_addEntry b_Le_addEntry 3 none ∈ gx_all := gx_in 591 (by decide +kernel)
abbrev b_Le_allCanBeMerged : ByteArray := prog_1_method_39_code
def y_Le_allCanBeMerged : MethodName := ⟨"CommitLedger", "allCanBeMerged", "()Z"⟩
theorem d_Le_allCanBeMerged_0 : decode b_Le_allCanBeMerged 0 = .ok (.aload_n 0, 1) := by decide +kernel
theorem d_Le_allCanBeMerged_1 : decode b_Le_allCanBeMerged 1 = .ok (.getfield 142, 3) := by decide +kernel
theorem d_Le_allCanBeMerged_4 : decode b_Le_allCanBeMerged 4 = .ok (.ifCond .gt 13, 3) := by decide +kernel
theorem d_Le_allCanBeMerged_7 : decode b_Le_allCanBeMerged 7 = .ok (.aload_n 0, 1) := by decide +kernel
theorem d_Le_allCanBeMerged_8 : decode b_Le_allCanBeMerged 8 = .ok (.getfield 26, 3) := by decide +kernel
theorem d_Le_allCanBeMerged_11 : decode b_Le_allCanBeMerged 11 = .ok (.getfield 109, 3) := by decide +kernel
theorem d_Le_allCanBeMerged_14 : decode b_Le_allCanBeMerged 14 = .ok (.ifCond .ne 5, 3) := by decide +kernel
theorem d_Le_allCanBeMerged_17 : decode b_Le_allCanBeMerged 17 = .ok (.iconst 0, 1) := by decide +kernel
theorem d_Le_allCanBeMerged_18 : decode b_Le_allCanBeMerged 18 = .ok (.ireturn, 1) := by decide +kernel
theorem d_Le_allCanBeMerged_19 : decode b_Le_allCanBeMerged 19 = .ok (.aload_n 0, 1) := by decide +kernel
theorem d_Le_allCanBeMerged_20 : decode b_Le_allCanBeMerged 20 = .ok (.getfield 26, 3) := by decide +kernel
theorem d_Le_allCanBeMerged_23 : decode b_Le_allCanBeMerged 23 = .ok (.getfield 254, 3) := by decide +kernel
theorem d_Le_allCanBeMerged_26 : decode b_Le_allCanBeMerged 26 = .ok (.iconst 0, 1) := by decide +kernel
theorem d_Le_allCanBeMerged_27 : decode b_Le_allCanBeMerged 27 = .ok (.aaload, 1) := by decide +kernel
theorem d_Le_allCanBeMerged_28 : decode b_Le_allCanBeMerged 28 = .ok (.astore_n 1, 1) := by decide +kernel
theorem d_Le_allCanBeMerged_29 : decode b_Le_allCanBeMerged 29 = .ok (.aload_n 0, 1) := by decide +kernel
theorem d_Le_allCanBeMerged_30 : decode b_Le_allCanBeMerged 30 = .ok (.getfield 26, 3) := by decide +kernel
theorem d_Le_allCanBeMerged_33 : decode b_Le_allCanBeMerged 33 = .ok (.getfield 109, 3) := by decide +kernel
theorem d_Le_allCanBeMerged_36 : decode b_Le_allCanBeMerged 36 = .ok (.iconst 1, 1) := by decide +kernel
theorem d_Le_allCanBeMerged_37 : decode b_Le_allCanBeMerged 37 = .ok (.if_icmp .gt 18, 3) := by decide +kernel
theorem d_Le_allCanBeMerged_40 : decode b_Le_allCanBeMerged 40 = .ok (.aload_n 0, 1) := by decide +kernel
theorem d_Le_allCanBeMerged_41 : decode b_Le_allCanBeMerged 41 = .ok (.getfield 26, 3) := by decide +kernel
theorem d_Le_allCanBeMerged_44 : decode b_Le_allCanBeMerged 44 = .ok (.aload_n 1, 1) := by decide +kernel
theorem d_Le_allCanBeMerged_45 : decode b_Le_allCanBeMerged 45 = .ok (.invokevirtual 261, 3) := by decide +kernel
theorem d_Le_allCanBeMerged_48 : decode b_Le_allCanBeMerged 48 = .ok (.aload_n 1, 1) := by decide +kernel
theorem d_Le_allCanBeMerged_49 : decode b_Le_allCanBeMerged 49 = .ok (.getfield 258, 3) := by decide +kernel
theorem d_Le_allCanBeMerged_52 : decode b_Le_allCanBeMerged 52 = .ok (.if_icmp .ge 7, 3) := by decide +kernel
theorem d_Le_allCanBeMerged_55 : decode b_Le_allCanBeMerged 55 = .ok (.iconst 1, 1) := by decide +kernel
theorem d_Le_allCanBeMerged_56 : decode b_Le_allCanBeMerged 56 = .ok (.goto 4, 3) := by decide +kernel
theorem d_Le_allCanBeMerged_59 : decode b_Le_allCanBeMerged 59 = .ok (.iconst 0, 1) := by decide +kernel
theorem d_Le_allCanBeMerged_60 : decode b_Le_allCanBeMerged 60 = .ok (.ireturn, 1) := by decide +kernel
theorem kc_Le_allCanBeMerged : Cond.code y_Le_allCanBeMerged b_Le_allCanBeMerged 2 (some .boolean) ∈ gx_all := gx_in 697 (by decide +kernel)
abbrev b_Le_beginMerge : ByteArray := prog_1_method_41_code
def y_Le_beginMerge : MethodName := ⟨"CommitLedger", "beginMerge", "(II)I"⟩
theorem d_Le_beginMerge_0 : decode b_Le_beginMerge 0 = .ok (.aload_n 0, 1) := by decide +kernel
theorem d_Le_beginMerge_1 : decode b_Le_beginMerge 1 = .ok (.getfield 26, 3) := by decide +kernel
theorem d_Le_beginMerge_4 : decode b_Le_beginMerge 4 = .ok (.getfield 254, 3) := by decide +kernel
theorem d_Le_beginMerge_7 : decode b_Le_beginMerge 7 = .ok (.iload_n 1, 1) := by decide +kernel
theorem d_Le_beginMerge_8 : decode b_Le_beginMerge 8 = .ok (.aaload, 1) := by decide +kernel
theorem d_Le_beginMerge_9 : decode b_Le_beginMerge 9 = .ok (.getfield 271, 3) := by decide +kernel
theorem d_Le_beginMerge_12 : decode b_Le_beginMerge 12 = .ok (.istore_n 3, 1) := by decide +kernel
theorem d_Le_beginMerge_13 : decode b_Le_beginMerge 13 = .ok (.aload_n 0, 1) := by decide +kernel
theorem d_Le_beginMerge_14 : decode b_Le_beginMerge 14 = .ok (.getfield 26, 3) := by decide +kernel
theorem d_Le_beginMerge_17 : decode b_Le_beginMerge 17 = .ok (.getfield 254, 3) := by decide +kernel
theorem d_Le_beginMerge_20 : decode b_Le_beginMerge 20 = .ok (.iload_n 1, 1) := by decide +kernel
theorem d_Le_beginMerge_21 : decode b_Le_beginMerge 21 = .ok (.iload_n 2, 1) := by decide +kernel
theorem d_Le_beginMerge_22 : decode b_Le_beginMerge 22 = .ok (.iadd, 1) := by decide +kernel
theorem d_Le_beginMerge_23 : decode b_Le_beginMerge 23 = .ok (.iconst 1, 1) := by decide +kernel
theorem d_Le_beginMerge_24 : decode b_Le_beginMerge 24 = .ok (.isub, 1) := by decide +kernel
theorem d_Le_beginMerge_25 : decode b_Le_beginMerge 25 = .ok (.aaload, 1) := by decide +kernel
theorem d_Le_beginMerge_26 : decode b_Le_beginMerge 26 = .ok (.getfield 317, 3) := by decide +kernel
theorem d_Le_beginMerge_29 : decode b_Le_beginMerge 29 = .ok (.istore 4, 2) := by decide +kernel
theorem d_Le_beginMerge_31 : decode b_Le_beginMerge 31 = .ok (.aload_n 0, 1) := by decide +kernel
theorem d_Le_beginMerge_32 : decode b_Le_beginMerge 32 = .ok (.invokevirtual 311, 3) := by decide +kernel
theorem d_Le_beginMerge_35 : decode b_Le_beginMerge 35 = .ok (.aload_n 0, 1) := by decide +kernel
theorem d_Le_beginMerge_36 : decode b_Le_beginMerge 36 = .ok (.getfield 19, 3) := by decide +kernel
theorem d_Le_beginMerge_39 : decode b_Le_beginMerge 39 = .ok (.aload_n 0, 1) := by decide +kernel
theorem d_Le_beginMerge_40 : decode b_Le_beginMerge 40 = .ok (.getfield 26, 3) := by decide +kernel
theorem d_Le_beginMerge_43 : decode b_Le_beginMerge 43 = .ok (.iload_n 3, 1) := by decide +kernel
theorem d_Le_beginMerge_44 : decode b_Le_beginMerge 44 = .ok (.iload 4, 2) := by decide +kernel
theorem d_Le_beginMerge_46 : decode b_Le_beginMerge 46 = .ok (.invokevirtual 246, 3) := by decide +kernel
theorem d_Le_beginMerge_49 : decode b_Le_beginMerge 49 = .ok (.invokevirtual 314, 3) := by decide +kernel
theorem d_Le_beginMerge_52 : decode b_Le_beginMerge 52 = .ok (.astore 5, 2) := by decide +kernel
theorem d_Le_beginMerge_54 : decode b_Le_beginMerge 54 = .ok (.aload 5, 2) := by decide +kernel
theorem d_Le_beginMerge_56 : decode b_Le_beginMerge 56 = .ok (.aload_n 0, 1) := by decide +kernel
theorem d_Le_beginMerge_57 : decode b_Le_beginMerge 57 = .ok (.getfield 26, 3) := by decide +kernel
theorem d_Le_beginMerge_60 : decode b_Le_beginMerge 60 = .ok (.iload_n 3, 1) := by decide +kernel
theorem d_Le_beginMerge_61 : decode b_Le_beginMerge 61 = .ok (.iload 4, 2) := by decide +kernel
theorem d_Le_beginMerge_63 : decode b_Le_beginMerge 63 = .ok (.invokevirtual 335, 3) := by decide +kernel
theorem d_Le_beginMerge_66 : decode b_Le_beginMerge 66 = .ok (.putfield 271, 3) := by decide +kernel
theorem d_Le_beginMerge_69 : decode b_Le_beginMerge 69 = .ok (.aload 5, 2) := by decide +kernel
theorem d_Le_beginMerge_71 : decode b_Le_beginMerge 71 = .ok (.iload 4, 2) := by decide +kernel
theorem d_Le_beginMerge_73 : decode b_Le_beginMerge 73 = .ok (.putfield 317, 3) := by decide +kernel
theorem d_Le_beginMerge_76 : decode b_Le_beginMerge 76 = .ok (.aload_n 0, 1) := by decide +kernel
theorem d_Le_beginMerge_77 : decode b_Le_beginMerge 77 = .ok (.dup, 1) := by decide +kernel
theorem d_Le_beginMerge_78 : decode b_Le_beginMerge 78 = .ok (.getfield 338, 3) := by decide +kernel
theorem d_Le_beginMerge_81 : decode b_Le_beginMerge 81 = .ok (.iconst 1, 1) := by decide +kernel
theorem d_Le_beginMerge_82 : decode b_Le_beginMerge 82 = .ok (.iadd, 1) := by decide +kernel
theorem d_Le_beginMerge_83 : decode b_Le_beginMerge 83 = .ok (.putfield 338, 3) := by decide +kernel
theorem d_Le_beginMerge_86 : decode b_Le_beginMerge 86 = .ok (.aload_n 0, 1) := by decide +kernel
theorem d_Le_beginMerge_87 : decode b_Le_beginMerge 87 = .ok (.getfield 38, 3) := by decide +kernel
theorem d_Le_beginMerge_90 : decode b_Le_beginMerge 90 = .ok (.aload_n 0, 1) := by decide +kernel
theorem d_Le_beginMerge_91 : decode b_Le_beginMerge 91 = .ok (.getfield 142, 3) := by decide +kernel
theorem d_Le_beginMerge_94 : decode b_Le_beginMerge 94 = .ok (.aaload, 1) := by decide +kernel
theorem d_Le_beginMerge_95 : decode b_Le_beginMerge 95 = .ok (.aload_n 0, 1) := by decide +kernel
theorem d_Le_beginMerge_96 : decode b_Le_beginMerge 96 = .ok (.getfield 338, 3) := by decide +kernel
theorem d_Le_beginMerge_99 : decode b_Le_beginMerge 99 = .ok (.iload_n 3, 1) := by decide +kernel
theorem d_Le_beginMerge_100 : decode b_Le_beginMerge 100 = .ok (.iload 4, 2) := by decide +kernel
theorem d_Le_beginMerge_102 : decode b_Le_beginMerge 102 = .ok (.aload 5, 2) := by decide +kernel
theorem d_Le_beginMerge_104 : decode b_Le_beginMerge 104 = .ok (.invokevirtual 341, 3) := by decide +kernel
theorem d_Le_beginMerge_107 : decode b_Le_beginMerge 107 = .ok (.aload_n 0, 1) := by decide +kernel
theorem d_Le_beginMerge_108 : decode b_Le_beginMerge 108 = .ok (.dup, 1) := by decide +kernel
theorem d_Le_beginMerge_109 : decode b_Le_beginMerge 109 = .ok (.getfield 142, 3) := by decide +kernel
theorem d_Le_beginMerge_112 : decode b_Le_beginMerge 112 = .ok (.iconst 1, 1) := by decide +kernel
theorem d_Le_beginMerge_113 : decode b_Le_beginMerge 113 = .ok (.iadd, 1) := by decide +kernel
theorem d_Le_beginMerge_114 : decode b_Le_beginMerge 114 = .ok (.putfield 142, 3) := by decide +kernel
theorem d_Le_beginMerge_117 : decode b_Le_beginMerge 117 = .ok (.aload_n 0, 1) := by decide +kernel
theorem d_Le_beginMerge_118 : decode b_Le_beginMerge 118 = .ok (.getfield 338, 3) := by decide +kernel
theorem d_Le_beginMerge_121 : decode b_Le_beginMerge 121 = .ok (.ireturn, 1) := by decide +kernel
theorem kc_Le_beginMerge : Cond.code y_Le_beginMerge b_Le_beginMerge 6 (some .int) ∈ gx_all := gx_in 717 (by decide +kernel)
abbrev b_Le_buffered : ByteArray := prog_1_method_32_code
def y_Le_buffered : MethodName := ⟨"CommitLedger", "buffered", "()I"⟩
theorem d_Le_buffered_0 : decode b_Le_buffered 0 = .ok (.aload_n 0, 1) := by decide +kernel
theorem d_Le_buffered_1 : decode b_Le_buffered 1 = .ok (.getfield 10, 3) := by decide +kernel
theorem d_Le_buffered_4 : decode b_Le_buffered 4 = .ok (.getfield 94, 3) := by decide +kernel
theorem d_Le_buffered_7 : decode b_Le_buffered 7 = .ok (.aload_n 0, 1) := by decide +kernel
theorem d_Le_buffered_8 : decode b_Le_buffered 8 = .ok (.getfield 97, 3) := by decide +kernel
theorem d_Le_buffered_11 : decode b_Le_buffered 11 = .ok (.isub, 1) := by decide +kernel
theorem d_Le_buffered_12 : decode b_Le_buffered 12 = .ok (.ireturn, 1) := by decide +kernel
theorem kc_Le_buffered : Cond.code y_Le_buffered b_Le_buffered 1 (some .int) ∈ gx_all := gx_in 373 (by decide +kernel)
abbrev b_Le_close : ByteArray := prog_1_method_12_code
def y_Le_close : MethodName := ⟨"CommitLedger", "close", "()I"⟩
theorem d_Le_close_0 : decode b_Le_close 0 = .ok (.aload_n 0, 1) := by decide +kernel
theorem d_Le_close_1 : decode b_Le_close 1 = .ok (.invokevirtual 112, 3) := by decide +kernel
theorem d_Le_close_4 : decode b_Le_close 4 = .ok (.aload_n 0, 1) := by decide +kernel
theorem d_Le_close_5 : decode b_Le_close 5 = .ok (.invokevirtual 172, 3) := by decide +kernel
theorem d_Le_close_8 : decode b_Le_close 8 = .ok (.aload_n 0, 1) := by decide +kernel
theorem d_Le_close_9 : decode b_Le_close 9 = .ok (.getfield 142, 3) := by decide +kernel
theorem d_Le_close_12 : decode b_Le_close 12 = .ok (.istore_n 1, 1) := by decide +kernel
theorem d_Le_close_13 : decode b_Le_close 13 = .ok (.iload_n 1, 1) := by decide +kernel
theorem d_Le_close_14 : decode b_Le_close 14 = .ok (.ifCond .le 15, 3) := by decide +kernel
theorem d_Le_close_17 : decode b_Le_close 17 = .ok (.aload_n 0, 1) := by decide +kernel
theorem d_Le_close_18 : decode b_Le_close 18 = .ok (.iconst 0, 1) := by decide +kernel
theorem d_Le_close_19 : decode b_Le_close 19 = .ok (.iconst 1, 1) := by decide +kernel
theorem d_Le_close_20 : decode b_Le_close 20 = .ok (.invokevirtual 168, 3) := by decide +kernel
theorem d_Le_close_23 : decode b_Le_close 23 = .ok (.iinc 1 (-1), 3) := by decide +kernel
theorem d_Le_close_26 : decode b_Le_close 26 = .ok (.goto (-13), 3) := by decide +kernel
theorem d_Le_close_29 : decode b_Le_close 29 = .ok (.aload_n 0, 1) := by decide +kernel
theorem d_Le_close_30 : decode b_Le_close 30 = .ok (.invokevirtual 175, 3) := by decide +kernel
theorem d_Le_close_33 : decode b_Le_close 33 = .ok (.ifCond .eq 7, 3) := by decide +kernel
theorem d_Le_close_36 : decode b_Le_close 36 = .ok (.aload_n 0, 1) := by decide +kernel
theorem d_Le_close_37 : decode b_Le_close 37 = .ok (.invokevirtual 181, 3) := by decide +kernel
theorem d_Le_close_40 : decode b_Le_close 40 = .ok (.aload_n 0, 1) := by decide +kernel
theorem d_Le_close_41 : decode b_Le_close 41 = .ok (.invokevirtual 184, 3) := by decide +kernel
theorem d_Le_close_44 : decode b_Le_close 44 = .ok (.aload_n 0, 1) := by decide +kernel
theorem d_Le_close_45 : decode b_Le_close 45 = .ok (.invokevirtual 106, 3) := by decide +kernel
theorem d_Le_close_48 : decode b_Le_close 48 = .ok (.aload_n 0, 1) := by decide +kernel
theorem d_Le_close_49 : decode b_Le_close 49 = .ok (.getfield 84, 3) := by decide +kernel
theorem d_Le_close_52 : decode b_Le_close 52 = .ok (.ireturn, 1) := by decide +kernel
theorem kc_Le_close : Cond.code y_Le_close b_Le_close 2 (some .int) ∈ gx_all := gx_in 816 (by decide +kernel)
abbrev b_Le_closedReader : ByteArray := prog_1_method_50_code
def y_Le_closedReader : MethodName := ⟨"CommitLedger", "closedReader", "()LCommitLedger$Reader;"⟩
theorem d_Le_closedReader_0 : decode b_Le_closedReader 0 = .ok (.iconst 0, 1) := by decide +kernel
theorem d_Le_closedReader_1 : decode b_Le_closedReader 1 = .ok (.istore_n 1, 1) := by decide +kernel
theorem d_Le_closedReader_2 : decode b_Le_closedReader 2 = .ok (.iload_n 1, 1) := by decide +kernel
theorem d_Le_closedReader_3 : decode b_Le_closedReader 3 = .ok (.iconst 4, 1) := by decide +kernel
theorem d_Le_closedReader_4 : decode b_Le_closedReader 4 = .ok (.if_icmp .ge 28, 3) := by decide +kernel
theorem d_Le_closedReader_7 : decode b_Le_closedReader 7 = .ok (.aload_n 0, 1) := by decide +kernel
theorem d_Le_closedReader_8 : decode b_Le_closedReader 8 = .ok (.getfield 45, 3) := by decide +kernel
theorem d_Le_closedReader_11 : decode b_Le_closedReader 11 = .ok (.iload_n 1, 1) := by decide +kernel
theorem d_Le_closedReader_12 : decode b_Le_closedReader 12 = .ok (.aaload, 1) := by decide +kernel
theorem d_Le_closedReader_13 : decode b_Le_closedReader 13 = .ok (.getfield 230, 3) := by decide +kernel
theorem d_Le_closedReader_16 : decode b_Le_closedReader 16 = .ok (.ifCond .ne 10, 3) := by decide +kernel
theorem d_Le_closedReader_19 : decode b_Le_closedReader 19 = .ok (.aload_n 0, 1) := by decide +kernel
theorem d_Le_closedReader_20 : decode b_Le_closedReader 20 = .ok (.getfield 45, 3) := by decide +kernel
theorem d_Le_closedReader_23 : decode b_Le_closedReader 23 = .ok (.iload_n 1, 1) := by decide +kernel
theorem d_Le_closedReader_24 : decode b_Le_closedReader 24 = .ok (.aaload, 1) := by decide +kernel
theorem d_Le_closedReader_25 : decode b_Le_closedReader 25 = .ok (.areturn, 1) := by decide +kernel
theorem d_Le_closedReader_26 : decode b_Le_closedReader 26 = .ok (.iinc 1 1, 3) := by decide +kernel
theorem d_Le_closedReader_29 : decode b_Le_closedReader 29 = .ok (.goto (-27), 3) := by decide +kernel
theorem d_Le_closedReader_32 : decode b_Le_closedReader 32 = .ok (.aconst_null, 1) := by decide +kernel
theorem d_Le_closedReader_33 : decode b_Le_closedReader 33 = .ok (.areturn, 1) := by decide +kernel
theorem kc_Le_closedReader : Cond.code y_Le_closedReader b_Le_closedReader 2 (some (.object "CommitLedger$Reader")) ∈ gx_all := gx_in 849 (by decide +kernel)
abbrev b_Le_commit : ByteArray := prog_1_method_10_code
def y_Le_commit : MethodName := ⟨"CommitLedger", "commit", "()I"⟩
theorem d_Le_commit_0 : decode b_Le_commit 0 = .ok (.aload_n 0, 1) := by decide +kernel
theorem d_Le_commit_1 : decode b_Le_commit 1 = .ok (.invokevirtual 112, 3) := by decide +kernel
theorem d_Le_commit_4 : decode b_Le_commit 4 = .ok (.aload_n 0, 1) := by decide +kernel
theorem d_Le_commit_5 : decode b_Le_commit 5 = .ok (.getfield 178, 3) := by decide +kernel
theorem d_Le_commit_8 : decode b_Le_commit 8 = .ok (.ifCond .ne 10, 3) := by decide +kernel
theorem d_Le_commit_11 : decode b_Le_commit 11 = .ok (.aload_n 0, 1) := by decide +kernel
theorem d_Le_commit_12 : decode b_Le_commit 12 = .ok (.invokevirtual 175, 3) := by decide +kernel
theorem d_Le_commit_15 : decode b_Le_commit 15 = .ok (.ifCond .eq 7, 3) := by decide +kernel
theorem d_Le_commit_18 : decode b_Le_commit 18 = .ok (.aload_n 0, 1) := by decide +kernel
theorem d_Le_commit_19 : decode b_Le_commit 19 = .ok (.invokevirtual 181, 3) := by decide +kernel
theorem d_Le_commit_22 : decode b_Le_commit 22 = .ok (.aload_n 0, 1) := by decide +kernel
theorem d_Le_commit_23 : decode b_Le_commit 23 = .ok (.getfield 84, 3) := by decide +kernel
theorem d_Le_commit_26 : decode b_Le_commit 26 = .ok (.ireturn, 1) := by decide +kernel
theorem kc_Le_commit : Cond.code y_Le_commit b_Le_commit 1 (some .int) ∈ gx_all := gx_in 798 (by decide +kernel)
abbrev b_Le_commitIsCorrupt : ByteArray := prog_1_method_48_code
def y_Le_commitIsCorrupt : MethodName := ⟨"CommitLedger", "commitIsCorrupt", "()Z"⟩
theorem d_Le_commitIsCorrupt_0 : decode b_Le_commitIsCorrupt 0 = .ok (.aload_n 0, 1) := by decide +kernel
theorem d_Le_commitIsCorrupt_1 : decode b_Le_commitIsCorrupt 1 = .ok (.getfield 84, 3) := by decide +kernel
theorem d_Le_commitIsCorrupt_4 : decode b_Le_commitIsCorrupt 4 = .ok (.ifCond .le 17, 3) := by decide +kernel
theorem d_Le_commitIsCorrupt_7 : decode b_Le_commitIsCorrupt 7 = .ok (.aload_n 0, 1) := by decide +kernel
theorem d_Le_commitIsCorrupt_8 : decode b_Le_commitIsCorrupt 8 = .ok (.getfield 30, 3) := by decide +kernel
theorem d_Le_commitIsCorrupt_11 : decode b_Le_commitIsCorrupt 11 = .ok (.invokevirtual 373, 3) := by decide +kernel
theorem d_Le_commitIsCorrupt_14 : decode b_Le_commitIsCorrupt 14 = .ok (.ifCond .eq 7, 3) := by decide +kernel
theorem d_Le_commitIsCorrupt_17 : decode b_Le_commitIsCorrupt 17 = .ok (.iconst 1, 1) := by decide +kernel
theorem d_Le_commitIsCorrupt_18 : decode b_Le_commitIsCorrupt 18 = .ok (.goto 4, 3) := by decide +kernel
theorem d_Le_commitIsCorrupt_21 : decode b_Le_commitIsCorrupt 21 = .ok (.iconst 0, 1) := by decide +kernel
theorem d_Le_commitIsCorrupt_22 : decode b_Le_commitIsCorrupt 22 = .ok (.ireturn, 1) := by decide +kernel
theorem kc_Le_commitIsCorrupt : Cond.code y_Le_commitIsCorrupt b_Le_commitIsCorrupt 1 (some .boolean) ∈ gx_all := gx_in 481 (by decide +kernel)
abbrev b_Le_count : ByteArray := prog_1_method_23_code
def y_Le_count : MethodName := ⟨"CommitLedger", "count", "(I)I"⟩
theorem d_Le_count_0 : decode b_Le_count 0 = .ok (.iload_n 1, 1) := by decide +kernel
theorem d_Le_count_1 : decode b_Le_count 1 = .ok (.tableswitch 74 0 4 #[35, 40, 51, 56, 61], 35) := by decide +kernel
theorem d_Le_count_36 : decode b_Le_count 36 = .ok (.aload_n 0, 1) := by decide +kernel
theorem d_Le_count_37 : decode b_Le_count 37 = .ok (.getfield 274, 3) := by decide +kernel
theorem d_Le_count_40 : decode b_Le_count 40 = .ok (.ireturn, 1) := by decide +kernel
theorem d_Le_count_41 : decode b_Le_count 41 = .ok (.aload_n 0, 1) := by decide +kernel
theorem d_Le_count_42 : decode b_Le_count 42 = .ok (.getfield 19, 3) := by decide +kernel
theorem d_Le_count_45 : decode b_Le_count 45 = .ok (.getfield 277, 3) := by decide +kernel
theorem d_Le_count_48 : decode b_Le_count 48 = .ok (.invokevirtual 281, 3) := by decide +kernel
theorem d_Le_count_51 : decode b_Le_count 51 = .ok (.ireturn, 1) := by decide +kernel
theorem d_Le_count_52 : decode b_Le_count 52 = .ok (.aload_n 0, 1) := by decide +kernel
theorem d_Le_count_53 : decode b_Le_count 53 = .ok (.invokevirtual 196, 3) := by decide +kernel
theorem d_Le_count_56 : decode b_Le_count 56 = .ok (.ireturn, 1) := by decide +kernel
theorem d_Le_count_57 : decode b_Le_count 57 = .ok (.aload_n 0, 1) := by decide +kernel
theorem d_Le_count_58 : decode b_Le_count 58 = .ok (.getfield 84, 3) := by decide +kernel
theorem d_Le_count_61 : decode b_Le_count 61 = .ok (.ireturn, 1) := by decide +kernel
theorem d_Le_count_62 : decode b_Le_count 62 = .ok (.aload_n 0, 1) := by decide +kernel
theorem d_Le_count_63 : decode b_Le_count 63 = .ok (.getfield 64, 3) := by decide +kernel
theorem d_Le_count_66 : decode b_Le_count 66 = .ok (.ifCond .eq 7, 3) := by decide +kernel
theorem d_Le_count_69 : decode b_Le_count 69 = .ok (.iconst 1, 1) := by decide +kernel
theorem d_Le_count_70 : decode b_Le_count 70 = .ok (.goto 4, 3) := by decide +kernel
theorem d_Le_count_73 : decode b_Le_count 73 = .ok (.iconst 0, 1) := by decide +kernel
theorem d_Le_count_74 : decode b_Le_count 74 = .ok (.ireturn, 1) := by decide +kernel
theorem d_Le_count_75 : decode b_Le_count 75 = .ok (.aload_n 0, 1) := by decide +kernel
theorem d_Le_count_76 : decode b_Le_count 76 = .ok (.iload_n 1, 1) := by decide +kernel
theorem d_Le_count_77 : decode b_Le_count 77 = .ok (.invokevirtual 285, 3) := by decide +kernel
theorem d_Le_count_80 : decode b_Le_count 80 = .ok (.ireturn, 1) := by decide +kernel
theorem kc_Le_count : Cond.code y_Le_count b_Le_count 2 (some .int) ∈ gx_all := gx_in 356 (by decide +kernel)
