/-! NAMES: methods and their decode rows, printed by an own text program out of the Statement. -/
abbrev b_Le_forgetWriter : ByteArray := prog_1_method_31_code
def y_Le_forgetWriter : MethodName := ⟨"CommitLedger", "forgetWriter", "()V"⟩
theorem d_Le_forgetWriter_0 : decode b_Le_forgetWriter 0 = .ok (.aload_n 0, 1) := by decide +kernel
theorem d_Le_forgetWriter_1 : decode b_Le_forgetWriter 1 = .ok (.iconst 0, 1) := by decide +kernel
theorem d_Le_forgetWriter_2 : decode b_Le_forgetWriter 2 = .ok (.putfield 64, 3) := by decide +kernel
theorem d_Le_forgetWriter_5 : decode b_Le_forgetWriter 5 = .ok (.aload_n 0, 1) := by decide +kernel
theorem d_Le_forgetWriter_6 : decode b_Le_forgetWriter 6 = .ok (.iconst 0, 1) := by decide +kernel
theorem d_Le_forgetWriter_7 : decode b_Le_forgetWriter 7 = .ok (.putfield 178, 3) := by decide +kernel
theorem d_Le_forgetWriter_10 : decode b_Le_forgetWriter 10 = .ok (.aload_n 0, 1) := by decide +kernel
theorem d_Le_forgetWriter_11 : decode b_Le_forgetWriter 11 = .ok (.iconst 0, 1) := by decide +kernel
theorem d_Le_forgetWriter_12 : decode b_Le_forgetWriter 12 = .ok (.putfield 142, 3) := by decide +kernel
theorem d_Le_forgetWriter_15 : decode b_Le_forgetWriter 15 = .ok (.return_, 1) := by decide +kernel
theorem kc_Le_forgetWriter : Cond.code y_Le_forgetWriter b_Le_forgetWriter 1 none ∈ gx_all := gx_in 249 (by decide +kernel)
abbrev b_Le_harm : ByteArray := prog_1_method_15_code
def y_Le_harm : MethodName := ⟨"CommitLedger", "harm", "(II)V"⟩
theorem d_Le_harm_0 : decode b_Le_harm 0 = .ok (.iload_n 1, 1) := by decide +kernel
theorem d_Le_harm_1 : decode b_Le_harm 1 = .ok (.ifCond .lt 7, 3) := by decide +kernel
theorem d_Le_harm_4 : decode b_Le_harm 4 = .ok (.iload_n 2, 1) := by decide +kernel
theorem d_Le_harm_5 : decode b_Le_harm 5 = .ok (.ifCond .ge 13, 3) := by decide +kernel
theorem d_Le_harm_8 : decode b_Le_harm 8 = .ok (.new 191, 3) := by decide +kernel
theorem d_Le_harm_11 : decode b_Le_harm 11 = .ok (.dup, 1) := by decide +kernel
theorem d_Le_harm_12 : decode b_Le_harm 12 = .ok (.ldc 193, 2) := by decide +kernel
theorem d_Le_harm_14 : decode b_Le_harm 14 = .ok (.invokespecial 195, 3) := by decide +kernel
theorem d_Le_harm_17 : decode b_Le_harm 17 = .ok (.athrow, 1) := by decide +kernel
theorem d_Le_harm_18 : decode b_Le_harm 18 = .ok (.aload_n 0, 1) := by decide +kernel
theorem d_Le_harm_19 : decode b_Le_harm 19 = .ok (.getfield 64, 3) := by decide +kernel
theorem d_Le_harm_22 : decode b_Le_harm 22 = .ok (.ifCond .ne 10, 3) := by decide +kernel
theorem d_Le_harm_25 : decode b_Le_harm 25 = .ok (.aload_n 0, 1) := by decide +kernel
theorem d_Le_harm_26 : decode b_Le_harm 26 = .ok (.invokevirtual 196, 3) := by decide +kernel
theorem d_Le_harm_29 : decode b_Le_harm 29 = .ok (.ifCond .le 13, 3) := by decide +kernel
theorem d_Le_harm_32 : decode b_Le_harm 32 = .ok (.new 68, 3) := by decide +kernel
theorem d_Le_harm_35 : decode b_Le_harm 35 = .ok (.dup, 1) := by decide +kernel
theorem d_Le_harm_36 : decode b_Le_harm 36 = .ok (.ldc 199, 2) := by decide +kernel
theorem d_Le_harm_38 : decode b_Le_harm 38 = .ok (.invokespecial 72, 3) := by decide +kernel
theorem d_Le_harm_41 : decode b_Le_harm 41 = .ok (.athrow, 1) := by decide +kernel
theorem d_Le_harm_42 : decode b_Le_harm 42 = .ok (.aload_n 0, 1) := by decide +kernel
theorem d_Le_harm_43 : decode b_Le_harm 43 = .ok (.getfield 19, 3) := by decide +kernel
theorem d_Le_harm_46 : decode b_Le_harm 46 = .ok (.iload_n 1, 1) := by decide +kernel
theorem d_Le_harm_47 : decode b_Le_harm 47 = .ok (.invokevirtual 201, 3) := by decide +kernel
theorem d_Le_harm_50 : decode b_Le_harm 50 = .ok (.astore_n 3, 1) := by decide +kernel
theorem d_Le_harm_51 : decode b_Le_harm 51 = .ok (.aload_n 3, 1) := by decide +kernel
theorem d_Le_harm_52 : decode b_Le_harm 52 = .ok (.ifnonnull 13, 3) := by decide +kernel
theorem d_Le_harm_55 : decode b_Le_harm 55 = .ok (.new 150, 3) := by decide +kernel
theorem d_Le_harm_58 : decode b_Le_harm 58 = .ok (.dup, 1) := by decide +kernel
theorem d_Le_harm_59 : decode b_Le_harm 59 = .ok (.ldc 205, 2) := by decide +kernel
theorem d_Le_harm_61 : decode b_Le_harm 61 = .ok (.invokespecial 154, 3) := by decide +kernel
theorem d_Le_harm_64 : decode b_Le_harm 64 = .ok (.athrow, 1) := by decide +kernel
theorem d_Le_harm_65 : decode b_Le_harm 65 = .ok (.aload_n 3, 1) := by decide +kernel
theorem d_Le_harm_66 : decode b_Le_harm 66 = .ok (.getfield 207, 3) := by decide +kernel
theorem d_Le_harm_69 : decode b_Le_harm 69 = .ok (.ifCond .eq 13, 3) := by decide +kernel
theorem d_Le_harm_72 : decode b_Le_harm 72 = .ok (.new 68, 3) := by decide +kernel
theorem d_Le_harm_75 : decode b_Le_harm 75 = .ok (.dup, 1) := by decide +kernel
theorem d_Le_harm_76 : decode b_Le_harm 76 = .ok (.ldc 212, 2) := by decide +kernel
theorem d_Le_harm_78 : decode b_Le_harm 78 = .ok (.invokespecial 72, 3) := by decide +kernel
theorem d_Le_harm_81 : decode b_Le_harm 81 = .ok (.athrow, 1) := by decide +kernel
theorem d_Le_harm_82 : decode b_Le_harm 82 = .ok (.aload_n 3, 1) := by decide +kernel
theorem d_Le_harm_83 : decode b_Le_harm 83 = .ok (.iconst 1, 1) := by decide +kernel
theorem d_Le_harm_84 : decode b_Le_harm 84 = .ok (.putfield 207, 3) := by decide +kernel
theorem d_Le_harm_87 : decode b_Le_harm 87 = .ok (.return_, 1) := by decide +kernel
theorem kc_Le_harm : Cond.code y_Le_harm b_Le_harm 4 none ∈ gx_all := gx_in 831 (by decide +kernel)
abbrev b_Le_levelOf : ByteArray := prog_1_method_36_code
def y_Le_levelOf : MethodName := ⟨"CommitLedger", "levelOf", "(LCommitLedger$LedgerFile;)I"⟩
theorem d_Le_levelOf_0 : decode b_Le_levelOf 0 = .ok (.aload_n 0, 1) := by decide +kernel
theorem d_Le_levelOf_1 : decode b_Le_levelOf 1 = .ok (.getfield 26, 3) := by decide +kernel
theorem d_Le_levelOf_4 : decode b_Le_levelOf 4 = .ok (.aload_n 1, 1) := by decide +kernel
theorem d_Le_levelOf_5 : decode b_Le_levelOf 5 = .ok (.invokevirtual 261, 3) := by decide +kernel
theorem d_Le_levelOf_8 : decode b_Le_levelOf 8 = .ok (.istore_n 2, 1) := by decide +kernel
theorem d_Le_levelOf_9 : decode b_Le_levelOf 9 = .ok (.iconst 0, 1) := by decide +kernel
theorem d_Le_levelOf_10 : decode b_Le_levelOf 10 = .ok (.istore_n 3, 1) := by decide +kernel
theorem d_Le_levelOf_11 : decode b_Le_levelOf 11 = .ok (.aload_n 0, 1) := by decide +kernel
theorem d_Le_levelOf_12 : decode b_Le_levelOf 12 = .ok (.getfield 54, 3) := by decide +kernel
theorem d_Le_levelOf_15 : decode b_Le_levelOf 15 = .ok (.istore 4, 2) := by decide +kernel
theorem d_Le_levelOf_17 : decode b_Le_levelOf 17 = .ok (.iload 4, 2) := by decide +kernel
theorem d_Le_levelOf_19 : decode b_Le_levelOf 19 = .ok (.iload_n 2, 1) := by decide +kernel
theorem d_Le_levelOf_20 : decode b_Le_levelOf 20 = .ok (.if_icmp .gt 24, 3) := by decide +kernel
theorem d_Le_levelOf_23 : decode b_Le_levelOf 23 = .ok (.iload_n 3, 1) := by decide +kernel
theorem d_Le_levelOf_24 : decode b_Le_levelOf 24 = .ok (.bipush 12, 2) := by decide +kernel
theorem d_Le_levelOf_26 : decode b_Le_levelOf 26 = .ok (.if_icmp .ge 18, 3) := by decide +kernel
theorem d_Le_levelOf_29 : decode b_Le_levelOf 29 = .ok (.iinc 3 1, 3) := by decide +kernel
theorem d_Le_levelOf_32 : decode b_Le_levelOf 32 = .ok (.iload 4, 2) := by decide +kernel
theorem d_Le_levelOf_34 : decode b_Le_levelOf 34 = .ok (.aload_n 0, 1) := by decide +kernel
theorem d_Le_levelOf_35 : decode b_Le_levelOf 35 = .ok (.getfield 54, 3) := by decide +kernel
theorem d_Le_levelOf_38 : decode b_Le_levelOf 38 = .ok (.imul, 1) := by decide +kernel
theorem d_Le_levelOf_39 : decode b_Le_levelOf 39 = .ok (.istore 4, 2) := by decide +kernel
theorem d_Le_levelOf_41 : decode b_Le_levelOf 41 = .ok (.goto (-24), 3) := by decide +kernel
theorem d_Le_levelOf_44 : decode b_Le_levelOf 44 = .ok (.iload_n 3, 1) := by decide +kernel
theorem d_Le_levelOf_45 : decode b_Le_levelOf 45 = .ok (.ireturn, 1) := by decide +kernel
theorem kc_Le_levelOf : Cond.code y_Le_levelOf b_Le_levelOf 5 (some .int) ∈ gx_all := gx_in 733 (by decide +kernel)
abbrev b_Le_limits : ByteArray := prog_1_method_3_code
def y_Le_limits : MethodName := ⟨"CommitLedger", "limits", "(II)V"⟩
theorem d_Le_limits_0 : decode b_Le_limits 0 = .ok (.iload_n 1, 1) := by decide +kernel
theorem d_Le_limits_1 : decode b_Le_limits 1 = .ok (.iconst 1, 1) := by decide +kernel
theorem d_Le_limits_2 : decode b_Le_limits 2 = .ok (.sipush 10000, 3) := by decide +kernel
theorem d_Le_limits_5 : decode b_Le_limits 5 = .ok (.invokestatic 60, 3) := by decide +kernel
theorem d_Le_limits_8 : decode b_Le_limits 8 = .ok (.iload_n 2, 1) := by decide +kernel
theorem d_Le_limits_9 : decode b_Le_limits 9 = .ok (.iconst 2, 1) := by decide +kernel
theorem d_Le_limits_10 : decode b_Le_limits 10 = .ok (.bipush 64, 2) := by decide +kernel
theorem d_Le_limits_12 : decode b_Le_limits 12 = .ok (.invokestatic 60, 3) := by decide +kernel
theorem d_Le_limits_15 : decode b_Le_limits 15 = .ok (.aload_n 0, 1) := by decide +kernel
theorem d_Le_limits_16 : decode b_Le_limits 16 = .ok (.iload_n 1, 1) := by decide +kernel
theorem d_Le_limits_17 : decode b_Le_limits 17 = .ok (.putfield 50, 3) := by decide +kernel
theorem d_Le_limits_20 : decode b_Le_limits 20 = .ok (.aload_n 0, 1) := by decide +kernel
theorem d_Le_limits_21 : decode b_Le_limits 21 = .ok (.iload_n 2, 1) := by decide +kernel
theorem d_Le_limits_22 : decode b_Le_limits 22 = .ok (.putfield 54, 3) := by decide +kernel
theorem d_Le_limits_25 : decode b_Le_limits 25 = .ok (.return_, 1) := by decide +kernel
theorem kc_Le_limits : Cond.code y_Le_limits b_Le_limits 3 none ∈ gx_all := gx_in 557 (by decide +kernel)
abbrev b_Le_losePower : ByteArray := prog_1_method_30_code
def y_Le_losePower : MethodName := ⟨"CommitLedger", "losePower", "()V"⟩
theorem d_Le_losePower_0 : decode b_Le_losePower 0 = .ok (.aload_n 0, 1) := by decide +kernel
theorem d_Le_losePower_1 : decode b_Le_losePower 1 = .ok (.iconst (-1), 1) := by decide +kernel
theorem d_Le_losePower_2 : decode b_Le_losePower 2 = .ok (.putfield 57, 3) := by decide +kernel
theorem d_Le_losePower_5 : decode b_Le_losePower 5 = .ok (.aload_n 0, 1) := by decide +kernel
theorem d_Le_losePower_6 : decode b_Le_losePower 6 = .ok (.invokevirtual 184, 3) := by decide +kernel
theorem d_Le_losePower_9 : decode b_Le_losePower 9 = .ok (.iconst 0, 1) := by decide +kernel
theorem d_Le_losePower_10 : decode b_Le_losePower 10 = .ok (.istore_n 1, 1) := by decide +kernel
theorem d_Le_losePower_11 : decode b_Le_losePower 11 = .ok (.iload_n 1, 1) := by decide +kernel
theorem d_Le_losePower_12 : decode b_Le_losePower 12 = .ok (.iconst 4, 1) := by decide +kernel
theorem d_Le_losePower_13 : decode b_Le_losePower 13 = .ok (.if_icmp .ge 19, 3) := by decide +kernel
theorem d_Le_losePower_16 : decode b_Le_losePower 16 = .ok (.aload_n 0, 1) := by decide +kernel
theorem d_Le_losePower_17 : decode b_Le_losePower 17 = .ok (.getfield 45, 3) := by decide +kernel
theorem d_Le_losePower_20 : decode b_Le_losePower 20 = .ok (.iload_n 1, 1) := by decide +kernel
theorem d_Le_losePower_21 : decode b_Le_losePower 21 = .ok (.aaload, 1) := by decide +kernel
theorem d_Le_losePower_22 : decode b_Le_losePower 22 = .ok (.iconst 0, 1) := by decide +kernel
theorem d_Le_losePower_23 : decode b_Le_losePower 23 = .ok (.putfield 230, 3) := by decide +kernel
theorem d_Le_losePower_26 : decode b_Le_losePower 26 = .ok (.iinc 1 1, 3) := by decide +kernel
theorem d_Le_losePower_29 : decode b_Le_losePower 29 = .ok (.goto (-18), 3) := by decide +kernel
theorem d_Le_losePower_32 : decode b_Le_losePower 32 = .ok (.aload_n 0, 1) := by decide +kernel
theorem d_Le_losePower_33 : decode b_Le_losePower 33 = .ok (.getfield 19, 3) := by decide +kernel
theorem d_Le_losePower_36 : decode b_Le_losePower 36 = .ok (.invokevirtual 302, 3) := by decide +kernel
theorem d_Le_losePower_39 : decode b_Le_losePower 39 = .ok (.aload_n 0, 1) := by decide +kernel
theorem d_Le_losePower_40 : decode b_Le_losePower 40 = .ok (.getfield 19, 3) := by decide +kernel
theorem d_Le_losePower_43 : decode b_Le_losePower 43 = .ok (.invokevirtual 305, 3) := by decide +kernel
theorem d_Le_losePower_46 : decode b_Le_losePower 46 = .ok (.aload_n 0, 1) := by decide +kernel
theorem d_Le_losePower_47 : decode b_Le_losePower 47 = .ok (.getfield 19, 3) := by decide +kernel
theorem d_Le_losePower_50 : decode b_Le_losePower 50 = .ok (.iconst 1, 1) := by decide +kernel
theorem d_Le_losePower_51 : decode b_Le_losePower 51 = .ok (.putfield 100, 3) := by decide +kernel
theorem d_Le_losePower_54 : decode b_Le_losePower 54 = .ok (.return_, 1) := by decide +kernel
theorem kc_Le_losePower : Cond.code y_Le_losePower b_Le_losePower 2 none ∈ gx_all := gx_in 245 (by decide +kernel)
abbrev b_Le_many : ByteArray := prog_1_method_19_code
def y_Le_many : MethodName := ⟨"CommitLedger", "many", "(II)I"⟩
theorem d_Le_many_0 : decode b_Le_many 0 = .ok (.aload_n 0, 1) := by decide +kernel
theorem d_Le_many_1 : decode b_Le_many 1 = .ok (.iload_n 1, 1) := by decide +kernel
theorem d_Le_many_2 : decode b_Le_many 2 = .ok (.invokevirtual 226, 3) := by decide +kernel
theorem d_Le_many_5 : decode b_Le_many 5 = .ok (.getfield 233, 3) := by decide +kernel
theorem d_Le_many_8 : decode b_Le_many 8 = .ok (.astore_n 3, 1) := by decide +kernel
theorem d_Le_many_9 : decode b_Le_many 9 = .ok (.iconst 0, 1) := by decide +kernel
theorem d_Le_many_10 : decode b_Le_many 10 = .ok (.istore 4, 2) := by decide +kernel
theorem d_Le_many_12 : decode b_Le_many 12 = .ok (.iconst 0, 1) := by decide +kernel
theorem d_Le_many_13 : decode b_Le_many 13 = .ok (.istore 5, 2) := by decide +kernel
theorem d_Le_many_15 : decode b_Le_many 15 = .ok (.iload 5, 2) := by decide +kernel
theorem d_Le_many_17 : decode b_Le_many 17 = .ok (.aload_n 0, 1) := by decide +kernel
theorem d_Le_many_18 : decode b_Le_many 18 = .ok (.getfield 10, 3) := by decide +kernel
theorem d_Le_many_21 : decode b_Le_many 21 = .ok (.getfield 94, 3) := by decide +kernel
theorem d_Le_many_24 : decode b_Le_many 24 = .ok (.if_icmp .ge 36, 3) := by decide +kernel
theorem d_Le_many_27 : decode b_Le_many 27 = .ok (.aload_n 3, 1) := by decide +kernel
theorem d_Le_many_28 : decode b_Le_many 28 = .ok (.getfield 134, 3) := by decide +kernel
theorem d_Le_many_31 : decode b_Le_many 31 = .ok (.iload 5, 2) := by decide +kernel
theorem d_Le_many_33 : decode b_Le_many 33 = .ok (.baload, 1) := by decide +kernel
theorem d_Le_many_34 : decode b_Le_many 34 = .ok (.ifCond .eq 20, 3) := by decide +kernel
theorem d_Le_many_37 : decode b_Le_many 37 = .ok (.aload_n 0, 1) := by decide +kernel
theorem d_Le_many_38 : decode b_Le_many 38 = .ok (.getfield 10, 3) := by decide +kernel
theorem d_Le_many_41 : decode b_Le_many 41 = .ok (.getfield 138, 3) := by decide +kernel
theorem d_Le_many_44 : decode b_Le_many 44 = .ok (.iload 5, 2) := by decide +kernel
theorem d_Le_many_46 : decode b_Le_many 46 = .ok (.iaload, 1) := by decide +kernel
theorem d_Le_many_47 : decode b_Le_many 47 = .ok (.iload_n 2, 1) := by decide +kernel
theorem d_Le_many_48 : decode b_Le_many 48 = .ok (.if_icmp .ne 6, 3) := by decide +kernel
theorem d_Le_many_51 : decode b_Le_many 51 = .ok (.iinc 4 1, 3) := by decide +kernel
theorem d_Le_many_54 : decode b_Le_many 54 = .ok (.iinc 5 1, 3) := by decide +kernel
theorem d_Le_many_57 : decode b_Le_many 57 = .ok (.goto (-42), 3) := by decide +kernel
theorem d_Le_many_60 : decode b_Le_many 60 = .ok (.iload 4, 2) := by decide +kernel
theorem d_Le_many_62 : decode b_Le_many 62 = .ok (.ireturn, 1) := by decide +kernel
theorem kc_Le_many : Cond.code y_Le_many b_Le_many 6 (some .int) ∈ gx_all := gx_in 882 (by decide +kernel)
abbrev b_Le_merge : ByteArray := prog_1_method_7_code
def y_Le_merge : MethodName := ⟨"CommitLedger", "merge", "(I)I"⟩
theorem d_Le_merge_0 : decode b_Le_merge 0 = .ok (.iload_n 1, 1) := by decide +kernel
theorem d_Le_merge_1 : decode b_Le_merge 1 = .ok (.iconst 0, 1) := by decide +kernel
theorem d_Le_merge_2 : decode b_Le_merge 2 = .ok (.iconst 1, 1) := by decide +kernel
theorem d_Le_merge_3 : decode b_Le_merge 3 = .ok (.invokestatic 60, 3) := by decide +kernel
theorem d_Le_merge_6 : decode b_Le_merge 6 = .ok (.aload_n 0, 1) := by decide +kernel
theorem d_Le_merge_7 : decode b_Le_merge 7 = .ok (.invokevirtual 112, 3) := by decide +kernel
theorem d_Le_merge_10 : decode b_Le_merge 10 = .ok (.aload_n 0, 1) := by decide +kernel
theorem d_Le_merge_11 : decode b_Le_merge 11 = .ok (.getfield 142, 3) := by decide +kernel
theorem d_Le_merge_14 : decode b_Le_merge 14 = .ok (.iconst 4, 1) := by decide +kernel
theorem d_Le_merge_15 : decode b_Le_merge 15 = .ok (.if_icmp .lt 13, 3) := by decide +kernel
theorem d_Le_merge_18 : decode b_Le_merge 18 = .ok (.new 115, 3) := by decide +kernel
theorem d_Le_merge_21 : decode b_Le_merge 21 = .ok (.dup, 1) := by decide +kernel
theorem d_Le_merge_22 : decode b_Le_merge 22 = .ok (.ldc 145, 2) := by decide +kernel
theorem d_Le_merge_24 : decode b_Le_merge 24 = .ok (.invokespecial 119, 3) := by decide +kernel
theorem d_Le_merge_27 : decode b_Le_merge 27 = .ok (.athrow, 1) := by decide +kernel
theorem d_Le_merge_28 : decode b_Le_merge 28 = .ok (.iload_n 1, 1) := by decide +kernel
theorem d_Le_merge_29 : decode b_Le_merge 29 = .ok (.iconst 1, 1) := by decide +kernel
theorem d_Le_merge_30 : decode b_Le_merge 30 = .ok (.if_icmp .ne 33, 3) := by decide +kernel
theorem d_Le_merge_33 : decode b_Le_merge 33 = .ok (.aload_n 0, 1) := by decide +kernel
theorem d_Le_merge_34 : decode b_Le_merge 34 = .ok (.invokevirtual 147, 3) := by decide +kernel
theorem d_Le_merge_37 : decode b_Le_merge 37 = .ok (.ifCond .ne 13, 3) := by decide +kernel
theorem d_Le_merge_40 : decode b_Le_merge 40 = .ok (.new 150, 3) := by decide +kernel
theorem d_Le_merge_43 : decode b_Le_merge 43 = .ok (.dup, 1) := by decide +kernel
theorem d_Le_merge_44 : decode b_Le_merge 44 = .ok (.ldc 152, 2) := by decide +kernel
theorem d_Le_merge_46 : decode b_Le_merge 46 = .ok (.invokespecial 154, 3) := by decide +kernel
theorem d_Le_merge_49 : decode b_Le_merge 49 = .ok (.athrow, 1) := by decide +kernel
theorem d_Le_merge_50 : decode b_Le_merge 50 = .ok (.aload_n 0, 1) := by decide +kernel
theorem d_Le_merge_51 : decode b_Le_merge 51 = .ok (.iconst 0, 1) := by decide +kernel
theorem d_Le_merge_52 : decode b_Le_merge 52 = .ok (.aload_n 0, 1) := by decide +kernel
theorem d_Le_merge_53 : decode b_Le_merge 53 = .ok (.getfield 26, 3) := by decide +kernel
theorem d_Le_merge_56 : decode b_Le_merge 56 = .ok (.getfield 109, 3) := by decide +kernel
theorem d_Le_merge_59 : decode b_Le_merge 59 = .ok (.invokevirtual 155, 3) := by decide +kernel
theorem d_Le_merge_62 : decode b_Le_merge 62 = .ok (.ireturn, 1) := by decide +kernel
theorem d_Le_merge_63 : decode b_Le_merge 63 = .ok (.aload_n 0, 1) := by decide +kernel
theorem d_Le_merge_64 : decode b_Le_merge 64 = .ok (.invokevirtual 159, 3) := by decide +kernel
theorem d_Le_merge_67 : decode b_Le_merge 67 = .ok (.istore_n 2, 1) := by decide +kernel
theorem d_Le_merge_68 : decode b_Le_merge 68 = .ok (.iload_n 2, 1) := by decide +kernel
theorem d_Le_merge_69 : decode b_Le_merge 69 = .ok (.ifCond .ge 13, 3) := by decide +kernel
theorem d_Le_merge_72 : decode b_Le_merge 72 = .ok (.new 150, 3) := by decide +kernel
theorem d_Le_merge_75 : decode b_Le_merge 75 = .ok (.dup, 1) := by decide +kernel
theorem d_Le_merge_76 : decode b_Le_merge 76 = .ok (.ldc 152, 2) := by decide +kernel
theorem d_Le_merge_78 : decode b_Le_merge 78 = .ok (.invokespecial 154, 3) := by decide +kernel
theorem d_Le_merge_81 : decode b_Le_merge 81 = .ok (.athrow, 1) := by decide +kernel
theorem d_Le_merge_82 : decode b_Le_merge 82 = .ok (.aload_n 0, 1) := by decide +kernel
theorem d_Le_merge_83 : decode b_Le_merge 83 = .ok (.iload_n 2, 1) := by decide +kernel
theorem d_Le_merge_84 : decode b_Le_merge 84 = .ok (.aload_n 0, 1) := by decide +kernel
theorem d_Le_merge_85 : decode b_Le_merge 85 = .ok (.getfield 54, 3) := by decide +kernel
theorem d_Le_merge_88 : decode b_Le_merge 88 = .ok (.invokevirtual 155, 3) := by decide +kernel
theorem d_Le_merge_91 : decode b_Le_merge 91 = .ok (.ireturn, 1) := by decide +kernel
theorem kc_Le_merge : Cond.code y_Le_merge b_Le_merge 3 (some .int) ∈ gx_all := gx_in 692 (by decide +kernel)
abbrev b_Le_mergeOf : ByteArray := prog_1_method_37_code
def y_Le_mergeOf : MethodName := ⟨"CommitLedger", "mergeOf", "(LCommitLedger$LedgerFile;)I"⟩
theorem d_Le_mergeOf_0 : decode b_Le_mergeOf 0 = .ok (.iconst 0, 1) := by decide +kernel
theorem d_Le_mergeOf_1 : decode b_Le_mergeOf 1 = .ok (.istore_n 2, 1) := by decide +kernel
theorem d_Le_mergeOf_2 : decode b_Le_mergeOf 2 = .ok (.iload_n 2, 1) := by decide +kernel
theorem d_Le_mergeOf_3 : decode b_Le_mergeOf 3 = .ok (.aload_n 0, 1) := by decide +kernel
theorem d_Le_mergeOf_4 : decode b_Le_mergeOf 4 = .ok (.getfield 142, 3) := by decide +kernel
theorem d_Le_mergeOf_7 : decode b_Le_mergeOf 7 = .ok (.if_icmp .ge 32, 3) := by decide +kernel
theorem d_Le_mergeOf_10 : decode b_Le_mergeOf 10 = .ok (.aload_n 0, 1) := by decide +kernel
theorem d_Le_mergeOf_11 : decode b_Le_mergeOf 11 = .ok (.getfield 38, 3) := by decide +kernel
theorem d_Le_mergeOf_14 : decode b_Le_mergeOf 14 = .ok (.iload_n 2, 1) := by decide +kernel
theorem d_Le_mergeOf_15 : decode b_Le_mergeOf 15 = .ok (.aaload, 1) := by decide +kernel
theorem d_Le_mergeOf_16 : decode b_Le_mergeOf 16 = .ok (.aload_n 1, 1) := by decide +kernel
theorem d_Le_mergeOf_17 : decode b_Le_mergeOf 17 = .ok (.invokevirtual 330, 3) := by decide +kernel
theorem d_Le_mergeOf_20 : decode b_Le_mergeOf 20 = .ok (.ifCond .eq 13, 3) := by decide +kernel
theorem d_Le_mergeOf_23 : decode b_Le_mergeOf 23 = .ok (.aload_n 0, 1) := by decide +kernel
theorem d_Le_mergeOf_24 : decode b_Le_mergeOf 24 = .ok (.getfield 38, 3) := by decide +kernel
theorem d_Le_mergeOf_27 : decode b_Le_mergeOf 27 = .ok (.iload_n 2, 1) := by decide +kernel
theorem d_Le_mergeOf_28 : decode b_Le_mergeOf 28 = .ok (.aaload, 1) := by decide +kernel
theorem d_Le_mergeOf_29 : decode b_Le_mergeOf 29 = .ok (.getfield 334, 3) := by decide +kernel
theorem d_Le_mergeOf_32 : decode b_Le_mergeOf 32 = .ok (.ireturn, 1) := by decide +kernel
theorem d_Le_mergeOf_33 : decode b_Le_mergeOf 33 = .ok (.iinc 2 1, 3) := by decide +kernel
theorem d_Le_mergeOf_36 : decode b_Le_mergeOf 36 = .ok (.goto (-34), 3) := by decide +kernel
theorem d_Le_mergeOf_39 : decode b_Le_mergeOf 39 = .ok (.iconst 0, 1) := by decide +kernel
theorem d_Le_mergeOf_40 : decode b_Le_mergeOf 40 = .ok (.ireturn, 1) := by decide +kernel
theorem kc_Le_mergeOf : Cond.code y_Le_mergeOf b_Le_mergeOf 3 (some .int) ∈ gx_all := gx_in 522 (by decide +kernel)
abbrev b_Le_need : ByteArray := prog_1_method_53_code
def y_Le_need : MethodName := ⟨"CommitLedger", "need", "(LCommitLedger$LedgerFile;)V"⟩
theorem d_Le_need_0 : decode b_Le_need 0 = .ok (.aload_n 0, 1) := by decide +kernel
theorem d_Le_need_1 : decode b_Le_need 1 = .ok (.ifnull 8, 3) := by decide +kernel
theorem d_Le_need_4 : decode b_Le_need 4 = .ok (.aload_n 0, 1) := by decide +kernel
theorem d_Le_need_5 : decode b_Le_need 5 = .ok (.iconst 1, 1) := by decide +kernel
theorem d_Le_need_6 : decode b_Le_need 6 = .ok (.putfield 394, 3) := by decide +kernel
theorem d_Le_need_9 : decode b_Le_need 9 = .ok (.return_, 1) := by decide +kernel
theorem kc_Le_need : Cond.code y_Le_need b_Le_need 1 none ∈ gx_all := gx_in 545 (by decide +kernel)
abbrev b_Le_open : ByteArray := prog_1_method_2_code
def y_Le_open : MethodName := ⟨"CommitLedger", "open", "(I)I"⟩
theorem d_Le_open_0 : decode b_Le_open 0 = .ok (.iload_n 1, 1) := by decide +kernel
theorem d_Le_open_1 : decode b_Le_open 1 = .ok (.iconst 0, 1) := by decide +kernel
theorem d_Le_open_2 : decode b_Le_open 2 = .ok (.iconst 1, 1) := by decide +kernel
theorem d_Le_open_3 : decode b_Le_open 3 = .ok (.invokestatic 60, 3) := by decide +kernel
theorem d_Le_open_6 : decode b_Le_open 6 = .ok (.aload_n 0, 1) := by decide +kernel
theorem d_Le_open_7 : decode b_Le_open 7 = .ok (.getfield 64, 3) := by decide +kernel
theorem d_Le_open_10 : decode b_Le_open 10 = .ok (.ifCond .eq 13, 3) := by decide +kernel
theorem d_Le_open_13 : decode b_Le_open 13 = .ok (.new 68, 3) := by decide +kernel
theorem d_Le_open_16 : decode b_Le_open 16 = .ok (.dup, 1) := by decide +kernel
theorem d_Le_open_17 : decode b_Le_open 17 = .ok (.ldc 70, 2) := by decide +kernel
theorem d_Le_open_19 : decode b_Le_open 19 = .ok (.invokespecial 72, 3) := by decide +kernel
theorem d_Le_open_22 : decode b_Le_open 22 = .ok (.athrow, 1) := by decide +kernel
theorem d_Le_open_23 : decode b_Le_open 23 = .ok (.iload_n 1, 1) := by decide +kernel
theorem d_Le_open_24 : decode b_Le_open 24 = .ok (.ifCond .ne 20, 3) := by decide +kernel
theorem d_Le_open_27 : decode b_Le_open 27 = .ok (.aload_n 0, 1) := by decide +kernel
theorem d_Le_open_28 : decode b_Le_open 28 = .ok (.invokevirtual 75, 3) := by decide +kernel
theorem d_Le_open_31 : decode b_Le_open 31 = .ok (.ifCond .eq 13, 3) := by decide +kernel
theorem d_Le_open_34 : decode b_Le_open 34 = .ok (.new 79, 3) := by decide +kernel
theorem d_Le_open_37 : decode b_Le_open 37 = .ok (.dup, 1) := by decide +kernel
theorem d_Le_open_38 : decode b_Le_open 38 = .ok (.ldc 81, 2) := by decide +kernel
theorem d_Le_open_40 : decode b_Le_open 40 = .ok (.invokespecial 83, 3) := by decide +kernel
theorem d_Le_open_43 : decode b_Le_open 43 = .ok (.athrow, 1) := by decide +kernel
theorem d_Le_open_44 : decode b_Le_open 44 = .ok (.iload_n 1, 1) := by decide +kernel
theorem d_Le_open_45 : decode b_Le_open 45 = .ok (.ifCond .ne 24, 3) := by decide +kernel
theorem d_Le_open_48 : decode b_Le_open 48 = .ok (.aload_n 0, 1) := by decide +kernel
theorem d_Le_open_49 : decode b_Le_open 49 = .ok (.getfield 84, 3) := by decide +kernel
theorem d_Le_open_52 : decode b_Le_open 52 = .ok (.ifCond .le 17, 3) := by decide +kernel
theorem d_Le_open_55 : decode b_Le_open 55 = .ok (.aload_n 0, 1) := by decide +kernel
theorem d_Le_open_56 : decode b_Le_open 56 = .ok (.getfield 26, 3) := by decide +kernel
theorem d_Le_open_59 : decode b_Le_open 59 = .ok (.aload_n 0, 1) := by decide +kernel
theorem d_Le_open_60 : decode b_Le_open 60 = .ok (.getfield 30, 3) := by decide +kernel
theorem d_Le_open_63 : decode b_Le_open 63 = .ok (.invokevirtual 87, 3) := by decide +kernel
theorem d_Le_open_66 : decode b_Le_open 66 = .ok (.goto 10, 3) := by decide +kernel
theorem d_Le_open_69 : decode b_Le_open 69 = .ok (.aload_n 0, 1) := by decide +kernel
theorem d_Le_open_70 : decode b_Le_open 70 = .ok (.getfield 26, 3) := by decide +kernel
theorem d_Le_open_73 : decode b_Le_open 73 = .ok (.invokevirtual 91, 3) := by decide +kernel
theorem d_Le_open_76 : decode b_Le_open 76 = .ok (.aload_n 0, 1) := by decide +kernel
theorem d_Le_open_77 : decode b_Le_open 77 = .ok (.iconst 1, 1) := by decide +kernel
theorem d_Le_open_78 : decode b_Le_open 78 = .ok (.putfield 64, 3) := by decide +kernel
theorem d_Le_open_81 : decode b_Le_open 81 = .ok (.aload_n 0, 1) := by decide +kernel
theorem d_Le_open_82 : decode b_Le_open 82 = .ok (.aload_n 0, 1) := by decide +kernel
theorem d_Le_open_83 : decode b_Le_open 83 = .ok (.getfield 10, 3) := by decide +kernel
theorem d_Le_open_86 : decode b_Le_open 86 = .ok (.getfield 94, 3) := by decide +kernel
theorem d_Le_open_89 : decode b_Le_open 89 = .ok (.putfield 97, 3) := by decide +kernel
theorem d_Le_open_92 : decode b_Le_open 92 = .ok (.aload_n 0, 1) := by decide +kernel
theorem d_Le_open_93 : decode b_Le_open 93 = .ok (.getfield 19, 3) := by decide +kernel
theorem d_Le_open_96 : decode b_Le_open 96 = .ok (.iconst 0, 1) := by decide +kernel
theorem d_Le_open_97 : decode b_Le_open 97 = .ok (.putfield 100, 3) := by decide +kernel
theorem d_Le_open_100 : decode b_Le_open 100 = .ok (.aload_n 0, 1) := by decide +kernel
theorem d_Le_open_101 : decode b_Le_open 101 = .ok (.invokevirtual 103, 3) := by decide +kernel
theorem d_Le_open_104 : decode b_Le_open 104 = .ok (.aload_n 0, 1) := by decide +kernel
theorem d_Le_open_105 : decode b_Le_open 105 = .ok (.invokevirtual 106, 3) := by decide +kernel
theorem d_Le_open_108 : decode b_Le_open 108 = .ok (.aload_n 0, 1) := by decide +kernel
theorem d_Le_open_109 : decode b_Le_open 109 = .ok (.getfield 26, 3) := by decide +kernel
theorem d_Le_open_112 : decode b_Le_open 112 = .ok (.getfield 109, 3) := by decide +kernel
theorem d_Le_open_115 : decode b_Le_open 115 = .ok (.ireturn, 1) := by decide +kernel
theorem kc_Le_open : Cond.code y_Le_open b_Le_open 2 (some .int) ∈ gx_all := gx_in 387 (by decide +kernel)
abbrev b_Le_openReader : ByteArray := prog_1_method_51_code
def y_Le_openReader : MethodName := ⟨"CommitLedger", "openReader", "(LCommitLedger$Reader;LCommitLedger$View;)I"⟩
theorem d_Le_openReader_0 : decode b_Le_openReader 0 = .ok (.aload_n 0, 1) := by decide +kernel
theorem d_Le_openReader_1 : decode b_Le_openReader 1 = .ok (.dup, 1) := by decide +kernel
theorem d_Le_openReader_2 : decode b_Le_openReader 2 = .ok (.getfield 376, 3) := by decide +kernel
theorem d_Le_openReader_5 : decode b_Le_openReader 5 = .ok (.iconst 1, 1) := by decide +kernel
theorem d_Le_openReader_6 : decode b_Le_openReader 6 = .ok (.iadd, 1) := by decide +kernel
theorem d_Le_openReader_7 : decode b_Le_openReader 7 = .ok (.putfield 376, 3) := by decide +kernel
theorem d_Le_openReader_10 : decode b_Le_openReader 10 = .ok (.aload_n 1, 1) := by decide +kernel
theorem d_Le_openReader_11 : decode b_Le_openReader 11 = .ok (.aload_n 0, 1) := by decide +kernel
theorem d_Le_openReader_12 : decode b_Le_openReader 12 = .ok (.getfield 376, 3) := by decide +kernel
theorem d_Le_openReader_15 : decode b_Le_openReader 15 = .ok (.putfield 292, 3) := by decide +kernel
theorem d_Le_openReader_18 : decode b_Le_openReader 18 = .ok (.aload_n 1, 1) := by decide +kernel
theorem d_Le_openReader_19 : decode b_Le_openReader 19 = .ok (.iconst 1, 1) := by decide +kernel
theorem d_Le_openReader_20 : decode b_Le_openReader 20 = .ok (.putfield 230, 3) := by decide +kernel
theorem d_Le_openReader_23 : decode b_Le_openReader 23 = .ok (.aload_n 1, 1) := by decide +kernel
theorem d_Le_openReader_24 : decode b_Le_openReader 24 = .ok (.getfield 233, 3) := by decide +kernel
theorem d_Le_openReader_27 : decode b_Le_openReader 27 = .ok (.aload_n 2, 1) := by decide +kernel
theorem d_Le_openReader_28 : decode b_Le_openReader 28 = .ok (.invokevirtual 87, 3) := by decide +kernel
theorem d_Le_openReader_31 : decode b_Le_openReader 31 = .ok (.aload_n 0, 1) := by decide +kernel
theorem d_Le_openReader_32 : decode b_Le_openReader 32 = .ok (.getfield 376, 3) := by decide +kernel
theorem d_Le_openReader_35 : decode b_Le_openReader 35 = .ok (.ireturn, 1) := by decide +kernel
theorem kc_Le_openReader : Cond.code y_Le_openReader b_Le_openReader 3 (some .int) ∈ gx_all := gx_in 854 (by decide +kernel)
abbrev b_Le_openReaders : ByteArray := prog_1_method_49_code
def y_Le_openReaders : MethodName := ⟨"CommitLedger", "openReaders", "()I"⟩
theorem d_Le_openReaders_0 : decode b_Le_openReaders 0 = .ok (.iconst 0, 1) := by decide +kernel
theorem d_Le_openReaders_1 : decode b_Le_openReaders 1 = .ok (.istore_n 1, 1) := by decide +kernel
theorem d_Le_openReaders_2 : decode b_Le_openReaders 2 = .ok (.iconst 0, 1) := by decide +kernel
theorem d_Le_openReaders_3 : decode b_Le_openReaders 3 = .ok (.istore_n 2, 1) := by decide +kernel
theorem d_Le_openReaders_4 : decode b_Le_openReaders 4 = .ok (.iload_n 2, 1) := by decide +kernel
theorem d_Le_openReaders_5 : decode b_Le_openReaders 5 = .ok (.iconst 4, 1) := by decide +kernel
theorem d_Le_openReaders_6 : decode b_Le_openReaders 6 = .ok (.if_icmp .ge 24, 3) := by decide +kernel
theorem d_Le_openReaders_9 : decode b_Le_openReaders 9 = .ok (.aload_n 0, 1) := by decide +kernel
theorem d_Le_openReaders_10 : decode b_Le_openReaders 10 = .ok (.getfield 45, 3) := by decide +kernel
theorem d_Le_openReaders_13 : decode b_Le_openReaders 13 = .ok (.iload_n 2, 1) := by decide +kernel
theorem d_Le_openReaders_14 : decode b_Le_openReaders 14 = .ok (.aaload, 1) := by decide +kernel
theorem d_Le_openReaders_15 : decode b_Le_openReaders 15 = .ok (.getfield 230, 3) := by decide +kernel
theorem d_Le_openReaders_18 : decode b_Le_openReaders 18 = .ok (.ifCond .eq 6, 3) := by decide +kernel
theorem d_Le_openReaders_21 : decode b_Le_openReaders 21 = .ok (.iinc 1 1, 3) := by decide +kernel
theorem d_Le_openReaders_24 : decode b_Le_openReaders 24 = .ok (.iinc 2 1, 3) := by decide +kernel
theorem d_Le_openReaders_27 : decode b_Le_openReaders 27 = .ok (.goto (-23), 3) := by decide +kernel
theorem d_Le_openReaders_30 : decode b_Le_openReaders 30 = .ok (.iload_n 1, 1) := by decide +kernel
theorem d_Le_openReaders_31 : decode b_Le_openReaders 31 = .ok (.ireturn, 1) := by decide +kernel
theorem kc_Le_openReaders : Cond.code y_Le_openReaders b_Le_openReaders 3 (some .int) ∈ gx_all := gx_in 361 (by decide +kernel)
abbrev b_Le_placeOfMerge : ByteArray := prog_1_method_38_code
def y_Le_placeOfMerge : MethodName := ⟨"CommitLedger", "placeOfMerge", "(I)I"⟩
theorem d_Le_placeOfMerge_0 : decode b_Le_placeOfMerge 0 = .ok (.iconst 0, 1) := by decide +kernel
theorem d_Le_placeOfMerge_1 : decode b_Le_placeOfMerge 1 = .ok (.istore_n 2, 1) := by decide +kernel
theorem d_Le_placeOfMerge_2 : decode b_Le_placeOfMerge 2 = .ok (.iload_n 2, 1) := by decide +kernel
theorem d_Le_placeOfMerge_3 : decode b_Le_placeOfMerge 3 = .ok (.aload_n 0, 1) := by decide +kernel
theorem d_Le_placeOfMerge_4 : decode b_Le_placeOfMerge 4 = .ok (.getfield 142, 3) := by decide +kernel
theorem d_Le_placeOfMerge_7 : decode b_Le_placeOfMerge 7 = .ok (.if_icmp .ge 24, 3) := by decide +kernel
theorem d_Le_placeOfMerge_10 : decode b_Le_placeOfMerge 10 = .ok (.aload_n 0, 1) := by decide +kernel
theorem d_Le_placeOfMerge_11 : decode b_Le_placeOfMerge 11 = .ok (.getfield 38, 3) := by decide +kernel
theorem d_Le_placeOfMerge_14 : decode b_Le_placeOfMerge 14 = .ok (.iload_n 2, 1) := by decide +kernel
theorem d_Le_placeOfMerge_15 : decode b_Le_placeOfMerge 15 = .ok (.aaload, 1) := by decide +kernel
theorem d_Le_placeOfMerge_16 : decode b_Le_placeOfMerge 16 = .ok (.getfield 334, 3) := by decide +kernel
theorem d_Le_placeOfMerge_19 : decode b_Le_placeOfMerge 19 = .ok (.iload_n 1, 1) := by decide +kernel
theorem d_Le_placeOfMerge_20 : decode b_Le_placeOfMerge 20 = .ok (.if_icmp .ne 5, 3) := by decide +kernel
theorem d_Le_placeOfMerge_23 : decode b_Le_placeOfMerge 23 = .ok (.iload_n 2, 1) := by decide +kernel
theorem d_Le_placeOfMerge_24 : decode b_Le_placeOfMerge 24 = .ok (.ireturn, 1) := by decide +kernel
theorem d_Le_placeOfMerge_25 : decode b_Le_placeOfMerge 25 = .ok (.iinc 2 1, 3) := by decide +kernel
theorem d_Le_placeOfMerge_28 : decode b_Le_placeOfMerge 28 = .ok (.goto (-26), 3) := by decide +kernel
theorem d_Le_placeOfMerge_31 : decode b_Le_placeOfMerge 31 = .ok (.iconst (-1), 1) := by decide +kernel
theorem d_Le_placeOfMerge_32 : decode b_Le_placeOfMerge 32 = .ok (.ireturn, 1) := by decide +kernel
theorem kc_Le_placeOfMerge : Cond.code y_Le_placeOfMerge b_Le_placeOfMerge 3 (some .int) ∈ gx_all := gx_in 744 (by decide +kernel)
abbrev b_Le_power : ByteArray := prog_1_method_13_code
def y_Le_power : MethodName := ⟨"CommitLedger", "power", "(I)V"⟩
theorem d_Le_power_0 : decode b_Le_power 0 = .ok (.iload_n 1, 1) := by decide +kernel
theorem d_Le_power_1 : decode b_Le_power 1 = .ok (.iconst (-1), 1) := by decide +kernel
theorem d_Le_power_2 : decode b_Le_power 2 = .ok (.ldc 187, 2) := by decide +kernel
theorem d_Le_power_4 : decode b_Le_power 4 = .ok (.invokestatic 60, 3) := by decide +kernel
theorem d_Le_power_7 : decode b_Le_power 7 = .ok (.aload_n 0, 1) := by decide +kernel
theorem d_Le_power_8 : decode b_Le_power 8 = .ok (.iload_n 1, 1) := by decide +kernel
theorem d_Le_power_9 : decode b_Le_power 9 = .ok (.putfield 57, 3) := by decide +kernel
theorem d_Le_power_12 : decode b_Le_power 12 = .ok (.return_, 1) := by decide +kernel
theorem kc_Le_power : Cond.code y_Le_power b_Le_power 2 none ∈ gx_all := gx_in 823 (by decide +kernel)
abbrev b_Le_prepare : ByteArray := prog_1_method_9_code
def y_Le_prepare : MethodName := ⟨"CommitLedger", "prepare", "()I"⟩
theorem d_Le_prepare_0 : decode b_Le_prepare 0 = .ok (.aload_n 0, 1) := by decide +kernel
theorem d_Le_prepare_1 : decode b_Le_prepare 1 = .ok (.invokevirtual 112, 3) := by decide +kernel
theorem d_Le_prepare_4 : decode b_Le_prepare 4 = .ok (.aload_n 0, 1) := by decide +kernel
theorem d_Le_prepare_5 : decode b_Le_prepare 5 = .ok (.invokevirtual 172, 3) := by decide +kernel
theorem d_Le_prepare_8 : decode b_Le_prepare 8 = .ok (.aload_n 0, 1) := by decide +kernel
theorem d_Le_prepare_9 : decode b_Le_prepare 9 = .ok (.invokevirtual 175, 3) := by decide +kernel
theorem d_Le_prepare_12 : decode b_Le_prepare 12 = .ok (.ifCond .eq 12, 3) := by decide +kernel
theorem d_Le_prepare_15 : decode b_Le_prepare 15 = .ok (.aload_n 0, 1) := by decide +kernel
theorem d_Le_prepare_16 : decode b_Le_prepare 16 = .ok (.getfield 84, 3) := by decide +kernel
theorem d_Le_prepare_19 : decode b_Le_prepare 19 = .ok (.iconst 1, 1) := by decide +kernel
theorem d_Le_prepare_20 : decode b_Le_prepare 20 = .ok (.iadd, 1) := by decide +kernel
theorem d_Le_prepare_21 : decode b_Le_prepare 21 = .ok (.goto 4, 3) := by decide +kernel
theorem d_Le_prepare_24 : decode b_Le_prepare 24 = .ok (.iconst 0, 1) := by decide +kernel
theorem d_Le_prepare_25 : decode b_Le_prepare 25 = .ok (.ireturn, 1) := by decide +kernel
theorem kc_Le_prepare : Cond.code y_Le_prepare b_Le_prepare 1 (some .int) ∈ gx_all := gx_in 761 (by decide +kernel)
